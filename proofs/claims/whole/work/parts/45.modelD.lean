theorem fl_Model_73 : (.fieldLink R_Model 73 R_Model "clock" "I" : Cond) ∈ ps_tb := ps_in 528 (by decide +kernel) rfl
theorem fl_Model_30 : (.fieldLink R_Model 30 R_Model "uses" "[I" : Cond) ∈ ps_tb := ps_in 527 (by decide +kernel) rfl
theorem fl_Model_13 : (.fieldLink R_Model 13 R_Model "room" "I" : Cond) ∈ ps_tb := ps_in 522 (by decide +kernel) rfl
def rm_Model_use : Room := { frames := 0, cells := 0, slots := 0, locals := 0 }
abbrev ws_Model_use : List Cond := .code y_Model_use b_Model_use 2 none :: ps_tb
set_option maxHeartbeats 4000000 in
set_option maxRecDepth 100000 in
theorem c_Model_use {l : Launch} {D : va_G} {g : Nat → Nat} {cI cZ : ClassId} {σ : pm_τ} (hg : ps_inj 13 g) (c1 : Nat) (hc1 : σ.1 9 = nI c1) (t : Nat) (ht6 : t < 6) : Met l y_Model_use ws_Model_use rm_Model_use (ps_Pc D pm_cl (pm_tys cI cZ) 13 g (pm_E g cI cZ σ) [.ref (g 0), .int (nI t)]) (ps_Qv (S := pm_τ) D pm_cl 13 g (fun u => pm_E g cI cZ u) (fun u => u = pm_uA (pm_uI σ 9 (nI (c1 + 1))) 5 (va_up (σ.2.1 5) t (nI (c1 + 1))))) 0 0 (ps_wA 13 g) := by
  refine ps_met (by decide) ?_
  intro p e s m args below meth c hx hb hr hml hts hown hlocks hname hv Q hQ
  obtain ⟨ha, hP, hK⟩ := hv
  have hT : ∀ w ∈ ps_tb, w.before args s = true := fun w h => hts w (List.mem_cons_of_mem _ h)
  have hown : s.vm.findClass R_Model = some m.cls := hown
  have hS : va_S (ps_wA 13 g) s.heap s.heap [] := va_S.rf
  refine ps_enter ha (Nat.le_of_ble_eq_true rfl) (fun ls hl => ?_)
  have hl : lv_has ls 2 [(0, .ref (g 0)), (1, .int (nI t))] := hl
  refine lv_aload_n hx hb d_Model_use_0 rfl (lv_at hl 0 rfl) ?_
  refine lv_dup hx hb d_Model_use_1 rfl ?_
  refine ps_get (v := .int (σ.1 9)) hx hb hT i_Model hown hK hP (k := 0) (by decide) pm_E_0 rfl 9 (by decide) (hT _ fl_Model_73) (fun _ h9 => h9) rfl d_Model_use_2 ?_
  refine ps_seti (y := nI c1) hc1 ?_
  refine lv_iconst (v := nI 1) hx hb d_Model_use_5 (by decide) ?_
  refine lv_iadd hx hb d_Model_use_6 ?_
  refine ps_seti (y := nI (c1 + 1)) (nI_add _ _) ?_
  refine ps_put (v := .int (nI (c1 + 1))) (ty := .int) hx hb hT i_Model t_Model t_Model_ok n_Model hown hK hg hP hS (k := 0) (by decide) pm_E_0 rfl 9 (by decide) (hT _ fl_Model_73) (fun _ h9 => h9) rfl (by decide +kernel) rfl rfl (Nat.le_of_ble_eq_true rfl) d_Model_use_7 (pm_E g cI cZ (pm_uI σ 9 (nI (c1 + 1)))) (pm_h1 (by decide)) (fun _ _ h => pm_E_uI h) (fun H locs hP hS => ?_)
  refine lv_aload_n hx hb d_Model_use_10 rfl (lv_at hl 0 rfl) ?_
  refine ps_get (v := .ref (g 5)) hx hb hT i_Model hown hK hP (k := 0) (by decide) pm_E_0 rfl 8 (by decide) (hT _ fl_Model_30) (fun _ h9 => h9) rfl d_Model_use_11 ?_
  refine lv_iload_n hx hb d_Model_use_14 rfl (lv_at hl 1 rfl) ?_
  refine lv_aload_n hx hb d_Model_use_15 rfl (lv_at hl 0 rfl) ?_
  refine ps_get (v := .int (nI (c1 + 1))) hx hb hT i_Model hown hK hP (k := 0) (by decide) pm_E_0 rfl 9 (by decide) (hT _ fl_Model_73) (fun _ h9 => h9) rfl d_Model_use_16 ?_
  refine ps_iast (f := σ.2.1 5) hx hb hK hg hP hS (k := 5) (by decide) 0 pm_E_5 rfl (i := t) (by omega) (by decide) d_Model_use_19 (pm_E g cI cZ (pm_uA (pm_uI σ 9 (nI (c1 + 1))) 5 (va_up (σ.2.1 5) t (nI (c1 + 1))))) rfl (fun _ _ h => pm_E_uA h) (fun H locs hP hS => ?_)
  rw [hQ]
  exact W.vret hx hb hr (fun zt ht _ => ⟨⟨(pm_uA (pm_uI σ 9 (nI (c1 + 1))) 5 (va_up (σ.2.1 5) t (nI (c1 + 1)))), rfl, rfl, ps_hp ht hP⟩, hS.F ht⟩) hS.2.2 d_Model_use_20

def rm_Model_clean : Room := { frames := 1, cells := 0, slots := 0, locals := 23 }
abbrev ws_Model_clean : List Cond := .code y_Model_clean b_Model_clean 4 none :: ps_tb
set_option maxHeartbeats 4000000 in
set_option maxRecDepth 100000 in
theorem c_Model_clean {l : Launch} {D : va_G} {g : Nat → Nat} {cI cZ : ClassId} {σ : pm_τ} (hg : ps_inj 13 g) (U : Nat → Nat) (hU : ∀ t, t < 6 → σ.2.1 5 t = nI (U t) ∧ U t < 2 ^ 30) (rm1 : Nat) (hrm : σ.1 3 = nI rm1) (hrm2 : rm1 ≤ 20000) : Met l y_Model_clean ws_Model_clean rm_Model_clean (ps_Pc D pm_cl (pm_tys cI cZ) 13 g (pm_E g cI cZ σ) [.ref (g 0)]) (ps_Qv (S := pm_τ) D pm_cl 13 g (fun u => pm_E g cI cZ u) (fun u => pm_sm [] [] [4] σ u ∧ ∀ t, t < 6 → ∀ q, q < 4096 → u.2.2 4 (4096 * t + q) = ps_evF (fun t => lN (U t)) 6 (pm_tF (pm_SS (σ.2.2 4)) 6 - rm1) (pm_SS (σ.2.2 4)) t q)) 0 0 (ps_wA 13 g) := by
  refine ps_met (by decide) ?_
  intro p e s m args below meth c hx hb hr hml hts hown hlocks hname hv Q hQ
  obtain ⟨ha, hP, hK⟩ := hv
  have hT : ∀ w ∈ ps_tb, w.before args s = true := fun w h => hts w (List.mem_cons_of_mem _ h)
  have hown : s.vm.findClass R_Model = some m.cls := hown
  have hS : va_S (ps_wA 13 g) s.heap s.heap [] := va_S.rf
  refine ps_enter ha (Nat.le_of_ble_eq_true rfl) (fun ls hl => ?_)
  have hl : lv_has ls 4 [(0, .ref (g 0))] := hl
  refine lv_iconst (v := nI 0) hx hb d_Model_clean_0 (by decide) ?_
  refine lv_istore_n (lv' := [(1, .int (nI 0)), (0, .ref (g 0))]) hx hb d_Model_clean_1 rfl hl (by decide) rfl (fun ls hl => ?_)
  refine lv_iconst (v := nI 0) hx hb d_Model_clean_2 (by decide) ?_
  refine lv_istore_n (lv' := [(2, .int (nI 0)), (1, .int (nI 0)), (0, .ref (g 0))]) hx hb d_Model_clean_3 rfl hl (by decide) rfl (fun ls hl => ?_)
  have L_a : ∀ (n_a : Nat) (i : Nat), (i ≤ 6) → 6 - i < n_a → ∀ (ls : Array Slot), lv_has ls 4 [(0, .ref (g 0)), (1, .int (nI (pm_tF (pm_SS (σ.2.2 4)) i))), (2, .int (nI i))] → W p l e rm_Model_clean s m args below meth c s.heap [] 0 0 Q (F0 m 4 ls []) := by
    intro n_a
    induction n_a with
    | zero => intro i hi hf_a; exact absurd hf_a (Nat.not_lt_zero _)
    | succ n_a ih_a =>
      intro i hi hf_a ls hl
      refine lv_iload_n hx hb d_Model_clean_4 rfl (lv_at hl 2 rfl) ?_
      refine lv_bipush (v := nI 6) hx hb d_Model_clean_5 (by decide) ?_
      refine lv_icmp_ge (tgt := 24) hx hb d_Model_clean_7 (by decide) (fun c_7 => ?_) (fun c_7 => ?_)
      · have hi6 : i = 6 := by have := ps_leT c_7 (by omega) (by omega); omega
        obtain ⟨al0, eal0⟩ : ∃ z, z = pm_tF (pm_SS (σ.2.2 4)) 6 := ⟨_, rfl⟩
        have hal0 : al0 ≤ 4096 * 6 := by rw [eal0]; exact pm_tF_le _ 6
        rw [hi6, ← eal0] at hl
        have L_b : ∀ (n_b : Nat) (k all ov : Nat) (S : Nat → Nat → Bool) (u : pm_τ), (pm_sm [] [] [4] σ u) → (∀ t, t < 6 → ∀ q, q < 4096 → u.2.2 4 (4096 * t + q) = S t q) → (pm_ev (fun t => lN (U t)) (pm_SS (σ.2.2 4)) (pm_tF (pm_SS (σ.2.2 4)) 6 - rm1) k ov S) → (all = pm_tF S 6) → (ov = all - rm1) → (all ≤ 24576) → k < n_b → ∀ (H : Heap) (locs : List Loc), va_P D pm_cl (ps_wl 13 g (pm_E g cI cZ u)) H → va_S (ps_wA 13 g) s.heap H locs → ∀ (ls : Array Slot), lv_has ls 4 [(0, .ref (g 0)), (1, .int (nI all))] → W p l e rm_Model_clean s m args below meth c H locs 0 0 Q (F0 m 24 ls []) := by
          intro n_b
          induction n_b with
          | zero => intro k all ov S u hs hS0 hev hall hov ha4 hf_b; exact absurd hf_b (Nat.not_lt_zero _)
          | succ n_b ih_b =>
            intro k all ov S u hs hS0 hev hall hov ha4 hf_b H locs hP hS ls hl
            refine lv_iload_n hx hb d_Model_clean_24 rfl (lv_at hl 1 rfl) ?_
            refine lv_aload_n hx hb d_Model_clean_25 rfl (lv_at hl 0 rfl) ?_
            refine ps_get (v := .int (u.1 3)) hx hb hT i_Model hown hK hP (k := 0) (by decide) pm_E_0 rfl 3 (by decide) (hT _ fl_Model_13) (fun _ h9 => h9) rfl d_Model_clean_26 ?_
            refine ps_seti (y := nI rm1) ((hs.1 3 (by decide)).trans hrm) ?_
            refine lv_icmp_le (tgt := 137) hx hb d_Model_clean_29 (by decide) (fun c_29 => ?_) (fun c_29 => ?_)
            · have hal : all ≤ rm1 := ps_leT c_29 (by omega) (by omega)
              rw [hQ]
              exact W.vret hx hb hr (fun zt ht _ => ⟨⟨u, rfl, ⟨hs, fun t ht q hq => by rw [hS0 t ht q hq, pm_ev_end (by rw [show ov = 0 by omega] at hev; exact hev)]⟩, ps_hp ht hP⟩, hS.F ht⟩) hS.2.2 d_Model_clean_137
            · have hal : rm1 < all := Nat.not_le.mp (fun q => c_29 (nI_le q (by omega)))
              obtain ⟨o, ho6, ho⟩ := pm_ev_some (us := (fun t => lN (U t))) (S := S) (by omega)
              obtain ⟨hk0, hst2, hst3⟩ := pm_ev_step hev (by omega) ho
              refine lv_iconst (v := -1) hx hb d_Model_clean_32 (by decide) ?_
              refine lv_istore_n (lv' := [(2, .int (-1)), (0, .ref (g 0)), (1, .int (nI all))]) hx hb d_Model_clean_33 rfl hl (by decide) rfl (fun ls hl => ?_)
              refine lv_iconst (v := nI 0) hx hb d_Model_clean_34 (by decide) ?_
              refine lv_istore_n (lv' := [(3, .int (nI 0)), (2, .int (-1)), (0, .ref (g 0)), (1, .int (nI all))]) hx hb d_Model_clean_35 rfl hl (by decide) rfl (fun ls hl => ?_)
              have L_c : ∀ (n_c : Nat) (i : Nat) (oo : Option Nat), (i ≤ 6) → (ps_oldF (fun t => lN (U t)) S i = oo) → 6 - i < n_c → ∀ (ls : Array Slot), lv_has ls 4 [(0, .ref (g 0)), (1, .int (nI all)), (2, .int (pm_oi oo)), (3, .int (nI i))] → W p l e rm_Model_clean s m args below meth c H locs 0 0 Q (F0 m 36 ls []) := by
                intro n_c
                induction n_c with
                | zero => intro i oo hi hoo hf_c; exact absurd hf_c (Nat.not_lt_zero _)
                | succ n_c ih_c =>
                  intro i oo hi hoo hf_c ls hl
                  refine lv_iload_n hx hb d_Model_clean_36 rfl (lv_at hl 3 rfl) ?_
                  refine lv_bipush (v := nI 6) hx hb d_Model_clean_37 (by decide) ?_
                  refine lv_icmp_ge (tgt := 78) hx hb d_Model_clean_39 (by decide) (fun c_39 => ?_) (fun c_39 => ?_)
                  · have hi6 : i = 6 := by have := ps_leT c_39 (by omega) (by omega); omega
                    rw [hi6, ho] at hoo
                    subst hoo
                    have hl : lv_has ls 4 [(0, .ref (g 0)), (1, .int (nI all)), (2, .int (nI o))] := lv_sub hl [0, 1, 2] rfl
                    refine lv_sipush (v := nI 4095) hx hb d_Model_clean_78 (by decide) ?_
                    refine lv_istore_n (lv' := [(3, .int (nI 4095)), (0, .ref (g 0)), (1, .int (nI all)), (2, .int (nI o))]) hx hb d_Model_clean_81 rfl hl (by decide) rfl (fun ls hl => ?_)
                    have hl : lv_has ls 4 [(3, .int (ps_pr 4096)), (0, .ref (g 0)), (1, .int (nI (rm1 + ov))), (2, .int (nI o))] := by
                      rw [show rm1 + ov = all by omega, show ps_pr 4096 = nI 4095 from ps_pr_s 4095]; exact lv_sub hl [0, 1, 2, 3] rfl
                    have L_d : ∀ (n_d : Nat) (y lf : Nat) (v : pm_τ), (y ≤ 4096) → (pm_sm [] [] [4] σ v) → (∀ t, t < 6 → t ≠ o → ∀ q, q < 4096 → v.2.2 4 (4096 * t + q) = S t q) → (∀ q, q < 4096 → v.2.2 4 (4096 * o + q) = ps_dl (S o) ov y q) → (lf = ps_left (S o) ov y) → (lf ≤ ov) → y < n_d → ∀ (H : Heap) (locs : List Loc), va_P D pm_cl (ps_wl 13 g (pm_E g cI cZ v)) H → va_S (ps_wA 13 g) s.heap H locs → ∀ (ls : Array Slot), lv_has ls 4 [(0, .ref (g 0)), (1, .int (nI (rm1 + lf))), (2, .int (nI o)), (3, .int (ps_pr y))] → W p l e rm_Model_clean s m args below meth c H locs 0 0 Q (F0 m 82 ls []) := by
                      intro n_d
                      induction n_d with
                      | zero => intro y lf v hy hsv hov1 hdv hlf hlf2 hf_d; exact absurd hf_d (Nat.not_lt_zero _)
                      | succ n_d ih_d =>
                        intro y lf v hy hsv hov1 hdv hlf hlf2 hf_d H locs hP hS ls hl
                        refine lv_iload_n hx hb d_Model_clean_82 rfl (lv_at hl 3 rfl) ?_
                        refine lv_if_lt (tgt := 134) hx hb d_Model_clean_83 (by decide) (fun c_83 => ?_) (fun c_83 => ?_)
                        · have hy0 : y = 0 := ps_pr_neg (by omega) c_83
                          have elf0 : lf = ps_left (S o) ov 0 := by rw [hlf, hy0]
                          have hd0 : ∀ q, q < 4096 → v.2.2 4 (4096 * o + q) = ps_dl (S o) ov 0 q := fun q hq => by rw [hdv q hq, hy0]
                          have hSv : ∀ t, t < 6 → ∀ q, q < 4096 → v.2.2 4 (4096 * t + q) = va_up S o (ps_dl (S o) ov 0) t q := fun t ht q hq => by
                            by_cases e : t = o
                            · subst e; rw [va_up_self]; exact hd0 q hq
                            · rw [va_up_ne _ _ e]; exact hov1 t ht e q hq
                          refine lv_goto (tgt := 24) hx hb d_Model_clean_134 (by decide) ?_
                          exact ih_b (k - 1) (rm1 + lf) lf (va_up S o (ps_dl (S o) ov 0)) v hsv hSv (by rw [elf0]; exact hst2) (by omega) (by omega) (by omega) (by omega) _ _ hP hS ls (lv_sub hl [0, 1] rfl)
                        · have hy0 : ¬ y = 0 := ps_pr_pos c_83
                          obtain ⟨w, rfl⟩ : ∃ z, y = z + 1 := ⟨y - 1, by omega⟩
                          rw [ps_pr_s] at hl
                          refine lv_iload_n hx hb d_Model_clean_86 rfl (lv_at hl 1 rfl) ?_
                          refine lv_aload_n hx hb d_Model_clean_87 rfl (lv_at hl 0 rfl) ?_
                          refine ps_get (v := .int (v.1 3)) hx hb hT i_Model hown hK hP (k := 0) (by decide) pm_E_0 rfl 3 (by decide) (hT _ fl_Model_13) (fun _ h9 => h9) rfl d_Model_clean_88 ?_
                          refine ps_seti (y := nI rm1) ((hsv.1 3 (by decide)).trans hrm) ?_
                          refine lv_icmp_le (tgt := 134) hx hb d_Model_clean_91 (by decide) (fun c_91 => ?_) (fun c_91 => ?_)
                          · have hlf0 : lf = 0 := by have := ps_leT c_91 (by omega) (by omega); omega
                            have hdd := ps_dl_done (n := ov) (S := S o) (a := 0) (p := w + 1) (by omega) (by omega) (by rw [← hlf]; exact hlf0)
                            have elf0 : lf = ps_left (S o) ov 0 := by rw [hlf0, hdd.1]
                            have hd0 : ∀ q, q < 4096 → v.2.2 4 (4096 * o + q) = ps_dl (S o) ov 0 q := fun q hq => by rw [hdv q hq, hdd.2 q]
                            have hSv : ∀ t, t < 6 → ∀ q, q < 4096 → v.2.2 4 (4096 * t + q) = va_up S o (ps_dl (S o) ov 0) t q := fun t ht q hq => by
                              by_cases e : t = o
                              · subst e; rw [va_up_self]; exact hd0 q hq
                              · rw [va_up_ne _ _ e]; exact hov1 t ht e q hq
                            refine lv_goto (tgt := 24) hx hb d_Model_clean_134 (by decide) ?_
                            exact ih_b (k - 1) (rm1 + lf) lf (va_up S o (ps_dl (S o) ov 0)) v hsv hSv (by rw [elf0]; exact hst2) (by omega) (by omega) (by omega) (by omega) _ _ hP hS ls (lv_sub hl [0, 1] rfl)
                          · have hlf0 : 0 < lf := by have := Nat.not_le.mp (fun q => c_91 (nI_le (a := rm1 + lf) (b := rm1) q (by omega))); omega
                            refine lv_aload_n hx hb d_Model_clean_94 rfl (lv_at hl 0 rfl) ?_
                            refine ps_get (v := .ref (g 4)) hx hb hT i_Model hown hK hP (k := 0) (by decide) pm_E_0 rfl 7 (by decide) (hT _ fl_Model_26) (fun _ h9 => h9) rfl d_Model_clean_95 ?_
                            refine lv_sipush (v := nI 4096) hx hb d_Model_clean_98 (by decide) ?_
                            refine lv_iload_n hx hb d_Model_clean_101 rfl (lv_at hl 2 rfl) ?_
                            refine lv_imul hx hb d_Model_clean_102 ?_
                            refine ps_seti (y := nI (4096 * o)) (pk_mul _ _) ?_
                            refine lv_iload_n hx hb d_Model_clean_103 rfl (lv_at hl 3 rfl) ?_
                            refine lv_iadd hx hb d_Model_clean_104 ?_
                            refine ps_seti (y := nI (4096 * o + w)) (nI_add _ _) ?_
                            refine ps_zald (T := v.2.2 4) hx hb hK hP (k := 4) (by decide) 1 pm_E_4 rfl (i := (4096 * o + w)) (by omega) (by decide) d_Model_clean_105 ?_
                            refine lv_if_ne (tgt := 112) hx hb d_Model_clean_106 (by decide) (fun c_106 => ?_) (fun c_106 => ?_)
                            · have hb0 : v.2.2 4 (4096 * o + w) = true := ps_bI_n0.mp c_106
                              have hSw : S o w = true := by rw [hdv w (by omega), ps_dl_low (by omega)] at hb0; exact hb0
                              have hd1 := ps_dl_one (n := ov) (by omega) hSw (by omega)
                              refine lv_aload_n hx hb d_Model_clean_112 rfl (lv_at hl 0 rfl) ?_
                              refine ps_get (v := .ref (g 4)) hx hb hT i_Model hown hK hP (k := 0) (by decide) pm_E_0 rfl 7 (by decide) (hT _ fl_Model_26) (fun _ h9 => h9) rfl d_Model_clean_113 ?_
                              refine lv_sipush (v := nI 4096) hx hb d_Model_clean_116 (by decide) ?_
                              refine lv_iload_n hx hb d_Model_clean_119 rfl (lv_at hl 2 rfl) ?_
                              refine lv_imul hx hb d_Model_clean_120 ?_
                              refine ps_seti (y := nI (4096 * o)) (pk_mul _ _) ?_
                              refine lv_iload_n hx hb d_Model_clean_121 rfl (lv_at hl 3 rfl) ?_
                              refine lv_iadd hx hb d_Model_clean_122 ?_
                              refine ps_seti (y := nI (4096 * o + w)) (nI_add _ _) ?_
                              refine lv_iconst (v := nI 0) hx hb d_Model_clean_123 (by decide) ?_
                              refine ps_zast (T := v.2.2 4) hx hb hK hg hP hS (k := 4) (by decide) 1 pm_E_4 rfl (i := (4096 * o + w)) (by omega) (by decide) false (by decide) d_Model_clean_124 (pm_E g cI cZ (pm_uZ v 4 (va_up (v.2.2 4) (4096 * o + w) false))) rfl (fun _ _ h => pm_E_uZ h) (fun H locs hP hS => ?_)
                              refine lv_iinc (v := (nI (rm1 + (lf - 1)))) (lv' := [(1, .int (nI (rm1 + (lf - 1)))), (0, .ref (g 0)), (2, .int (nI o)), (3, .int (nI w))]) hx hb d_Model_clean_125 hl (k := 1) rfl (by rw [ps_dec1 (by omega)]; congr 1; omega) (by decide) rfl (fun ls hl => ?_)
                              refine lv_iinc (v := (ps_pr w)) (lv' := [(3, .int (ps_pr w)), (1, .int (nI (rm1 + (lf - 1)))), (0, .ref (g 0)), (2, .int (nI o))]) hx hb d_Model_clean_128 hl (k := 3) rfl rfl (by decide) rfl (fun ls hl => ?_)
                              refine lv_goto (tgt := 82) hx hb d_Model_clean_131 (by decide) ?_
                              exact ih_d w (lf - 1) (pm_uZ v 4 (va_up (v.2.2 4) (4096 * o + w) false)) (by omega) (hsv.Z (by decide)) (fun t ht hto q hq => by show va_up (v.2.2 4) (4096 * o + w) false (4096 * t + q) = _; rw [va_up_ne _ _ (by omega)]; exact hov1 t ht hto q hq) (fun q hq => by
                                show va_up (v.2.2 4) (4096 * o + w) false (4096 * o + q) = _
                                rw [hd1.2 q]
                                by_cases e : q = w
                                · subst e; rw [va_up_self]; simp
                                · rw [va_up_ne _ _ (by omega), hdv q hq, decide_eq_false e]; simp) (by have := hd1.1; omega) (by omega) (by omega) _ _ hP hS ls (lv_sub hl [2, 1, 3, 0] rfl)
                            · have hb0 : v.2.2 4 (4096 * o + w) = false := ps_bI_0.mp c_106
                              have hSw : S o w = false := by rw [hdv w (by omega), ps_dl_low (by omega)] at hb0; exact hb0
                              refine lv_goto (tgt := 128) hx hb d_Model_clean_109 (by decide) ?_
                              refine lv_iinc (v := (ps_pr w)) (lv' := [(3, .int (ps_pr w)), (0, .ref (g 0)), (1, .int (nI (rm1 + lf))), (2, .int (nI o))]) hx hb d_Model_clean_128 hl (k := 3) rfl rfl (by decide) rfl (fun ls hl => ?_)
                              refine lv_goto (tgt := 82) hx hb d_Model_clean_131 (by decide) ?_
                              exact ih_d w lf v (by omega) hsv hov1 (fun q hq => by rw [(ps_dl_none hSw).2 q]; exact hdv q hq) (by rw [(ps_dl_none hSw).1]; exact hlf) (by omega) (by omega) _ _ hP hS ls (lv_sub hl [1, 2, 3, 0] rfl)
                    exact L_d (4096 + 1) 4096 ov u (Nat.le_refl _) hs (fun t ht _ => hS0 t ht) (fun q hq => by rw [ps_dl_top _ _ hq]; exact hS0 o ho6 q hq) ((ps_left_top _ _).symm) (Nat.le_refl _) (by omega) _ _ hP hS ls (lv_sub hl [1, 2, 3, 0] rfl)
                  · have hi6 : i < 6 := by have := ps_ltOf c_39 (by omega) (by omega); omega
                    refine lv_aload_n hx hb d_Model_clean_42 rfl (lv_at hl 0 rfl) ?_
                    refine lv_iload_n hx hb d_Model_clean_43 rfl (lv_at hl 3 rfl) ?_
                    refine ps_roi (k := 0) (As := [.int (nI i)]) (rest := []) ⟨hx, hb, hml, hown, hT⟩ (c_Model_heldOf (σ := u) i (by omega)) (cwV 1 hT (ps_gV ml_Model_76 im_Model_heldOf se_Model_heldOf in_Model co_Model_heldOf) rfl rfl rfl cd_Model_heldOf ⟨Nat.le_of_ble_eq_true rfl, Nat.le_of_ble_eq_true rfl⟩) hK hP (by omega) pm_E_0 rfl rfl hl.1 rfl (Nat.le_of_ble_eq_true rfl) d_Model_clean_44 ⟨Nat.zero_le _, Nat.zero_le _⟩ (fun rr hrr => ?_)
                    obtain ⟨cnt, ecnt⟩ : ∃ z, z = ps_cn (S i) 4096 := ⟨_, rfl⟩
                    have hcn : rr = nI cnt := by rw [hrr, ecnt, ps_cn_congr 4096 (fun q hq => hS0 i (by omega) q hq)]
                    have hcn4 : cnt ≤ 4096 := by rw [ecnt]; exact ps_cn_le _ 4096
                    subst hcn
                    refine lv_if_le (tgt := 72) hx hb d_Model_clean_47 (by decide) (fun c_47 => ?_) (fun c_47 => ?_)
                    · have hz0 : cnt = 0 := ps_le0 (by omega) c_47
                      refine lv_iinc (v := (nI (i + 1))) (lv' := [(3, .int (nI (i + 1))), (0, .ref (g 0)), (1, .int (nI all)), (2, .int (pm_oi oo))]) hx hb d_Model_clean_72 hl (k := 3) rfl (nI_1 _) (by decide) rfl (fun ls hl => ?_)
                      refine lv_goto (tgt := 36) hx hb d_Model_clean_75 (by decide) ?_
                      exact ih_c (i + 1) oo (by omega) (by rw [ps_oldF_e (pm_nx_cn.mpr (by rw [← ecnt]; exact hz0))]; exact hoo) (by omega)  ls (lv_sub hl [1, 2, 3, 0] rfl)
                    · have hz0 : 0 < cnt := ps_nle0 c_47
                      have hne : ¬ ps_nx (S i) true 0 = 4096 := fun q => by have := pm_nx_cn.mp q; omega
                      cases oo with
                      | none =>
                        have hl : lv_has ls 4 [(0, .ref (g 0)), (1, .int (nI all)), (2, .int (-1)), (3, .int (nI i))] := hl
                        refine lv_iload_n hx hb d_Model_clean_50 rfl (lv_at hl 2 rfl) ?_
                        refine lv_iconst (v := -1) hx hb d_Model_clean_51 (by decide) ?_
                        refine lv_icmp_eq (tgt := 70) hx hb d_Model_clean_52 (by decide) (fun c_52 => ?_) (fun c_52 => ?_)
                        · refine lv_iload_n hx hb d_Model_clean_70 rfl (lv_at hl 3 rfl) ?_
                          refine lv_istore_n (lv' := [(2, .int (nI i)), (0, .ref (g 0)), (1, .int (nI all)), (3, .int (nI i))]) hx hb d_Model_clean_71 rfl hl (by decide) rfl (fun ls hl => ?_)
                          refine lv_iinc (v := (nI (i + 1))) (lv' := [(3, .int (nI (i + 1))), (2, .int (nI i)), (0, .ref (g 0)), (1, .int (nI all))]) hx hb d_Model_clean_72 hl (k := 3) rfl (nI_1 _) (by decide) rfl (fun ls hl => ?_)
                          refine lv_goto (tgt := 36) hx hb d_Model_clean_75 (by decide) ?_
                          exact ih_c (i + 1) (some i) (by omega) (ps_oldF_n hne hoo) (by omega)  ls (lv_sub hl [2, 3, 1, 0] rfl)
                        · exact absurd rfl c_52
                      | some o1 =>
                        have hl : lv_has ls 4 [(0, .ref (g 0)), (1, .int (nI all)), (2, .int (nI o1)), (3, .int (nI i))] := hl
                        have ho1 : o1 < 6 := by have := ps_oldF_lt _ _ _ _ hoo; omega
                        refine lv_iload_n hx hb d_Model_clean_50 rfl (lv_at hl 2 rfl) ?_
                        refine lv_iconst (v := -1) hx hb d_Model_clean_51 (by decide) ?_
                        refine lv_icmp_eq (tgt := 70) hx hb d_Model_clean_52 (by decide) (fun c_52 => ?_) (fun c_52 => ?_)
                        · exact absurd c_52 (ps_nI_m1 (by omega))
                        · refine lv_aload_n hx hb d_Model_clean_55 rfl (lv_at hl 0 rfl) ?_
                          refine ps_get (v := .ref (g 5)) hx hb hT i_Model hown hK hP (k := 0) (by decide) pm_E_0 rfl 8 (by decide) (hT _ fl_Model_30) (fun _ h9 => h9) rfl d_Model_clean_56 ?_
                          refine lv_iload_n hx hb d_Model_clean_59 rfl (lv_at hl 3 rfl) ?_
                          refine ps_iald (f := u.2.1 5) hx hb hK hP (k := 5) (by decide) 0 pm_E_5 rfl (i := i) (by omega) (by decide) d_Model_clean_60 ?_
                          refine ps_seti (y := nI (U i)) ((congrFun (hs.2.1 5 (by decide)) i).trans (hU i (by omega)).1) ?_
                          refine lv_aload_n hx hb d_Model_clean_61 rfl (lv_at hl 0 rfl) ?_
                          refine ps_get (v := .ref (g 5)) hx hb hT i_Model hown hK hP (k := 0) (by decide) pm_E_0 rfl 8 (by decide) (hT _ fl_Model_30) (fun _ h9 => h9) rfl d_Model_clean_62 ?_
                          refine lv_iload_n hx hb d_Model_clean_65 rfl (lv_at hl 2 rfl) ?_
                          refine ps_iald (f := u.2.1 5) hx hb hK hP (k := 5) (by decide) 0 pm_E_5 rfl (i := o1) (by omega) (by decide) d_Model_clean_66 ?_
                          refine ps_seti (y := nI (U o1)) ((congrFun (hs.2.1 5 (by decide)) o1).trans (hU o1 (by omega)).1) ?_
                          refine lv_icmp_ge (tgt := 72) hx hb d_Model_clean_67 (by decide) (fun c_67 => ?_) (fun c_67 => ?_)
                          · have hge : U o1 ≤ U i := ps_leT c_67 (by have := (hU o1 ho1).2; omega) (by have := (hU i (by omega)).2; omega)
                            refine lv_iinc (v := (nI (i + 1))) (lv' := [(3, .int (nI (i + 1))), (0, .ref (g 0)), (1, .int (nI all)), (2, .int (nI o1))]) hx hb d_Model_clean_72 hl (k := 3) rfl (nI_1 _) (by decide) rfl (fun ls hl => ?_)
                            refine lv_goto (tgt := 36) hx hb d_Model_clean_75 (by decide) ?_
                            exact ih_c (i + 1) (some o1) (by omega) (by rw [ps_oldF_s hne hoo, if_neg (fun q => by have := (pk_lLT (by have := (hU i (by omega)).2; omega) (by have := (hU o1 ho1).2; omega)).mp q; omega)]) (by omega)  ls (lv_sub hl [1, 2, 3, 0] rfl)
                          · have hge : U i < U o1 := ps_ltOf c_67 (by have := (hU i (by omega)).2; omega) (by have := (hU o1 ho1).2; omega)
                            refine lv_iload_n hx hb d_Model_clean_70 rfl (lv_at hl 3 rfl) ?_
                            refine lv_istore_n (lv' := [(2, .int (nI i)), (0, .ref (g 0)), (1, .int (nI all)), (3, .int (nI i))]) hx hb d_Model_clean_71 rfl hl (by decide) rfl (fun ls hl => ?_)
                            refine lv_iinc (v := (nI (i + 1))) (lv' := [(3, .int (nI (i + 1))), (2, .int (nI i)), (0, .ref (g 0)), (1, .int (nI all))]) hx hb d_Model_clean_72 hl (k := 3) rfl (nI_1 _) (by decide) rfl (fun ls hl => ?_)
                            refine lv_goto (tgt := 36) hx hb d_Model_clean_75 (by decide) ?_
                            exact ih_c (i + 1) (some i) (by omega) (by rw [ps_oldF_s hne hoo, if_pos ((pk_lLT (by have := (hU i (by omega)).2; omega) (by have := (hU o1 ho1).2; omega)).mpr hge)]) (by omega)  ls (lv_sub hl [2, 3, 1, 0] rfl)
              exact L_c (6 - 0 + 1) 0 none (by omega) rfl (by omega)  ls (lv_sub hl [2, 3, 1, 0] rfl)
        exact L_b (6 + 1) 6 al0 (al0 - rm1) (pm_SS (σ.2.2 4)) (σ) (pm_sm_rf _ _ _ _) (fun t _ q _ => rfl) (by rw [eal0]; exact pm_ev_0 _ _ _) eal0 rfl (by omega) (by omega) _ _ hP hS ls (lv_sub hl [0, 1] rfl)
      · have hi6 : i < 6 := by have := ps_ltOf c_7 (by omega) (by omega); omega
        refine lv_iload_n hx hb d_Model_clean_10 rfl (lv_at hl 1 rfl) ?_
        refine lv_aload_n hx hb d_Model_clean_11 rfl (lv_at hl 0 rfl) ?_
        refine lv_iload_n hx hb d_Model_clean_12 rfl (lv_at hl 2 rfl) ?_
        refine ps_roi (k := 0) (As := [.int (nI i)]) (rest := [.int (nI (pm_tF (pm_SS (σ.2.2 4)) i))]) ⟨hx, hb, hml, hown, hT⟩ (c_Model_heldOf (σ := σ) i (by omega)) (cwV 1 hT (ps_gV ml_Model_76 im_Model_heldOf se_Model_heldOf in_Model co_Model_heldOf) rfl rfl rfl cd_Model_heldOf ⟨Nat.le_of_ble_eq_true rfl, Nat.le_of_ble_eq_true rfl⟩) hK hP (by omega) pm_E_0 rfl rfl hl.1 rfl (Nat.le_of_ble_eq_true rfl) d_Model_clean_13 ⟨Nat.zero_le _, Nat.zero_le _⟩ (fun rr hrr => ?_)
        refine lv_iadd hx hb d_Model_clean_16 ?_
        refine ps_seti (y := nI (pm_tF (pm_SS (σ.2.2 4)) (i + 1))) (by rw [hrr, nI_add, pm_tF]) ?_
        refine lv_istore_n (lv' := [(1, .int (nI (pm_tF (pm_SS (σ.2.2 4)) (i + 1)))), (0, .ref (g 0)), (2, .int (nI i))]) hx hb d_Model_clean_17 rfl hl (by decide) rfl (fun ls hl => ?_)
        refine lv_iinc (v := (nI (i + 1))) (lv' := [(2, .int (nI (i + 1))), (1, .int (nI (pm_tF (pm_SS (σ.2.2 4)) (i + 1)))), (0, .ref (g 0))]) hx hb d_Model_clean_18 hl (k := 2) rfl (nI_1 _) (by decide) rfl (fun ls hl => ?_)
        refine lv_goto (tgt := 4) hx hb d_Model_clean_21 (by decide) ?_
        exact ih_a (i + 1) (by omega) (by omega)  ls (lv_sub hl [2, 1, 0] rfl)
  exact L_a (6 - 0 + 1) 0 (by omega) (by omega)  ls (lv_sub hl [2, 1, 0] rfl)
