theorem fl_Model_64 : (.fieldLink R_Model 64 R_Model "taped" "I" : Cond) ∈ ps_tb := ps_in 521 (by decide +kernel) rfl
theorem fl_Model_7 : (.fieldLink R_Model 7 R_Model "tape" "[I" : Cond) ∈ ps_tb := ps_in 520 (by decide +kernel) rfl
theorem cl_Model_67 : (.constantLong R_Model 67 (255) : Cond) ∈ ps_tb := ps_in 607 (by decide +kernel) rfl
def rm_Model_type : Room := { frames := 0, cells := 0, slots := 0, locals := 0 }
abbrev ws_Model_type : List Cond := .code y_Model_type b_Model_type 6 (some .boolean) :: ps_tb
set_option maxHeartbeats 4000000 in
set_option maxRecDepth 100000 in
theorem c_Model_type {l : Launch} {D : va_G} {g : Nat → Nat} {cI cZ : ClassId} {σ : pm_τ} (hg : ps_inj 13 g) (t : Nat) (hn : σ.1 2 = nI t) (hn60 : t ≤ 60) (x : Int64) (nx : Int32) : Met l y_Model_type ws_Model_type rm_Model_type (ps_Pc D pm_cl (pm_tys cI cZ) 13 g (pm_E g cI cZ σ) [.ref (g 0), .long x, .int nx]) (ps_Qi (S := pm_τ) D pm_cl 13 g (fun u => pm_E g cI cZ u) (fun r u => (∃ nn : Nat, nx = nI nn ∧ 1 ≤ nn ∧ ps_tyOK x nx t ∧ t + nn ≤ 60 ∧ r = 1 ∧ pm_sm [0, 2] [1] [] σ u ∧ u.1 0 = nI 0 ∧ u.1 2 = nI (t + nn) ∧ (∀ i, i < t → u.2.1 1 i = σ.2.1 1 i) ∧ ∀ i, i < nn → u.2.1 1 (t + i) = nI (ps_by x (nn - 1 - i))) ∨ (¬ ps_tyOK x nx t ∧ r = 0 ∧ u = pm_uI σ 0 (nI 0)))) 0 0 (ps_wA 13 g) := by
  refine ps_met (by decide) ?_
  intro p e s m args below meth c hx hb hr hml hts hown hlocks hname hv Q hQ
  obtain ⟨ha, hP, hK⟩ := hv
  have hT : ∀ w ∈ ps_tb, w.before args s = true := fun w h => hts w (List.mem_cons_of_mem _ h)
  have hown : s.vm.findClass R_Model = some m.cls := hown
  have hS : va_S (ps_wA 13 g) s.heap s.heap [] := va_S.rf
  refine ps_enter ha (Nat.le_of_ble_eq_true rfl) (fun ls hl => ?_)
  have hl : lv_has ls 6 [(0, .ref (g 0)), (1, .long x), (3, .int nx)] := hl
  refine lv_aload_n hx hb d_Model_type_0 rfl (lv_at hl 0 rfl) ?_
  refine lv_iconst (v := nI 0) hx hb d_Model_type_1 (by decide) ?_
  refine ps_put (v := .int (nI 0)) (ty := .int) hx hb hT i_Model t_Model t_Model_ok n_Model hown hK hg hP hS (k := 0) (by decide) pm_E_0 rfl 0 (by decide) (hT _ fl_Model_57) (fun _ h9 => h9) rfl (by decide +kernel) rfl rfl (Nat.le_of_ble_eq_true rfl) d_Model_type_2 (pm_E g cI cZ (pm_uI σ 0 (nI 0))) (pm_h1 (by decide)) (fun _ _ h => pm_E_uI h) (fun H locs hP hS => ?_)
  refine lv_iload_n hx hb d_Model_type_5 rfl (lv_at hl 2 rfl) ?_
  refine lv_iconst (v := nI 1) hx hb d_Model_type_6 (by decide) ?_
  refine lv_icmp_lt (tgt := 27) hx hb d_Model_type_7 (by decide) (fun c_7 => ?_) (fun c_7 => ?_)
  · refine lv_iconst (v := nI 0) hx hb d_Model_type_27 (by decide) ?_
    rw [hQ]
    exact W.zret (v := nI 0) (ty := .boolean) hx hb hr (by decide +kernel) (fun zt ht _ => ⟨⟨_, (pm_uI σ 0 (nI 0)), rfl, Or.inr ⟨fun ⟨nn, e1, h1, _⟩ => absurd c_7 (by rw [e1]; exact nI_nlt h1 (by omega)), rfl, rfl⟩, ps_hp ht hP⟩, hS.F ht⟩) hS.2.2 d_Model_type_28
  · refine lv_iload_n hx hb d_Model_type_10 rfl (lv_at hl 2 rfl) ?_
    refine lv_bipush (v := nI 8) hx hb d_Model_type_11 (by decide) ?_
    refine lv_icmp_gt (tgt := 27) hx hb d_Model_type_13 (by decide) (fun c_13 => ?_) (fun c_13 => ?_)
    · refine lv_iconst (v := nI 0) hx hb d_Model_type_27 (by decide) ?_
      rw [hQ]
      exact W.zret (v := nI 0) (ty := .boolean) hx hb hr (by decide +kernel) (fun zt ht _ => ⟨⟨_, (pm_uI σ 0 (nI 0)), rfl, Or.inr ⟨fun ⟨nn, e1, _, h1, _⟩ => absurd c_13 (by rw [e1]; exact nI_nlt h1 (by decide)), rfl, rfl⟩, ps_hp ht hP⟩, hS.F ht⟩) hS.2.2 d_Model_type_28
    · obtain ⟨nn, rfl, hn1, hn8⟩ := ps_18 c_7 c_13
      refine lv_aload_n hx hb d_Model_type_16 rfl (lv_at hl 0 rfl) ?_
      refine ps_get (v := .int (σ.1 2)) hx hb hT i_Model hown hK hP (k := 0) (by decide) pm_E_0 rfl 2 (by decide) (hT _ fl_Model_64) (fun _ h9 => h9) rfl d_Model_type_17 ?_
      refine ps_seti (y := nI t) hn ?_
      refine lv_iload_n hx hb d_Model_type_20 rfl (lv_at hl 2 rfl) ?_
      refine lv_iadd hx hb d_Model_type_21 ?_
      refine ps_seti (y := nI (t + nn)) (nI_add _ _) ?_
      refine lv_bipush (v := nI 60) hx hb d_Model_type_22 (by decide) ?_
      refine lv_icmp_le (tgt := 29) hx hb d_Model_type_24 (by decide) (fun c_24 => ?_) (fun c_24 => ?_)
      · have h60 : t + nn ≤ 60 := ps_leT c_24 (by omega) (by decide)
        refine lv_iconst (v := nI 0) hx hb d_Model_type_29 (by decide) ?_
        refine lv_istore (lv' := [(4, .int (nI 0)), (0, .ref (g 0)), (1, .long x), (3, .int (nI nn))]) hx hb d_Model_type_30 hl (by decide) rfl (fun ls hl => ?_)
        have L_a : ∀ (n_a : Nat) (k : Nat), (k ≤ nn) → (∀ j, j < k → 33 ≤ ps_by x j ∧ ps_by x j ≤ 126) → nn - k < n_a → ∀ (H : Heap) (locs : List Loc), va_P D pm_cl (ps_wl 13 g (pm_E g cI cZ (pm_uI σ 0 (nI 0)))) H → va_S (ps_wA 13 g) s.heap H locs → ∀ (ls : Array Slot), lv_has ls 6 [(0, .ref (g 0)), (1, .long x), (3, .int (nI nn)), (4, .int (nI k))] → W p l e rm_Model_type s m args below meth c H locs 0 0 Q (F0 m 32 ls []) := by
          intro n_a
          induction n_a with
          | zero => intro k hk hby hf_a; exact absurd hf_a (Nat.not_lt_zero _)
          | succ n_a ih_a =>
            intro k hk hby hf_a H locs hP hS ls hl
            refine lv_iload hx hb d_Model_type_32 (lv_at hl 3 rfl) ?_
            refine lv_iload_n hx hb d_Model_type_34 rfl (lv_at hl 2 rfl) ?_
            refine lv_icmp_ge (tgt := 74) hx hb d_Model_type_35 (by decide) (fun c_35 => ?_) (fun c_35 => ?_)
            · have hkn : k = nn := by have := ps_leT c_35 (by omega) (by omega); omega
              have hok : ps_tyOK x (nI nn) t := ⟨nn, rfl, hn1, hn8, h60, fun j hj => hby j (by omega)⟩
              refine lv_iload_n hx hb d_Model_type_74 rfl (lv_at hl 2 rfl) ?_
              refine lv_iconst (v := nI 1) hx hb d_Model_type_75 (by decide) ?_
              refine lv_isub hx hb d_Model_type_76 ?_
              refine ps_seti (y := ps_pr nn) (ps_sub1 nn) ?_
              refine lv_istore (lv' := [(4, .int (ps_pr nn)), (0, .ref (g 0)), (1, .long x), (3, .int (nI nn))]) hx hb d_Model_type_77 hl (by decide) rfl (fun ls hl => ?_)
              have L_b : ∀ (n_b : Nat) (v : Nat) (u : pm_τ), (v ≤ nn) → (pm_sm [0, 2] [1] [] σ u) → (u.1 0 = nI 0) → (u.1 2 = nI (t + (nn - v))) → (∀ i, i < t → u.2.1 1 i = σ.2.1 1 i) → (∀ i, i < nn - v → u.2.1 1 (t + i) = nI (ps_by x (nn - 1 - i))) → v < n_b → ∀ (H : Heap) (locs : List Loc), va_P D pm_cl (ps_wl 13 g (pm_E g cI cZ u)) H → va_S (ps_wA 13 g) s.heap H locs → ∀ (ls : Array Slot), lv_has ls 6 [(0, .ref (g 0)), (1, .long x), (4, .int (ps_pr v))] → W p l e rm_Model_type s m args below meth c H locs 0 0 Q (F0 m 79 ls []) := by
                intro n_b
                induction n_b with
                | zero => intro v u hv hs hu0 hu2 hf1 hf2 hf_b; exact absurd hf_b (Nat.not_lt_zero _)
                | succ n_b ih_b =>
                  intro v u hv hs hu0 hu2 hf1 hf2 hf_b H locs hP hS ls hl
                  refine lv_iload hx hb d_Model_type_79 (lv_at hl 2 rfl) ?_
                  refine lv_if_lt (tgt := 121) hx hb d_Model_type_81 (by decide) (fun c_81 => ?_) (fun c_81 => ?_)
                  · have hv0 : v = 0 := ps_pr_neg (by omega) c_81
                    refine lv_iconst (v := nI 1) hx hb d_Model_type_121 (by decide) ?_
                    rw [hQ]
                    exact W.zret (v := nI 1) (ty := .boolean) hx hb hr (by decide +kernel) (fun zt ht _ => ⟨⟨_, u, rfl, Or.inl ⟨nn, rfl, hn1, hok, h60, rfl, hs, hu0, by rw [hu2, hv0]; rfl, hf1, fun i hi => hf2 i (by omega)⟩, ps_hp ht hP⟩, hS.F ht⟩) hS.2.2 d_Model_type_122
                  · have hv0 : ¬ v = 0 := ps_pr_pos c_81
                    obtain ⟨w, rfl⟩ : ∃ z, v = z + 1 := ⟨v - 1, by omega⟩
                    rw [ps_pr_s] at hl
                    refine lv_aload_n hx hb d_Model_type_84 rfl (lv_at hl 0 rfl) ?_
                    refine ps_get (v := .ref (g 1)) hx hb hT i_Model hown hK hP (k := 0) (by decide) pm_E_0 rfl 1 (by decide) (hT _ fl_Model_7) (fun _ h9 => h9) rfl d_Model_type_85 ?_
                    refine lv_aload_n hx hb d_Model_type_88 rfl (lv_at hl 0 rfl) ?_
                    refine ps_get (v := .int (u.1 2)) hx hb hT i_Model hown hK hP (k := 0) (by decide) pm_E_0 rfl 2 (by decide) (hT _ fl_Model_64) (fun _ h9 => h9) rfl d_Model_type_89 ?_
                    refine ps_seti (y := nI (t + (nn - (w + 1)))) hu2 ?_
                    refine lv_lload_n hx hb d_Model_type_92 rfl (lv_at hl 1 rfl) ?_
                    refine lv_bipush (v := nI 8) hx hb d_Model_type_93 (by decide) ?_
                    refine lv_iload hx hb d_Model_type_95 (lv_at hl 2 rfl) ?_
                    refine lv_imul hx hb d_Model_type_97 ?_
                    refine ps_seti (y := nI (8 * w)) (pk_mul _ _) ?_
                    refine lv_lshr (v := x >>> ((nI (8 * w)).toInt64 &&& 63)) hx hb d_Model_type_98 rfl ?_
                    refine lv_ldc2 (v := (255)) hx hb hown (hT _ cl_Model_67) d_Model_type_99 ?_
                    refine lv_land hx hb d_Model_type_102 ?_
                    refine lv_l2i (v := ((x >>> ((nI (8 * w)).toInt64 &&& 63)) &&& (255 : Int64)).toInt32) hx hb d_Model_type_103 rfl ?_
                    refine ps_seti (y := nI (ps_by x w)) (pm_ashr x (by omega)) ?_
                    refine ps_iast (f := u.2.1 1) hx hb hK hg hP hS (k := 1) (by decide) 0 pm_E_1 rfl (i := t + (nn - (w + 1))) (by omega) (by decide) d_Model_type_104 (pm_E g cI cZ (pm_uA u 1 (va_up (u.2.1 1) (t + (nn - (w + 1))) (nI (ps_by x w))))) rfl (fun _ _ h => pm_E_uA h) (fun H locs hP hS => ?_)
                    refine lv_aload_n hx hb d_Model_type_105 rfl (lv_at hl 0 rfl) ?_
                    refine lv_dup hx hb d_Model_type_106 rfl ?_
                    refine ps_get (v := .int (u.1 2)) hx hb hT i_Model hown hK hP (k := 0) (by decide) pm_E_0 rfl 2 (by decide) (hT _ fl_Model_64) (fun _ h9 => h9) rfl d_Model_type_107 ?_
                    refine ps_seti (y := nI (t + (nn - (w + 1)))) hu2 ?_
                    refine lv_iconst (v := nI 1) hx hb d_Model_type_110 (by decide) ?_
                    refine lv_iadd hx hb d_Model_type_111 ?_
                    refine ps_seti (y := nI (t + (nn - (w + 1)) + 1)) (nI_add _ _) ?_
                    refine ps_put (v := .int (nI (t + (nn - (w + 1)) + 1))) (ty := .int) hx hb hT i_Model t_Model t_Model_ok n_Model hown hK hg hP hS (k := 0) (by decide) pm_E_0 rfl 2 (by decide) (hT _ fl_Model_64) (fun _ h9 => h9) rfl (by decide +kernel) rfl rfl (Nat.le_of_ble_eq_true rfl) d_Model_type_112 (pm_E g cI cZ (pm_uI (pm_uA u 1 (va_up (u.2.1 1) (t + (nn - (w + 1))) (nI (ps_by x w)))) 2 (nI (t + (nn - (w + 1)) + 1)))) (pm_h1 (by decide)) (fun _ _ h => pm_E_uI h) (fun H locs hP hS => ?_)
                    refine lv_iinc (v := (ps_pr w)) (lv' := [(4, .int (ps_pr w)), (0, .ref (g 0)), (1, .long x)]) hx hb d_Model_type_115 hl (k := 2) rfl rfl (by decide) rfl (fun ls hl => ?_)
                    refine lv_goto (tgt := 79) hx hb d_Model_type_118 (by decide) ?_
                    exact ih_b w (pm_uI (pm_uA u 1 (va_up (u.2.1 1) (t + (nn - (w + 1))) (nI (ps_by x w)))) 2 (nI (t + (nn - (w + 1)) + 1))) (by omega) ((hs.A (by decide)).I (by decide)) hu0 (by show nI (t + (nn - (w + 1)) + 1) = nI (t + (nn - w)); congr 1; omega) (fun i hi => by show va_up (u.2.1 1) (t + (nn - (w + 1))) (nI (ps_by x w)) i = _; rw [va_up_ne _ _ (by omega)]; exact hf1 i hi) (fun i hi => by
                      show va_up (u.2.1 1) (t + (nn - (w + 1))) (nI (ps_by x w)) (t + i) = _
                      rcases Nat.lt_or_ge i (nn - (w + 1)) with z | z
                      · rw [va_up_ne _ _ (by omega)]; exact hf2 i z
                      · have z2 : i = nn - (w + 1) := by omega
                        subst z2; rw [va_up_self, show nn - 1 - (nn - (w + 1)) = w by omega]) (by omega) _ _ hP hS ls (lv_sub hl [1, 2, 0] rfl)
              exact L_b (nn + 1) nn (pm_uI σ 0 (nI 0)) (Nat.le_refl nn) ((pm_sm_rf _ _ _ _).I (by decide)) rfl (by rw [Nat.sub_self]; exact hn) (fun i _ => rfl) (fun i hi => absurd hi (by omega)) (by omega) _ _ hP hS ls (lv_sub hl [1, 2, 0] rfl)
            · have hkn : k < nn := by have := ps_ltOf c_35 (by omega) (by omega); omega
              refine lv_lload_n hx hb d_Model_type_38 rfl (lv_at hl 1 rfl) ?_
              refine lv_bipush (v := nI 8) hx hb d_Model_type_39 (by decide) ?_
              refine lv_iload hx hb d_Model_type_41 (lv_at hl 3 rfl) ?_
              refine lv_imul hx hb d_Model_type_43 ?_
              refine ps_seti (y := nI (8 * k)) (pk_mul _ _) ?_
              refine lv_lshr (v := x >>> ((nI (8 * k)).toInt64 &&& 63)) hx hb d_Model_type_44 rfl ?_
              refine lv_ldc2 (v := (255)) hx hb hown (hT _ cl_Model_67) d_Model_type_45 ?_
              refine lv_land hx hb d_Model_type_48 ?_
              refine lv_l2i (v := ((x >>> ((nI (8 * k)).toInt64 &&& 63)) &&& (255 : Int64)).toInt32) hx hb d_Model_type_49 rfl ?_
              refine ps_seti (y := nI (ps_by x k)) (pm_ashr x (by omega)) ?_
              refine lv_istore (lv' := [(5, .int (nI (ps_by x k))), (0, .ref (g 0)), (1, .long x), (3, .int (nI nn)), (4, .int (nI k))]) hx hb d_Model_type_50 hl (by decide) rfl (fun ls hl => ?_)
              refine lv_iload hx hb d_Model_type_52 (lv_at hl 0 rfl) ?_
              refine lv_bipush (v := nI 33) hx hb d_Model_type_54 (by decide) ?_
              refine lv_icmp_lt (tgt := 66) hx hb d_Model_type_56 (by decide) (fun c_56 => ?_) (fun c_56 => ?_)
              · have hb0 := ps_ltT c_56 (by have := ps_by_lt x k; omega) (by decide)
                refine lv_iconst (v := nI 0) hx hb d_Model_type_66 (by decide) ?_
                rw [hQ]
                exact W.zret (v := nI 0) (ty := .boolean) hx hb hr (by decide +kernel) (fun zt ht _ => ⟨⟨_, (pm_uI σ 0 (nI 0)), rfl, Or.inr ⟨fun ⟨mm, e1, _, h2, _, h1⟩ => by have := (nI_eq (by omega) (by omega)).mp e1; have := h1 k (by omega); omega, rfl, rfl⟩, ps_hp ht hP⟩, hS.F ht⟩) hS.2.2 d_Model_type_67
              · have hb33 := ps_leOf c_56 (by have := ps_by_lt x k; omega) (by decide)
                refine lv_iload hx hb d_Model_type_59 (lv_at hl 0 rfl) ?_
                refine lv_bipush (v := nI 126) hx hb d_Model_type_61 (by decide) ?_
                refine lv_icmp_le (tgt := 68) hx hb d_Model_type_63 (by decide) (fun c_63 => ?_) (fun c_63 => ?_)
                · have hb126 := ps_leT c_63 (by have := ps_by_lt x k; omega) (by decide)
                  refine lv_iinc (v := (nI (k + 1))) (lv' := [(4, .int (nI (k + 1))), (5, .int (nI (ps_by x k))), (0, .ref (g 0)), (1, .long x), (3, .int (nI nn))]) hx hb d_Model_type_68 hl (k := 4) rfl (nI_1 _) (by decide) rfl (fun ls hl => ?_)
                  refine lv_goto (tgt := 32) hx hb d_Model_type_71 (by decide) ?_
                  exact ih_a (k + 1) (by omega) (fun j hj => by
                    rcases Nat.lt_or_ge j k with z | z
                    · exact hby j z
                    · have z2 : j = k := by omega
                      subst z2; exact ⟨hb33, hb126⟩) (by omega) _ _ hP hS ls (lv_sub hl [2, 3, 4, 0] rfl)
                · have hb0 := c_63
                  refine lv_iconst (v := nI 0) hx hb d_Model_type_66 (by decide) ?_
                  rw [hQ]
                  exact W.zret (v := nI 0) (ty := .boolean) hx hb hr (by decide +kernel) (fun zt ht _ => ⟨⟨_, (pm_uI σ 0 (nI 0)), rfl, Or.inr ⟨fun ⟨mm, e1, _, h2, _, h1⟩ => by have := (nI_eq (by omega) (by omega)).mp e1; exact hb0 (nI_le (h1 k (by omega)).2 (by decide)), rfl, rfl⟩, ps_hp ht hP⟩, hS.F ht⟩) hS.2.2 d_Model_type_67
        exact L_a (nn - 0 + 1) 0 (by omega) (fun j hj => absurd hj (Nat.not_lt_zero j)) (by omega) _ _ hP hS ls (lv_sub hl [1, 2, 3, 0] rfl)
      · have h60 : ¬ t + nn ≤ 60 := fun h => c_24 (nI_le h (by decide))
        refine lv_iconst (v := nI 0) hx hb d_Model_type_27 (by decide) ?_
        rw [hQ]
        exact W.zret (v := nI 0) (ty := .boolean) hx hb hr (by decide +kernel) (fun zt ht _ => ⟨⟨_, (pm_uI σ 0 (nI 0)), rfl, Or.inr ⟨fun ⟨mm, e1, _, _, h1, _⟩ => h60 (by have := (nI_eq (by omega) (by omega)).mp e1; omega), rfl, rfl⟩, ps_hp ht hP⟩, hS.F ht⟩) hS.2.2 d_Model_type_28
