theorem ml_Model_80 : (.methodLink R_Model 80 y_Model_isKnown : Cond) ∈ ps_tb := ps_in 627 (by decide +kernel) rfl
theorem co_Model_isKnown : (.code y_Model_isKnown b_Model_isKnown 2 (some .boolean) : Cond) ∈ ps_tb := ps_in 630 (by decide +kernel) rfl
theorem im_Model_isKnown : (.instanceMethod y_Model_isKnown : Cond) ∈ ps_tb := ps_in 629 (by decide +kernel) rfl
theorem se_Model_isKnown : (.selects R_Model y_Model_isKnown y_Model_isKnown : Cond) ∈ ps_tb := ps_inS 16 (by decide +kernel) rfl
theorem ml_Model_83 : (.methodLink R_Model 83 y_Model_use : Cond) ∈ ps_tb := ps_in 631 (by decide +kernel) rfl
theorem co_Model_use : (.code y_Model_use b_Model_use 2 none : Cond) ∈ ps_tb := ps_in 634 (by decide +kernel) rfl
theorem im_Model_use : (.instanceMethod y_Model_use : Cond) ∈ ps_tb := ps_in 633 (by decide +kernel) rfl
theorem se_Model_use : (.selects R_Model y_Model_use y_Model_use : Cond) ∈ ps_tb := ps_inS 17 (by decide +kernel) rfl
theorem ml_Model_86 : (.methodLink R_Model 86 y_Model_clean : Cond) ∈ ps_tb := ps_in 635 (by decide +kernel) rfl
theorem co_Model_clean : (.code y_Model_clean b_Model_clean 4 none : Cond) ∈ ps_tb := ps_in 638 (by decide +kernel) rfl
theorem im_Model_clean : (.instanceMethod y_Model_clean : Cond) ∈ ps_tb := ps_in 637 (by decide +kernel) rfl
theorem se_Model_clean : (.selects R_Model y_Model_clean y_Model_clean : Cond) ∈ ps_tb := ps_inS 18 (by decide +kernel) rfl
theorem fl_Model_17 : (.fieldLink R_Model 17 R_Model "cost" "I" : Cond) ∈ ps_tb := ps_in 523 (by decide +kernel) rfl
theorem cd_Model_clean : y_Model_clean.cls = R_Model ∧ y_Model_clean.cls ≠ "java/lang/invoke/MethodHandle" ∧ y_Model_clean.cls ≠ "java/lang/invoke/VarHandle" ∧ (parseMethodDescriptor y_Model_clean.desc).map (fun d => d.parameters.length) = some 0 := by decide +kernel
theorem cd_Model_isKnown : y_Model_isKnown.cls = R_Model ∧ y_Model_isKnown.cls ≠ "java/lang/invoke/MethodHandle" ∧ y_Model_isKnown.cls ≠ "java/lang/invoke/VarHandle" ∧ (parseMethodDescriptor y_Model_isKnown.desc).map (fun d => d.parameters.length) = some 1 := by decide +kernel
theorem cd_Model_use : y_Model_use.cls = R_Model ∧ y_Model_use.cls ≠ "java/lang/invoke/MethodHandle" ∧ y_Model_use.cls ≠ "java/lang/invoke/VarHandle" ∧ (parseMethodDescriptor y_Model_use.desc).map (fun d => d.parameters.length) = some 1 := by decide +kernel
def rm_Model_got : Room := { frames := 2, cells := 0, slots := 0, locals := 46 }
abbrev ws_Model_got : List Cond := .code y_Model_got b_Model_got 7 (some .int) :: ps_tb
set_option maxHeartbeats 4000000 in
set_option maxRecDepth 100000 in
theorem c_Model_got {l : Launch} {D : va_G} {g : Nat → Nat} {cI cZ : ClassId} {σ : pm_τ} (hg : ps_inj 13 g) (U : Nat → Nat) (hU : ∀ t, t < 6 → σ.2.1 5 t = nI (U t) ∧ U t < 2 ^ 30) (rm1 : Nat) (hrm : σ.1 3 = nI rm1) (hrm2 : rm1 ≤ 20000) (c1 : Nat) (hc1 : σ.1 9 = nI c1) (hc2 : c1 < 2 ^ 29) (hln : ∀ t, t < 6 → σ.2.1 2 t = -1 ∨ ∃ z : Nat, z ≤ 4095 ∧ σ.2.1 2 t = nI z) (x xa xb tg : Int32) : Met l y_Model_got ws_Model_got rm_Model_got (ps_Pc D pm_cl (pm_tys cI cZ) 13 g (pm_E g cI cZ σ) [.ref (g 0), .int x, .int xa, .int xb, .int tg]) (ps_Qi (S := pm_τ) D pm_cl 13 g (fun u => pm_E g cI cZ u) (fun r u => (∃ j a b : Nat, j < 6 ∧ x = nI j ∧ xa = nI a ∧ xb = nI b ∧ a ≤ b ∧ b < 4095 ∧ pm_acc σ j (nI a) (nI b) tg ∧ r = nI (ps_cn (ps_ad (pm_SS (σ.2.2 4) j) a b) 4096) ∧ pm_sm [0, 9] [5] [4] σ u ∧ u.1 9 = nI (c1 + 1) ∧ u.2.1 5 = va_up (σ.2.1 5) j (nI (c1 + 1)) ∧ ∃ f6 : Nat → Bool, (∀ t, t < 6 → ∀ q, q < 4096 → f6 (4096 * t + q) = (σ.2.2 4 (4096 * t + q) || (decide (t = j) && (decide (a ≤ q) && decide (q ≤ b))))) ∧ ∀ t, t < 6 → ∀ q, q < 4096 → u.2.2 4 (4096 * t + q) = ps_evF (fun t => lN (va_up U j (c1 + 1) t)) 6 (pm_tF (pm_SS f6) 6 - rm1) (pm_SS f6) t q) ∨ (((x < 0 ∨ nI 6 ≤ x) ∨ ∃ j : Nat, j < 6 ∧ x = nI j ∧ ¬ pm_acc σ j xa xb tg) ∧ r = -1 ∧ u = pm_uI σ 0 (nI 0)))) 0 0 (ps_wA 13 g) := by
  refine ps_met (by decide) ?_
  intro p e s m args below meth c hx hb hr hml hts hown hlocks hname hv Q hQ
  obtain ⟨ha, hP, hK⟩ := hv
  have hT : ∀ w ∈ ps_tb, w.before args s = true := fun w h => hts w (List.mem_cons_of_mem _ h)
  have hown : s.vm.findClass R_Model = some m.cls := hown
  have hS : va_S (ps_wA 13 g) s.heap s.heap [] := va_S.rf
  refine ps_enter ha (Nat.le_of_ble_eq_true rfl) (fun ls hl => ?_)
  have hl : lv_has ls 7 [(0, .ref (g 0)), (1, .int x), (2, .int xa), (3, .int xb), (4, .int tg)] := hl
  rcases pk_ix x (n := 6) (by decide) with h | h | ⟨j, hj, rfl⟩
  · refine lv_aload_n hx hb d_Model_got_0 rfl (lv_at hl 0 rfl) ?_
    refine lv_iconst (v := nI 0) hx hb d_Model_got_1 (by decide) ?_
    refine ps_put (v := .int (nI 0)) (ty := .int) hx hb hT i_Model t_Model t_Model_ok n_Model hown hK hg hP hS (k := 0) (by decide) pm_E_0 rfl 0 (by decide) (hT _ fl_Model_57) (fun _ h9 => h9) rfl (by decide +kernel) rfl rfl (Nat.le_of_ble_eq_true rfl) d_Model_got_2 (pm_E g cI cZ (pm_uI σ 0 (nI 0))) (pm_h1 (by decide)) (fun _ _ h => pm_E_uI h) (fun H locs hP hS => ?_)
    refine lv_aload_n hx hb d_Model_got_5 rfl (lv_at hl 0 rfl) ?_
    refine lv_iload_n hx hb d_Model_got_6 rfl (lv_at hl 1 rfl) ?_
    refine ps_roi (k := 0) (As := [.int x]) (rest := []) ⟨hx, hb, hml, hown, hT⟩ (c_Model_isKnown (σ := (pm_uI σ 0 (nI 0))) x) (cwV 1 hT (ps_gV ml_Model_80 im_Model_isKnown se_Model_isKnown in_Model co_Model_isKnown) rfl rfl rfl cd_Model_isKnown ⟨Nat.le_of_ble_eq_true rfl, Nat.le_of_ble_eq_true rfl⟩) hK hP (by omega) pm_E_0 rfl rfl hl.1 rfl (Nat.le_of_ble_eq_true rfl) d_Model_got_7 ⟨Nat.zero_le _, Nat.zero_le _⟩ (fun rr hrr => ?_)
    have hrr := pm_kn0 (Or.inl h) hrr
    subst hrr
    refine lv_if_eq (tgt := 43) hx hb d_Model_got_10 (by decide) (fun c_10 => ?_) (fun c_10 => ?_)
    · refine lv_iconst (v := -1) hx hb d_Model_got_43 (by decide) ?_
      rw [hQ]
      exact W.iret (v := -1) hx hb hr (fun zt ht _ => ⟨⟨_, (pm_uI σ 0 (nI 0)), rfl, Or.inr ⟨Or.inl (Or.inl h), rfl, rfl⟩, ps_hp ht hP⟩, hS.F ht⟩) hS.2.2 d_Model_got_44
    · exact absurd (by decide) c_10
  · refine lv_aload_n hx hb d_Model_got_0 rfl (lv_at hl 0 rfl) ?_
    refine lv_iconst (v := nI 0) hx hb d_Model_got_1 (by decide) ?_
    refine ps_put (v := .int (nI 0)) (ty := .int) hx hb hT i_Model t_Model t_Model_ok n_Model hown hK hg hP hS (k := 0) (by decide) pm_E_0 rfl 0 (by decide) (hT _ fl_Model_57) (fun _ h9 => h9) rfl (by decide +kernel) rfl rfl (Nat.le_of_ble_eq_true rfl) d_Model_got_2 (pm_E g cI cZ (pm_uI σ 0 (nI 0))) (pm_h1 (by decide)) (fun _ _ h => pm_E_uI h) (fun H locs hP hS => ?_)
    refine lv_aload_n hx hb d_Model_got_5 rfl (lv_at hl 0 rfl) ?_
    refine lv_iload_n hx hb d_Model_got_6 rfl (lv_at hl 1 rfl) ?_
    refine ps_roi (k := 0) (As := [.int x]) (rest := []) ⟨hx, hb, hml, hown, hT⟩ (c_Model_isKnown (σ := (pm_uI σ 0 (nI 0))) x) (cwV 1 hT (ps_gV ml_Model_80 im_Model_isKnown se_Model_isKnown in_Model co_Model_isKnown) rfl rfl rfl cd_Model_isKnown ⟨Nat.le_of_ble_eq_true rfl, Nat.le_of_ble_eq_true rfl⟩) hK hP (by omega) pm_E_0 rfl rfl hl.1 rfl (Nat.le_of_ble_eq_true rfl) d_Model_got_7 ⟨Nat.zero_le _, Nat.zero_le _⟩ (fun rr hrr => ?_)
    have hrr := pm_kn0 (Or.inr h) hrr
    subst hrr
    refine lv_if_eq (tgt := 43) hx hb d_Model_got_10 (by decide) (fun c_10 => ?_) (fun c_10 => ?_)
    · refine lv_iconst (v := -1) hx hb d_Model_got_43 (by decide) ?_
      rw [hQ]
      exact W.iret (v := -1) hx hb hr (fun zt ht _ => ⟨⟨_, (pm_uI σ 0 (nI 0)), rfl, Or.inr ⟨Or.inl (Or.inr h), rfl, rfl⟩, ps_hp ht hP⟩, hS.F ht⟩) hS.2.2 d_Model_got_44
    · exact absurd (by decide) c_10
  · refine lv_aload_n hx hb d_Model_got_0 rfl (lv_at hl 0 rfl) ?_
    refine lv_iconst (v := nI 0) hx hb d_Model_got_1 (by decide) ?_
    refine ps_put (v := .int (nI 0)) (ty := .int) hx hb hT i_Model t_Model t_Model_ok n_Model hown hK hg hP hS (k := 0) (by decide) pm_E_0 rfl 0 (by decide) (hT _ fl_Model_57) (fun _ h9 => h9) rfl (by decide +kernel) rfl rfl (Nat.le_of_ble_eq_true rfl) d_Model_got_2 (pm_E g cI cZ (pm_uI σ 0 (nI 0))) (pm_h1 (by decide)) (fun _ _ h => pm_E_uI h) (fun H locs hP hS => ?_)
    refine lv_aload_n hx hb d_Model_got_5 rfl (lv_at hl 0 rfl) ?_
    refine lv_iload_n hx hb d_Model_got_6 rfl (lv_at hl 1 rfl) ?_
    refine ps_roi (k := 0) (As := [.int (nI j)]) (rest := []) ⟨hx, hb, hml, hown, hT⟩ (c_Model_isKnown (σ := (pm_uI σ 0 (nI 0))) (nI j)) (cwV 1 hT (ps_gV ml_Model_80 im_Model_isKnown se_Model_isKnown in_Model co_Model_isKnown) rfl rfl rfl cd_Model_isKnown ⟨Nat.le_of_ble_eq_true rfl, Nat.le_of_ble_eq_true rfl⟩) hK hP (by omega) pm_E_0 rfl rfl hl.1 rfl (Nat.le_of_ble_eq_true rfl) d_Model_got_7 ⟨Nat.zero_le _, Nat.zero_le _⟩ (fun rr hrr => ?_)
    rcases pm_kn1 hj hrr with ⟨hkn, rfl⟩ | ⟨hkn, rfl⟩
    · refine lv_if_eq (tgt := 43) hx hb d_Model_got_10 (by decide) (fun c_10 => ?_) (fun c_10 => ?_)
      · exact absurd c_10 (by decide)
      · refine lv_aload_n hx hb d_Model_got_13 rfl (lv_at hl 0 rfl) ?_
        refine ps_get (v := .ref (g 3)) hx hb hT i_Model hown hK hP (k := 0) (by decide) pm_E_0 rfl 6 (by decide) (hT _ fl_Model_23) (fun _ h9 => h9) rfl d_Model_got_14 ?_
        refine lv_iload_n hx hb d_Model_got_17 rfl (lv_at hl 1 rfl) ?_
        refine ps_iald (f := σ.2.1 3) hx hb hK hP (k := 3) (by decide) 0 pm_E_3 rfl (i := j) (by omega) (by decide) d_Model_got_18 ?_
        refine lv_iload hx hb d_Model_got_19 (lv_at hl 4 rfl) ?_
        refine lv_icmp_ne (tgt := 43) hx hb d_Model_got_21 (by decide) (fun c_21 => ?_) (fun c_21 => ?_)
        · have hno : ¬ pm_acc σ j xa xb tg := fun h => c_21 h.1.symm
          refine lv_iconst (v := -1) hx hb d_Model_got_43 (by decide) ?_
          rw [hQ]
          exact W.iret (v := -1) hx hb hr (fun zt ht _ => ⟨⟨_, (pm_uI σ 0 (nI 0)), rfl, Or.inr ⟨Or.inr ⟨j, hj, rfl, hno⟩, rfl, rfl⟩, ps_hp ht hP⟩, hS.F ht⟩) hS.2.2 d_Model_got_44
        · refine lv_iload_n hx hb d_Model_got_24 rfl (lv_at hl 2 rfl) ?_
          refine lv_if_lt (tgt := 43) hx hb d_Model_got_25 (by decide) (fun c_25 => ?_) (fun c_25 => ?_)
          · have hno : ¬ pm_acc σ j xa xb tg := fun h => h.2.1 c_25
            refine lv_iconst (v := -1) hx hb d_Model_got_43 (by decide) ?_
            rw [hQ]
            exact W.iret (v := -1) hx hb hr (fun zt ht _ => ⟨⟨_, (pm_uI σ 0 (nI 0)), rfl, Or.inr ⟨Or.inr ⟨j, hj, rfl, hno⟩, rfl, rfl⟩, ps_hp ht hP⟩, hS.F ht⟩) hS.2.2 d_Model_got_44
          · refine lv_iload_n hx hb d_Model_got_28 rfl (lv_at hl 2 rfl) ?_
            refine lv_iload_n hx hb d_Model_got_29 rfl (lv_at hl 3 rfl) ?_
            refine lv_icmp_gt (tgt := 43) hx hb d_Model_got_30 (by decide) (fun c_30 => ?_) (fun c_30 => ?_)
            · have hno : ¬ pm_acc σ j xa xb tg := fun h => h.2.2.1 c_30
              refine lv_iconst (v := -1) hx hb d_Model_got_43 (by decide) ?_
              rw [hQ]
              exact W.iret (v := -1) hx hb hr (fun zt ht _ => ⟨⟨_, (pm_uI σ 0 (nI 0)), rfl, Or.inr ⟨Or.inr ⟨j, hj, rfl, hno⟩, rfl, rfl⟩, ps_hp ht hP⟩, hS.F ht⟩) hS.2.2 d_Model_got_44
            · refine lv_iload_n hx hb d_Model_got_33 rfl (lv_at hl 3 rfl) ?_
              refine lv_aload_n hx hb d_Model_got_34 rfl (lv_at hl 0 rfl) ?_
              refine ps_get (v := .ref (g 2)) hx hb hT i_Model hown hK hP (k := 0) (by decide) pm_E_0 rfl 5 (by decide) (hT _ fl_Model_20) (fun _ h9 => h9) rfl d_Model_got_35 ?_
              refine lv_iload_n hx hb d_Model_got_38 rfl (lv_at hl 1 rfl) ?_
              refine ps_iald (f := σ.2.1 2) hx hb hK hP (k := 2) (by decide) 0 pm_E_2 rfl (i := j) (by omega) (by decide) d_Model_got_39 ?_
              refine lv_icmp_lt (tgt := 45) hx hb d_Model_got_40 (by decide) (fun c_40 => ?_) (fun c_40 => ?_)
              · have hacc : pm_acc σ j xa xb tg := ⟨c_21.symm, c_25, c_30, Int32.not_le.mpr c_40⟩
                obtain ⟨a, b, rfl, rfl, hab, hb4⟩ := pm_acc_nat (hln j hj) hacc
                refine lv_iconst (v := nI 0) hx hb d_Model_got_45 (by decide) ?_
                refine lv_istore (lv' := [(5, .int (nI 0)), (0, .ref (g 0)), (1, .int (nI j)), (2, .int (nI a)), (3, .int (nI b)), (4, .int tg)]) hx hb d_Model_got_46 hl (by decide) rfl (fun ls hl => ?_)
                refine lv_iload_n hx hb d_Model_got_48 rfl (lv_at hl 3 rfl) ?_
                refine lv_istore (lv' := [(6, .int (nI a)), (5, .int (nI 0)), (0, .ref (g 0)), (1, .int (nI j)), (2, .int (nI a)), (3, .int (nI b)), (4, .int tg)]) hx hb d_Model_got_49 hl (by decide) rfl (fun ls hl => ?_)
                have L_a : ∀ (n_a : Nat) (i cnt : Nat) (u : pm_τ), (a ≤ i) → (i ≤ b + 1) → (cnt = ps_cn (ps_ad (pm_SS (σ.2.2 4) j) a b) i) → (pm_sm [0] [] [4] σ u) → (∀ y, u.2.2 4 y = pm_ad (σ.2.2 4) j a i y) → b + 1 - i < n_a → ∀ (H : Heap) (locs : List Loc), va_P D pm_cl (ps_wl 13 g (pm_E g cI cZ u)) H → va_S (ps_wA 13 g) s.heap H locs → ∀ (ls : Array Slot), lv_has ls 7 [(0, .ref (g 0)), (1, .int (nI j)), (3, .int (nI b)), (5, .int (nI cnt)), (6, .int (nI i))] → W p l e rm_Model_got s m args below meth c H locs 0 0 Q (F0 m 51 ls []) := by
                  intro n_a
                  induction n_a with
                  | zero => intro i cnt u hi1 hi2 hcnt hs hf hf_a; exact absurd hf_a (Nat.not_lt_zero _)
                  | succ n_a ih_a =>
                    intro i cnt u hi1 hi2 hcnt hs hf hf_a H locs hP hS ls hl
                    refine lv_iload hx hb d_Model_got_51 (lv_at hl 4 rfl) ?_
                    refine lv_iload_n hx hb d_Model_got_53 rfl (lv_at hl 2 rfl) ?_
                    refine lv_icmp_gt (tgt := 103) hx hb d_Model_got_54 (by decide) (fun c_54 => ?_) (fun c_54 => ?_)
                    · have hib : i = b + 1 := by have := ps_ltT c_54 (by omega) (by omega); omega
                      have hU5 : ∀ t, t < 6 → va_up (u.2.1 5) j (nI (c1 + 1)) t = nI (va_up U j (c1 + 1) t) ∧ va_up U j (c1 + 1) t < 2 ^ 30 := fun t ht => by
                        by_cases e : t = j
                        · subst e; rw [va_up_self, va_up_self]; exact ⟨rfl, by omega⟩
                        · rw [va_up_ne _ _ e, va_up_ne _ _ e, hs.2.1 5 (by decide)]; exact hU t ht
                      refine lv_aload_n hx hb d_Model_got_103 rfl (lv_at hl 0 rfl) ?_
                      refine lv_iload_n hx hb d_Model_got_104 rfl (lv_at hl 1 rfl) ?_
                      refine ps_wrv (k := 0) (As := [.int (nI j)]) (rest := []) ⟨hx, hb, hml, hown, hT⟩ (c_Model_use (σ := u) hg c1 ((hs.1 9 (by decide)).trans hc1) j hj) (cwV 1 hT (ps_gV ml_Model_83 im_Model_use se_Model_use in_Model co_Model_use) rfl rfl rfl cd_Model_use ⟨Nat.le_of_ble_eq_true rfl, Nat.le_of_ble_eq_true rfl⟩) hK hP hS (fun _ h => h) (by omega) pm_E_0 rfl rfl hl.1 rfl (Nat.le_of_ble_eq_true rfl) d_Model_got_105 ⟨Nat.zero_le _, Nat.zero_le _⟩ (fun u5 H locs hu5 hP hS _ => ?_)
                      subst hu5
                      refine lv_aload_n hx hb d_Model_got_108 rfl (lv_at hl 0 rfl) ?_
                      refine ps_wrv (k := 0) (As := []) (rest := []) ⟨hx, hb, hml, hown, hT⟩ (c_Model_clean (σ := (pm_uA (pm_uI u 9 (nI (c1 + 1))) 5 (va_up (u.2.1 5) j (nI (c1 + 1))))) hg (va_up U j (c1 + 1)) hU5 rm1 ((hs.1 3 (by decide)).trans hrm) hrm2) (cwV 0 hT (ps_gV ml_Model_86 im_Model_clean se_Model_clean in_Model co_Model_clean) rfl rfl rfl cd_Model_clean ⟨Nat.le_of_ble_eq_true rfl, Nat.le_of_ble_eq_true rfl⟩) hK hP hS (fun _ h => h) (by omega) pm_E_0 rfl rfl hl.1 rfl (Nat.le_of_ble_eq_true rfl) d_Model_got_109 ⟨Nat.zero_le _, Nat.zero_le _⟩ (fun u6 H locs hu6 hP hS _ => ?_)
                      obtain ⟨hs6, he6⟩ := hu6
                      refine lv_iload hx hb d_Model_got_112 (lv_at hl 3 rfl) ?_
                      rw [hQ]
                      exact W.iret (v := nI cnt) hx hb hr (fun zt ht _ => ⟨⟨_, u6, rfl, Or.inl ⟨j, a, b, hj, rfl, rfl, rfl, hab, hb4, hacc, by rw [hcnt, hib, pm_adcE (by omega)], ((((pm_sm_rf [0, 9] [5] [4] σ).to hs (by decide) (by decide) (by decide)).I (by decide)).A (by decide)).to hs6 (by decide) (by decide) (by decide), (hs6.1 9 (by decide)), by rw [hs6.2.1 5 (by decide), ← hs.2.1 5 (by decide)]; rfl, u.2.2 4, fun t ht q hq => by rw [hf, hib, pm_ad_at (by omega) hq], he6⟩, ps_hp ht hP⟩, hS.F ht⟩) hS.2.2 d_Model_got_114
                    · have hib : i ≤ b := ps_leOf c_54 (by omega) (by omega)
                      refine lv_iload hx hb d_Model_got_57 (lv_at hl 3 rfl) ?_
                      refine lv_aload_n hx hb d_Model_got_59 rfl (lv_at hl 0 rfl) ?_
                      refine ps_get (v := .ref (g 4)) hx hb hT i_Model hown hK hP (k := 0) (by decide) pm_E_0 rfl 7 (by decide) (hT _ fl_Model_26) (fun _ h9 => h9) rfl d_Model_got_60 ?_
                      refine lv_sipush (v := nI 4096) hx hb d_Model_got_63 (by decide) ?_
                      refine lv_iload_n hx hb d_Model_got_66 rfl (lv_at hl 1 rfl) ?_
                      refine lv_imul hx hb d_Model_got_67 ?_
                      refine ps_seti (y := nI (4096 * j)) (pk_mul _ _) ?_
                      refine lv_iload hx hb d_Model_got_68 (lv_at hl 4 rfl) ?_
                      refine lv_iadd hx hb d_Model_got_70 ?_
                      refine ps_seti (y := nI (4096 * j + i)) (nI_add _ _) ?_
                      refine ps_zald (T := u.2.2 4) hx hb hK hP (k := 4) (by decide) 1 pm_E_4 rfl (i := (4096 * j + i)) (by omega) (by decide) d_Model_got_71 ?_
                      refine lv_if_eq (tgt := 79) hx hb d_Model_got_72 (by decide) (fun c_72 => ?_) (fun c_72 => ?_)
                      · have hb0 : σ.2.2 4 (4096 * j + i) = false := by rw [← ps_bI_0.mp c_72, hf, pm_ad_now]
                        refine lv_iconst (v := nI 1) hx hb d_Model_got_79 (by decide) ?_
                        refine lv_iadd hx hb d_Model_got_80 ?_
                        refine ps_seti (y := nI (cnt + 1)) (nI_add _ _) ?_
                        refine lv_istore (lv' := [(5, .int (nI (cnt + 1))), (0, .ref (g 0)), (1, .int (nI j)), (3, .int (nI b)), (6, .int (nI i))]) hx hb d_Model_got_81 hl (by decide) rfl (fun ls hl => ?_)
                        refine lv_aload_n hx hb d_Model_got_83 rfl (lv_at hl 1 rfl) ?_
                        refine ps_get (v := .ref (g 4)) hx hb hT i_Model hown hK hP (k := 0) (by decide) pm_E_0 rfl 7 (by decide) (hT _ fl_Model_26) (fun _ h9 => h9) rfl d_Model_got_84 ?_
                        refine lv_sipush (v := nI 4096) hx hb d_Model_got_87 (by decide) ?_
                        refine lv_iload_n hx hb d_Model_got_90 rfl (lv_at hl 2 rfl) ?_
                        refine lv_imul hx hb d_Model_got_91 ?_
                        refine ps_seti (y := nI (4096 * j)) (pk_mul _ _) ?_
                        refine lv_iload hx hb d_Model_got_92 (lv_at hl 4 rfl) ?_
                        refine lv_iadd hx hb d_Model_got_94 ?_
                        refine ps_seti (y := nI (4096 * j + i)) (nI_add _ _) ?_
                        refine lv_iconst (v := nI 1) hx hb d_Model_got_95 (by decide) ?_
                        refine ps_zast (T := u.2.2 4) hx hb hK hg hP hS (k := 4) (by decide) 1 pm_E_4 rfl (i := (4096 * j + i)) (by omega) (by decide) true (by decide) d_Model_got_96 (pm_E g cI cZ (pm_uZ u 4 (va_up (u.2.2 4) (4096 * j + i) true))) rfl (fun _ _ h => pm_E_uZ h) (fun H locs hP hS => ?_)
                        refine lv_iinc (v := (nI (i + 1))) (lv' := [(6, .int (nI (i + 1))), (5, .int (nI (cnt + 1))), (0, .ref (g 0)), (1, .int (nI j)), (3, .int (nI b))]) hx hb d_Model_got_97 hl (k := 4) rfl (nI_1 _) (by decide) rfl (fun ls hl => ?_)
                        refine lv_goto (tgt := 51) hx hb d_Model_got_100 (by decide) ?_
                        exact ih_a (i + 1) (cnt + 1) (pm_uZ u 4 (va_up (u.2.2 4) (4096 * j + i) true)) (by omega) (by omega) (pm_adF hi1 (by omega) hb0 hcnt) (hs.Z (by decide)) (pm_ad_s hi1 hf) (by omega) _ _ hP hS ls (lv_sub hl [2, 3, 4, 1, 0] rfl)
                      · have hb0 : σ.2.2 4 (4096 * j + i) = true := by rw [← ps_bI_n0.mp c_72, hf, pm_ad_now]
                        refine lv_iconst (v := nI 0) hx hb d_Model_got_75 (by decide) ?_
                        refine lv_goto (tgt := 80) hx hb d_Model_got_76 (by decide) ?_
                        refine lv_iadd hx hb d_Model_got_80 ?_
                        refine ps_seti (y := nI (cnt + 0)) (nI_add _ _) ?_
                        refine lv_istore (lv' := [(5, .int (nI (cnt + 0))), (0, .ref (g 0)), (1, .int (nI j)), (3, .int (nI b)), (6, .int (nI i))]) hx hb d_Model_got_81 hl (by decide) rfl (fun ls hl => ?_)
                        refine lv_aload_n hx hb d_Model_got_83 rfl (lv_at hl 1 rfl) ?_
                        refine ps_get (v := .ref (g 4)) hx hb hT i_Model hown hK hP (k := 0) (by decide) pm_E_0 rfl 7 (by decide) (hT _ fl_Model_26) (fun _ h9 => h9) rfl d_Model_got_84 ?_
                        refine lv_sipush (v := nI 4096) hx hb d_Model_got_87 (by decide) ?_
                        refine lv_iload_n hx hb d_Model_got_90 rfl (lv_at hl 2 rfl) ?_
                        refine lv_imul hx hb d_Model_got_91 ?_
                        refine ps_seti (y := nI (4096 * j)) (pk_mul _ _) ?_
                        refine lv_iload hx hb d_Model_got_92 (lv_at hl 4 rfl) ?_
                        refine lv_iadd hx hb d_Model_got_94 ?_
                        refine ps_seti (y := nI (4096 * j + i)) (nI_add _ _) ?_
                        refine lv_iconst (v := nI 1) hx hb d_Model_got_95 (by decide) ?_
                        refine ps_zast (T := u.2.2 4) hx hb hK hg hP hS (k := 4) (by decide) 1 pm_E_4 rfl (i := (4096 * j + i)) (by omega) (by decide) true (by decide) d_Model_got_96 (pm_E g cI cZ (pm_uZ u 4 (va_up (u.2.2 4) (4096 * j + i) true))) rfl (fun _ _ h => pm_E_uZ h) (fun H locs hP hS => ?_)
                        refine lv_iinc (v := (nI (i + 1))) (lv' := [(6, .int (nI (i + 1))), (5, .int (nI (cnt + 0))), (0, .ref (g 0)), (1, .int (nI j)), (3, .int (nI b))]) hx hb d_Model_got_97 hl (k := 4) rfl (nI_1 _) (by decide) rfl (fun ls hl => ?_)
                        refine lv_goto (tgt := 51) hx hb d_Model_got_100 (by decide) ?_
                        exact ih_a (i + 1) (cnt + 0) (pm_uZ u 4 (va_up (u.2.2 4) (4096 * j + i) true)) (by omega) (by omega) (pm_adT hi1 (by omega) hb0 hcnt) (hs.Z (by decide)) (pm_ad_s hi1 hf) (by omega) _ _ hP hS ls (lv_sub hl [2, 3, 4, 1, 0] rfl)
                exact L_a (b + 1 - a + 1) a 0 (pm_uI σ 0 (nI 0)) (Nat.le_refl a) (by omega) pm_adc0 ((pm_sm_rf _ _ _ _).I (by decide)) (fun y => pm_ad_0 _ _ _ _) (by omega) _ _ hP hS ls (lv_sub hl [2, 3, 5, 1, 0] rfl)
              · have hno : ¬ pm_acc σ j xa xb tg := fun h => c_40 (Int32.not_le.mp h.2.2.2)
                refine lv_iconst (v := -1) hx hb d_Model_got_43 (by decide) ?_
                rw [hQ]
                exact W.iret (v := -1) hx hb hr (fun zt ht _ => ⟨⟨_, (pm_uI σ 0 (nI 0)), rfl, Or.inr ⟨Or.inr ⟨j, hj, rfl, hno⟩, rfl, rfl⟩, ps_hp ht hP⟩, hS.F ht⟩) hS.2.2 d_Model_got_44
    · refine lv_if_eq (tgt := 43) hx hb d_Model_got_10 (by decide) (fun c_10 => ?_) (fun c_10 => ?_)
      · have hno : ¬ pm_acc σ j xa xb tg := fun h => pm_acc_kn h hkn
        refine lv_iconst (v := -1) hx hb d_Model_got_43 (by decide) ?_
        rw [hQ]
        exact W.iret (v := -1) hx hb hr (fun zt ht _ => ⟨⟨_, (pm_uI σ 0 (nI 0)), rfl, Or.inr ⟨Or.inr ⟨j, hj, rfl, hno⟩, rfl, rfl⟩, ps_hp ht hP⟩, hS.F ht⟩) hS.2.2 d_Model_got_44
      · exact absurd (by decide) c_10

def rm_Model_set : Room := { frames := 2, cells := 0, slots := 0, locals := 46 }
abbrev ws_Model_set : List Cond := .code y_Model_set b_Model_set 3 (some .boolean) :: ps_tb
set_option maxHeartbeats 4000000 in
set_option maxRecDepth 100000 in
theorem c_Model_set {l : Launch} {D : va_G} {g : Nat → Nat} {cI cZ : ClassId} {σ : pm_τ} (hg : ps_inj 13 g) (U : Nat → Nat) (hU : ∀ t, t < 6 → σ.2.1 5 t = nI (U t) ∧ U t < 2 ^ 30) (x y : Int32) : Met l y_Model_set ws_Model_set rm_Model_set (ps_Pc D pm_cl (pm_tys cI cZ) 13 g (pm_E g cI cZ σ) [.ref (g 0), .int x, .int y]) (ps_Qi (S := pm_τ) D pm_cl 13 g (fun u => pm_E g cI cZ u) (fun r u => (x = nI 0 ∧ ∃ v : Nat, y = nI v ∧ v ≤ 20000 ∧ r = 1 ∧ pm_sm [0, 3] [] [4] σ u ∧ u.1 3 = y ∧ ∀ t, t < 6 → ∀ q, q < 4096 → u.2.2 4 (4096 * t + q) = ps_evF (fun t => lN (U t)) 6 (pm_tF (pm_SS (σ.2.2 4)) 6 - v) (pm_SS (σ.2.2 4)) t q) ∨ (x = nI 1 ∧ ∃ v : Nat, y = nI v ∧ v ≤ 1000 ∧ r = 1 ∧ u = pm_uI (pm_uI σ 0 (nI 0)) 4 y) ∨ (¬ (x = nI 0 ∧ ¬ y < 0 ∧ y ≤ nI 20000) ∧ ¬ (x = nI 1 ∧ ¬ y < 0 ∧ y ≤ nI 1000) ∧ r = 0 ∧ u = pm_uI σ 0 (nI 0)))) 0 0 (ps_wA 13 g) := by
  refine ps_met (by decide) ?_
  intro p e s m args below meth c hx hb hr hml hts hown hlocks hname hv Q hQ
  obtain ⟨ha, hP, hK⟩ := hv
  have hT : ∀ w ∈ ps_tb, w.before args s = true := fun w h => hts w (List.mem_cons_of_mem _ h)
  have hown : s.vm.findClass R_Model = some m.cls := hown
  have hS : va_S (ps_wA 13 g) s.heap s.heap [] := va_S.rf
  refine ps_enter ha (Nat.le_of_ble_eq_true rfl) (fun ls hl => ?_)
  have hl : lv_has ls 3 [(0, .ref (g 0)), (1, .int x), (2, .int y)] := hl
  rcases pk_ix x (n := 2) (by decide) with h | h | ⟨j, hj, hxj⟩
  · refine lv_aload_n hx hb d_Model_set_0 rfl (lv_at hl 0 rfl) ?_
    refine lv_iconst (v := nI 0) hx hb d_Model_set_1 (by decide) ?_
    refine ps_put (v := .int (nI 0)) (ty := .int) hx hb hT i_Model t_Model t_Model_ok n_Model hown hK hg hP hS (k := 0) (by decide) pm_E_0 rfl 0 (by decide) (hT _ fl_Model_57) (fun _ h9 => h9) rfl (by decide +kernel) rfl rfl (Nat.le_of_ble_eq_true rfl) d_Model_set_2 (pm_E g cI cZ (pm_uI σ 0 (nI 0))) (pm_h1 (by decide)) (fun _ _ h => pm_E_uI h) (fun H locs hP hS => ?_)
    refine lv_iload_n hx hb d_Model_set_5 rfl (lv_at hl 1 rfl) ?_
    refine lv_if_lt (tgt := 35) hx hb d_Model_set_6 (by decide) (fun c_6 => ?_) (fun c_6 => ?_)
    · refine lv_iconst (v := nI 0) hx hb d_Model_set_35 (by decide) ?_
      rw [hQ]
      exact W.zret (v := nI 0) (ty := .boolean) hx hb hr (by decide +kernel) (fun zt ht _ => ⟨⟨_, (pm_uI σ 0 (nI 0)), rfl, Or.inr (Or.inr ⟨fun q => absurd h (by rw [q.1]; decide), fun q => absurd h (by rw [q.1]; decide), rfl, rfl⟩), ps_hp ht hP⟩, hS.F ht⟩) hS.2.2 d_Model_set_36
    · exact absurd h c_6
  · refine lv_aload_n hx hb d_Model_set_0 rfl (lv_at hl 0 rfl) ?_
    refine lv_iconst (v := nI 0) hx hb d_Model_set_1 (by decide) ?_
    refine ps_put (v := .int (nI 0)) (ty := .int) hx hb hT i_Model t_Model t_Model_ok n_Model hown hK hg hP hS (k := 0) (by decide) pm_E_0 rfl 0 (by decide) (hT _ fl_Model_57) (fun _ h9 => h9) rfl (by decide +kernel) rfl rfl (Nat.le_of_ble_eq_true rfl) d_Model_set_2 (pm_E g cI cZ (pm_uI σ 0 (nI 0))) (pm_h1 (by decide)) (fun _ _ h => pm_E_uI h) (fun H locs hP hS => ?_)
    refine lv_iload_n hx hb d_Model_set_5 rfl (lv_at hl 1 rfl) ?_
    refine lv_if_lt (tgt := 35) hx hb d_Model_set_6 (by decide) (fun c_6 => ?_) (fun c_6 => ?_)
    · exact absurd c_6 (ps_le_nlt (by decide) h)
    · refine lv_iload_n hx hb d_Model_set_9 rfl (lv_at hl 1 rfl) ?_
      refine lv_iconst (v := nI 1) hx hb d_Model_set_10 (by decide) ?_
      refine lv_icmp_gt (tgt := 35) hx hb d_Model_set_11 (by decide) (fun c_11 => ?_) (fun c_11 => ?_)
      · refine lv_iconst (v := nI 0) hx hb d_Model_set_35 (by decide) ?_
        rw [hQ]
        exact W.zret (v := nI 0) (ty := .boolean) hx hb hr (by decide +kernel) (fun zt ht _ => ⟨⟨_, (pm_uI σ 0 (nI 0)), rfl, Or.inr (Or.inr ⟨fun q => absurd h (by rw [q.1]; decide), fun q => absurd h (by rw [q.1]; decide), rfl, rfl⟩), ps_hp ht hP⟩, hS.F ht⟩) hS.2.2 d_Model_set_36
      · exact absurd (Int32.lt_iff_toInt_lt.mpr (by rw [Int32.le_iff_toInt_le, nI_toInt (by decide)] at h; rw [nI_toInt (by decide)]; omega)) c_11
  ·
    rcases (show j = 0 ∨ j = 1 by omega) with rfl | rfl
    · subst hxj
      refine lv_aload_n hx hb d_Model_set_0 rfl (lv_at hl 0 rfl) ?_
      refine lv_iconst (v := nI 0) hx hb d_Model_set_1 (by decide) ?_
      refine ps_put (v := .int (nI 0)) (ty := .int) hx hb hT i_Model t_Model t_Model_ok n_Model hown hK hg hP hS (k := 0) (by decide) pm_E_0 rfl 0 (by decide) (hT _ fl_Model_57) (fun _ h9 => h9) rfl (by decide +kernel) rfl rfl (Nat.le_of_ble_eq_true rfl) d_Model_set_2 (pm_E g cI cZ (pm_uI σ 0 (nI 0))) (pm_h1 (by decide)) (fun _ _ h => pm_E_uI h) (fun H locs hP hS => ?_)
      refine lv_iload_n hx hb d_Model_set_5 rfl (lv_at hl 1 rfl) ?_
      refine lv_if_lt (tgt := 35) hx hb d_Model_set_6 (by decide) (fun c_6 => ?_) (fun c_6 => ?_)
      · exact absurd c_6 (by decide)
      · refine lv_iload_n hx hb d_Model_set_9 rfl (lv_at hl 1 rfl) ?_
        refine lv_iconst (v := nI 1) hx hb d_Model_set_10 (by decide) ?_
        refine lv_icmp_gt (tgt := 35) hx hb d_Model_set_11 (by decide) (fun c_11 => ?_) (fun c_11 => ?_)
        · exact absurd c_11 (by decide)
        · refine lv_iload_n hx hb d_Model_set_14 rfl (lv_at hl 2 rfl) ?_
          refine lv_if_lt (tgt := 35) hx hb d_Model_set_15 (by decide) (fun c_15 => ?_) (fun c_15 => ?_)
          · refine lv_iconst (v := nI 0) hx hb d_Model_set_35 (by decide) ?_
            rw [hQ]
            exact W.zret (v := nI 0) (ty := .boolean) hx hb hr (by decide +kernel) (fun zt ht _ => ⟨⟨_, (pm_uI σ 0 (nI 0)), rfl, Or.inr (Or.inr ⟨fun q => q.2.1 c_15, fun q => absurd q.1 (by decide), rfl, rfl⟩), ps_hp ht hP⟩, hS.F ht⟩) hS.2.2 d_Model_set_36
          · refine lv_iload_n hx hb d_Model_set_18 rfl (lv_at hl 2 rfl) ?_
            refine lv_iload_n hx hb d_Model_set_19 rfl (lv_at hl 1 rfl) ?_
            refine lv_if_ne (tgt := 29) hx hb d_Model_set_20 (by decide) (fun c_20 => ?_) (fun c_20 => ?_)
            · exact absurd (by decide) c_20
            · refine lv_sipush (v := nI 20000) hx hb d_Model_set_23 (by decide) ?_
              refine lv_goto (tgt := 32) hx hb d_Model_set_26 (by decide) ?_
              refine lv_icmp_le (tgt := 37) hx hb d_Model_set_32 (by decide) (fun c_32 => ?_) (fun c_32 => ?_)
              · obtain ⟨v, rfl, hv⟩ := ps_toN c_15 c_32 (by decide)
                refine lv_iload_n hx hb d_Model_set_37 rfl (lv_at hl 1 rfl) ?_
                refine lv_iconst (v := nI 1) hx hb d_Model_set_38 (by decide) ?_
                refine lv_icmp_ne (tgt := 49) hx hb d_Model_set_39 (by decide) (fun c_39 => ?_) (fun c_39 => ?_)
                · refine lv_aload_n hx hb d_Model_set_49 rfl (lv_at hl 0 rfl) ?_
                  refine lv_iload_n hx hb d_Model_set_50 rfl (lv_at hl 2 rfl) ?_
                  refine ps_put (v := .int (nI v)) (ty := .int) hx hb hT i_Model t_Model t_Model_ok n_Model hown hK hg hP hS (k := 0) (by decide) pm_E_0 rfl 3 (by decide) (hT _ fl_Model_13) (fun _ h9 => h9) rfl (by decide +kernel) rfl rfl (Nat.le_of_ble_eq_true rfl) d_Model_set_51 (pm_E g cI cZ (pm_uI (pm_uI σ 0 (nI 0)) 3 (nI v))) (pm_h1 (by decide)) (fun _ _ h => pm_E_uI h) (fun H locs hP hS => ?_)
                  refine lv_aload_n hx hb d_Model_set_54 rfl (lv_at hl 0 rfl) ?_
                  refine ps_wrv (k := 0) (As := []) (rest := []) ⟨hx, hb, hml, hown, hT⟩ (c_Model_clean (σ := (pm_uI (pm_uI σ 0 (nI 0)) 3 (nI v))) hg U hU v rfl hv) (cwV 0 hT (ps_gV ml_Model_86 im_Model_clean se_Model_clean in_Model co_Model_clean) rfl rfl rfl cd_Model_clean ⟨Nat.le_of_ble_eq_true rfl, Nat.le_of_ble_eq_true rfl⟩) hK hP hS (fun _ h => h) (by omega) pm_E_0 rfl rfl hl.1 rfl (Nat.le_of_ble_eq_true rfl) d_Model_set_55 ⟨Nat.zero_le _, Nat.zero_le _⟩ (fun u6 H locs hu6 hP hS _ => ?_)
                  obtain ⟨hs6, he6⟩ := hu6
                  refine lv_iconst (v := nI 1) hx hb d_Model_set_58 (by decide) ?_
                  rw [hQ]
                  exact W.zret (v := nI 1) (ty := .boolean) hx hb hr (by decide +kernel) (fun zt ht _ => ⟨⟨_, u6, rfl, Or.inl ⟨rfl, v, rfl, hv, rfl, (((pm_sm_rf [0, 3] [] [4] σ).I (by decide)).I (by decide)).to hs6 (by decide) (by decide) (by decide), hs6.1 3 (by decide), he6⟩, ps_hp ht hP⟩, hS.F ht⟩) hS.2.2 d_Model_set_59
                · exact absurd c_39 (by decide)
              · refine lv_iconst (v := nI 0) hx hb d_Model_set_35 (by decide) ?_
                rw [hQ]
                exact W.zret (v := nI 0) (ty := .boolean) hx hb hr (by decide +kernel) (fun zt ht _ => ⟨⟨_, (pm_uI σ 0 (nI 0)), rfl, Or.inr (Or.inr ⟨fun q => c_32 q.2.2, fun q => absurd q.1 (by decide), rfl, rfl⟩), ps_hp ht hP⟩, hS.F ht⟩) hS.2.2 d_Model_set_36
    · subst hxj
      refine lv_aload_n hx hb d_Model_set_0 rfl (lv_at hl 0 rfl) ?_
      refine lv_iconst (v := nI 0) hx hb d_Model_set_1 (by decide) ?_
      refine ps_put (v := .int (nI 0)) (ty := .int) hx hb hT i_Model t_Model t_Model_ok n_Model hown hK hg hP hS (k := 0) (by decide) pm_E_0 rfl 0 (by decide) (hT _ fl_Model_57) (fun _ h9 => h9) rfl (by decide +kernel) rfl rfl (Nat.le_of_ble_eq_true rfl) d_Model_set_2 (pm_E g cI cZ (pm_uI σ 0 (nI 0))) (pm_h1 (by decide)) (fun _ _ h => pm_E_uI h) (fun H locs hP hS => ?_)
      refine lv_iload_n hx hb d_Model_set_5 rfl (lv_at hl 1 rfl) ?_
      refine lv_if_lt (tgt := 35) hx hb d_Model_set_6 (by decide) (fun c_6 => ?_) (fun c_6 => ?_)
      · exact absurd c_6 (by decide)
      · refine lv_iload_n hx hb d_Model_set_9 rfl (lv_at hl 1 rfl) ?_
        refine lv_iconst (v := nI 1) hx hb d_Model_set_10 (by decide) ?_
        refine lv_icmp_gt (tgt := 35) hx hb d_Model_set_11 (by decide) (fun c_11 => ?_) (fun c_11 => ?_)
        · exact absurd c_11 (by decide)
        · refine lv_iload_n hx hb d_Model_set_14 rfl (lv_at hl 2 rfl) ?_
          refine lv_if_lt (tgt := 35) hx hb d_Model_set_15 (by decide) (fun c_15 => ?_) (fun c_15 => ?_)
          · refine lv_iconst (v := nI 0) hx hb d_Model_set_35 (by decide) ?_
            rw [hQ]
            exact W.zret (v := nI 0) (ty := .boolean) hx hb hr (by decide +kernel) (fun zt ht _ => ⟨⟨_, (pm_uI σ 0 (nI 0)), rfl, Or.inr (Or.inr ⟨fun q => absurd q.1 (by decide), fun q => q.2.1 c_15, rfl, rfl⟩), ps_hp ht hP⟩, hS.F ht⟩) hS.2.2 d_Model_set_36
          · refine lv_iload_n hx hb d_Model_set_18 rfl (lv_at hl 2 rfl) ?_
            refine lv_iload_n hx hb d_Model_set_19 rfl (lv_at hl 1 rfl) ?_
            refine lv_if_ne (tgt := 29) hx hb d_Model_set_20 (by decide) (fun c_20 => ?_) (fun c_20 => ?_)
            · refine lv_sipush (v := nI 1000) hx hb d_Model_set_29 (by decide) ?_
              refine lv_icmp_le (tgt := 37) hx hb d_Model_set_32 (by decide) (fun c_32 => ?_) (fun c_32 => ?_)
              · obtain ⟨v, rfl, hv⟩ := ps_toN c_15 c_32 (by decide)
                refine lv_iload_n hx hb d_Model_set_37 rfl (lv_at hl 1 rfl) ?_
                refine lv_iconst (v := nI 1) hx hb d_Model_set_38 (by decide) ?_
                refine lv_icmp_ne (tgt := 49) hx hb d_Model_set_39 (by decide) (fun c_39 => ?_) (fun c_39 => ?_)
                · exact absurd (by decide) c_39
                · refine lv_aload_n hx hb d_Model_set_42 rfl (lv_at hl 0 rfl) ?_
                  refine lv_iload_n hx hb d_Model_set_43 rfl (lv_at hl 2 rfl) ?_
                  refine ps_put (v := .int (nI v)) (ty := .int) hx hb hT i_Model t_Model t_Model_ok n_Model hown hK hg hP hS (k := 0) (by decide) pm_E_0 rfl 4 (by decide) (hT _ fl_Model_17) (fun _ h9 => h9) rfl (by decide +kernel) rfl rfl (Nat.le_of_ble_eq_true rfl) d_Model_set_44 (pm_E g cI cZ (pm_uI (pm_uI σ 0 (nI 0)) 4 (nI v))) (pm_h1 (by decide)) (fun _ _ h => pm_E_uI h) (fun H locs hP hS => ?_)
                  refine lv_iconst (v := nI 1) hx hb d_Model_set_47 (by decide) ?_
                  rw [hQ]
                  exact W.zret (v := nI 1) (ty := .boolean) hx hb hr (by decide +kernel) (fun zt ht _ => ⟨⟨_, (pm_uI (pm_uI σ 0 (nI 0)) 4 (nI v)), rfl, Or.inr (Or.inl ⟨rfl, v, rfl, hv, rfl, rfl⟩), ps_hp ht hP⟩, hS.F ht⟩) hS.2.2 d_Model_set_48
              · refine lv_iconst (v := nI 0) hx hb d_Model_set_35 (by decide) ?_
                rw [hQ]
                exact W.zret (v := nI 0) (ty := .boolean) hx hb hr (by decide +kernel) (fun zt ht _ => ⟨⟨_, (pm_uI σ 0 (nI 0)), rfl, Or.inr (Or.inr ⟨fun q => absurd q.1 (by decide), fun q => c_32 q.2.2, rfl, rfl⟩), ps_hp ht hP⟩, hS.F ht⟩) hS.2.2 d_Model_set_36
            · exact absurd c_20 (by decide)
