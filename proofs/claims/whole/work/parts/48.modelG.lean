theorem ml_Model_108 : (.methodLink R_Model 108 y_Model_part : Cond) ∈ ps_tb := ps_in 666 (by decide +kernel) rfl
theorem co_Model_part : (.code y_Model_part b_Model_part 5 (some .boolean) : Cond) ∈ ps_tb := ps_in 669 (by decide +kernel) rfl
theorem im_Model_part : (.instanceMethod y_Model_part : Cond) ∈ ps_tb := ps_in 668 (by decide +kernel) rfl
theorem se_Model_part : (.selects R_Model y_Model_part y_Model_part : Cond) ∈ ps_tb := ps_inS 23 (by decide +kernel) rfl
theorem ml_Model_105 : (.methodLink R_Model 105 y_Model_prefix : Cond) ∈ ps_tb := ps_in 663 (by decide +kernel) rfl
theorem co_Model_prefix : (.code y_Model_prefix b_Model_prefix 1 (some .int) : Cond) ∈ ps_tb := ps_in 665 (by decide +kernel) rfl
theorem st_Model_prefix : (.static y_Model_prefix : Cond) ∈ ps_tb := ps_in 664 (by decide +kernel) rfl
theorem cd_Model_part : y_Model_part.cls = R_Model ∧ y_Model_part.cls ≠ "java/lang/invoke/MethodHandle" ∧ y_Model_part.cls ≠ "java/lang/invoke/VarHandle" ∧ (parseMethodDescriptor y_Model_part.desc).map (fun d => d.parameters.length) = some 1 := by decide +kernel
theorem cs_Model_prefix : y_Model_prefix.cls ≠ "java/lang/invoke/MethodHandle" ∧ y_Model_prefix.cls ≠ "java/lang/invoke/VarHandle" ∧ (parseMethodDescriptor y_Model_prefix.desc).map (fun d => d.parameters.length) = some 1 := by decide +kernel
def rm_Model_prefix : Room := { frames := 0, cells := 0, slots := 0, locals := 0 }
abbrev ws_Model_prefix : List Cond := .code y_Model_prefix b_Model_prefix 1 (some .int) :: ps_tb
set_option maxHeartbeats 4000000 in
set_option maxRecDepth 100000 in
theorem c_Model_prefix {l : Launch} (k : Nat) (hk : k < 6) : Met l y_Model_prefix ws_Model_prefix rm_Model_prefix (va_Pc [.int (nI k)] (fun _ => True)) (vp_Si (fun r => r = ps_hb k)) 0 0 (fun _ => False) := by
  refine ps_met (by decide) ?_
  intro p e s m args below meth c hx hb hr hml hts hown hlocks hname hv Q hQ
  obtain ⟨ha, -⟩ := hv
  have hT : ∀ w ∈ ps_tb, w.before args s = true := fun w h => hts w (List.mem_cons_of_mem _ h)
  have hown : s.vm.findClass R_Model = some m.cls := hown
  refine ps_enter ha (Nat.le_of_ble_eq_true rfl) (fun ls hl => ?_)
  have hl : lv_has ls 1 [(0, .int (nI k))] := hl
  rcases (show k = 0 ∨ k = 1 ∨ k = 2 ∨ k = 3 ∨ k = 4 ∨ k = 5 by omega) with rfl | rfl | rfl | rfl | rfl | rfl
  · refine lv_iload_n hx hb d_Model_prefix_0 rfl (lv_at hl 0 rfl) ?_
    refine lv_if_ne (tgt := 9) hx hb d_Model_prefix_1 (by decide) (fun c_1 => ?_) (fun c_1 => ?_)
    · exact absurd (by decide) c_1
    · refine lv_bipush (v := nI 98) hx hb d_Model_prefix_4 (by decide) ?_
      refine lv_goto (tgt := 51) hx hb d_Model_prefix_6 (by decide) ?_
      rw [hQ]
      exact W.iret (v := nI 98) hx hb hr (fun zt ht _ => ⟨_, rfl, by decide, ht⟩) (fun q h => absurd h List.not_mem_nil) d_Model_prefix_51
  · refine lv_iload_n hx hb d_Model_prefix_0 rfl (lv_at hl 0 rfl) ?_
    refine lv_if_ne (tgt := 9) hx hb d_Model_prefix_1 (by decide) (fun c_1 => ?_) (fun c_1 => ?_)
    · refine lv_iload_n hx hb d_Model_prefix_9 rfl (lv_at hl 0 rfl) ?_
      refine lv_iconst (v := nI 1) hx hb d_Model_prefix_10 (by decide) ?_
      refine lv_icmp_ne (tgt := 19) hx hb d_Model_prefix_11 (by decide) (fun c_11 => ?_) (fun c_11 => ?_)
      · exact absurd (by decide) c_11
      · refine lv_bipush (v := nI 121) hx hb d_Model_prefix_14 (by decide) ?_
        refine lv_goto (tgt := 51) hx hb d_Model_prefix_16 (by decide) ?_
        rw [hQ]
        exact W.iret (v := nI 121) hx hb hr (fun zt ht _ => ⟨_, rfl, by decide, ht⟩) (fun q h => absurd h List.not_mem_nil) d_Model_prefix_51
    · exact absurd c_1 (by decide)
  · refine lv_iload_n hx hb d_Model_prefix_0 rfl (lv_at hl 0 rfl) ?_
    refine lv_if_ne (tgt := 9) hx hb d_Model_prefix_1 (by decide) (fun c_1 => ?_) (fun c_1 => ?_)
    · refine lv_iload_n hx hb d_Model_prefix_9 rfl (lv_at hl 0 rfl) ?_
      refine lv_iconst (v := nI 1) hx hb d_Model_prefix_10 (by decide) ?_
      refine lv_icmp_ne (tgt := 19) hx hb d_Model_prefix_11 (by decide) (fun c_11 => ?_) (fun c_11 => ?_)
      · refine lv_iload_n hx hb d_Model_prefix_19 rfl (lv_at hl 0 rfl) ?_
        refine lv_iconst (v := nI 2) hx hb d_Model_prefix_20 (by decide) ?_
        refine lv_icmp_ne (tgt := 29) hx hb d_Model_prefix_21 (by decide) (fun c_21 => ?_) (fun c_21 => ?_)
        · exact absurd (by decide) c_21
        · refine lv_bipush (v := nI 116) hx hb d_Model_prefix_24 (by decide) ?_
          refine lv_goto (tgt := 51) hx hb d_Model_prefix_26 (by decide) ?_
          rw [hQ]
          exact W.iret (v := nI 116) hx hb hr (fun zt ht _ => ⟨_, rfl, by decide, ht⟩) (fun q h => absurd h List.not_mem_nil) d_Model_prefix_51
      · exact absurd c_11 (by decide)
    · exact absurd c_1 (by decide)
  · refine lv_iload_n hx hb d_Model_prefix_0 rfl (lv_at hl 0 rfl) ?_
    refine lv_if_ne (tgt := 9) hx hb d_Model_prefix_1 (by decide) (fun c_1 => ?_) (fun c_1 => ?_)
    · refine lv_iload_n hx hb d_Model_prefix_9 rfl (lv_at hl 0 rfl) ?_
      refine lv_iconst (v := nI 1) hx hb d_Model_prefix_10 (by decide) ?_
      refine lv_icmp_ne (tgt := 19) hx hb d_Model_prefix_11 (by decide) (fun c_11 => ?_) (fun c_11 => ?_)
      · refine lv_iload_n hx hb d_Model_prefix_19 rfl (lv_at hl 0 rfl) ?_
        refine lv_iconst (v := nI 2) hx hb d_Model_prefix_20 (by decide) ?_
        refine lv_icmp_ne (tgt := 29) hx hb d_Model_prefix_21 (by decide) (fun c_21 => ?_) (fun c_21 => ?_)
        · refine lv_iload_n hx hb d_Model_prefix_29 rfl (lv_at hl 0 rfl) ?_
          refine lv_iconst (v := nI 3) hx hb d_Model_prefix_30 (by decide) ?_
          refine lv_icmp_ne (tgt := 39) hx hb d_Model_prefix_31 (by decide) (fun c_31 => ?_) (fun c_31 => ?_)
          · exact absurd (by decide) c_31
          · refine lv_bipush (v := nI 101) hx hb d_Model_prefix_34 (by decide) ?_
            refine lv_goto (tgt := 51) hx hb d_Model_prefix_36 (by decide) ?_
            rw [hQ]
            exact W.iret (v := nI 101) hx hb hr (fun zt ht _ => ⟨_, rfl, by decide, ht⟩) (fun q h => absurd h List.not_mem_nil) d_Model_prefix_51
        · exact absurd c_21 (by decide)
      · exact absurd c_11 (by decide)
    · exact absurd c_1 (by decide)
  · refine lv_iload_n hx hb d_Model_prefix_0 rfl (lv_at hl 0 rfl) ?_
    refine lv_if_ne (tgt := 9) hx hb d_Model_prefix_1 (by decide) (fun c_1 => ?_) (fun c_1 => ?_)
    · refine lv_iload_n hx hb d_Model_prefix_9 rfl (lv_at hl 0 rfl) ?_
      refine lv_iconst (v := nI 1) hx hb d_Model_prefix_10 (by decide) ?_
      refine lv_icmp_ne (tgt := 19) hx hb d_Model_prefix_11 (by decide) (fun c_11 => ?_) (fun c_11 => ?_)
      · refine lv_iload_n hx hb d_Model_prefix_19 rfl (lv_at hl 0 rfl) ?_
        refine lv_iconst (v := nI 2) hx hb d_Model_prefix_20 (by decide) ?_
        refine lv_icmp_ne (tgt := 29) hx hb d_Model_prefix_21 (by decide) (fun c_21 => ?_) (fun c_21 => ?_)
        · refine lv_iload_n hx hb d_Model_prefix_29 rfl (lv_at hl 0 rfl) ?_
          refine lv_iconst (v := nI 3) hx hb d_Model_prefix_30 (by decide) ?_
          refine lv_icmp_ne (tgt := 39) hx hb d_Model_prefix_31 (by decide) (fun c_31 => ?_) (fun c_31 => ?_)
          · refine lv_iload_n hx hb d_Model_prefix_39 rfl (lv_at hl 0 rfl) ?_
            refine lv_iconst (v := nI 4) hx hb d_Model_prefix_40 (by decide) ?_
            refine lv_icmp_ne (tgt := 49) hx hb d_Model_prefix_41 (by decide) (fun c_41 => ?_) (fun c_41 => ?_)
            · exact absurd (by decide) c_41
            · refine lv_bipush (v := nI 115) hx hb d_Model_prefix_44 (by decide) ?_
              refine lv_goto (tgt := 51) hx hb d_Model_prefix_46 (by decide) ?_
              rw [hQ]
              exact W.iret (v := nI 115) hx hb hr (fun zt ht _ => ⟨_, rfl, by decide, ht⟩) (fun q h => absurd h List.not_mem_nil) d_Model_prefix_51
          · exact absurd c_31 (by decide)
        · exact absurd c_21 (by decide)
      · exact absurd c_11 (by decide)
    · exact absurd c_1 (by decide)
  · refine lv_iload_n hx hb d_Model_prefix_0 rfl (lv_at hl 0 rfl) ?_
    refine lv_if_ne (tgt := 9) hx hb d_Model_prefix_1 (by decide) (fun c_1 => ?_) (fun c_1 => ?_)
    · refine lv_iload_n hx hb d_Model_prefix_9 rfl (lv_at hl 0 rfl) ?_
      refine lv_iconst (v := nI 1) hx hb d_Model_prefix_10 (by decide) ?_
      refine lv_icmp_ne (tgt := 19) hx hb d_Model_prefix_11 (by decide) (fun c_11 => ?_) (fun c_11 => ?_)
      · refine lv_iload_n hx hb d_Model_prefix_19 rfl (lv_at hl 0 rfl) ?_
        refine lv_iconst (v := nI 2) hx hb d_Model_prefix_20 (by decide) ?_
        refine lv_icmp_ne (tgt := 29) hx hb d_Model_prefix_21 (by decide) (fun c_21 => ?_) (fun c_21 => ?_)
        · refine lv_iload_n hx hb d_Model_prefix_29 rfl (lv_at hl 0 rfl) ?_
          refine lv_iconst (v := nI 3) hx hb d_Model_prefix_30 (by decide) ?_
          refine lv_icmp_ne (tgt := 39) hx hb d_Model_prefix_31 (by decide) (fun c_31 => ?_) (fun c_31 => ?_)
          · refine lv_iload_n hx hb d_Model_prefix_39 rfl (lv_at hl 0 rfl) ?_
            refine lv_iconst (v := nI 4) hx hb d_Model_prefix_40 (by decide) ?_
            refine lv_icmp_ne (tgt := 49) hx hb d_Model_prefix_41 (by decide) (fun c_41 => ?_) (fun c_41 => ?_)
            · refine lv_bipush (v := nI 61) hx hb d_Model_prefix_49 (by decide) ?_
              rw [hQ]
              exact W.iret (v := nI 61) hx hb hr (fun zt ht _ => ⟨_, rfl, by decide, ht⟩) (fun q h => absurd h List.not_mem_nil) d_Model_prefix_51
            · exact absurd c_41 (by decide)
          · exact absurd c_31 (by decide)
        · exact absurd c_21 (by decide)
      · exact absurd c_11 (by decide)
    · exact absurd c_1 (by decide)

def rm_Model_isText : Room := { frames := 3, cells := 0, slots := 0, locals := 67 }
abbrev ws_Model_isText : List Cond := .code y_Model_isText b_Model_isText 3 (some .boolean) :: ps_tb
set_option maxHeartbeats 4000000 in
set_option maxRecDepth 100000 in
theorem c_Model_isText {l : Launch} {D : va_G} {g : Nat → Nat} {cI cZ : ClassId} {σ : pm_τ} (hg : ps_inj 13 g) (n : Nat) (hn : σ.1 2 = nI n) (hn60 : n ≤ 60) (Ln : Nat) (hLn4 : Ln ≤ 4095) : Met l y_Model_isText ws_Model_isText rm_Model_isText (ps_Pc D pm_cl (pm_tys cI cZ) 13 g (pm_E g cI cZ σ) [.ref (g 0), .int (nI Ln)]) (ps_Qi (S := pm_τ) D pm_cl 13 g (fun u => pm_E g cI cZ u) (fun r u => (r = nI 1 ∧ ¬ ps_prs (σ.2.1 1) n = [] ∧ pm_sm [10, 11] [6, 7] [] σ u ∧ u.1 11 = nI (ps_prs (σ.2.1 1) n).length ∧ ∀ i, (hi : i < (ps_prs (σ.2.1 1) n).length) → u.2.1 6 i = ps_fp (nI Ln) (ps_prs (σ.2.1 1) n)[i] ∧ u.2.1 7 i = ps_lp (nI Ln) (ps_prs (σ.2.1 1) n)[i]) ∨ (r = nI 0 ∧ ps_prs (σ.2.1 1) n = [] ∧ pm_sm [10, 11] [6, 7] [] σ u))) 0 0 (ps_wA 13 g) := by
  refine ps_met (by decide) ?_
  intro p e s m args below meth c hx hb hr hml hts hown hlocks hname hv Q hQ
  obtain ⟨ha, hP, hK⟩ := hv
  have hT : ∀ w ∈ ps_tb, w.before args s = true := fun w h => hts w (List.mem_cons_of_mem _ h)
  have hown : s.vm.findClass R_Model = some m.cls := hown
  have hS : va_S (ps_wA 13 g) s.heap s.heap [] := va_S.rf
  refine ps_enter ha (Nat.le_of_ble_eq_true rfl) (fun ls hl => ?_)
  have hl : lv_has ls 3 [(0, .ref (g 0)), (1, .int (nI Ln))] := hl
  refine lv_iconst (v := nI 0) hx hb d_Model_isText_0 (by decide) ?_
  refine lv_istore_n (lv' := [(2, .int (nI 0)), (0, .ref (g 0)), (1, .int (nI Ln))]) hx hb d_Model_isText_1 rfl hl (by decide) rfl (fun ls hl => ?_)
  have L_a : ∀ (n_a : Nat) (k : Nat), (k ≤ 6) → (∀ j, j < k → ps_sg (σ.2.1 1) n j = ps_hb j) → 6 - k < n_a → ∀ (ls : Array Slot), lv_has ls 3 [(0, .ref (g 0)), (1, .int (nI Ln)), (2, .int (nI k))] → W p l e rm_Model_isText s m args below meth c s.heap [] 0 0 Q (F0 m 2 ls []) := by
    intro n_a
    induction n_a with
    | zero => intro k hk he hf_a; exact absurd hf_a (Nat.not_lt_zero _)
    | succ n_a ih_a =>
      intro k hk he hf_a ls hl
      refine lv_iload_n hx hb d_Model_isText_2 rfl (lv_at hl 2 rfl) ?_
      refine lv_bipush (v := nI 6) hx hb d_Model_isText_3 (by decide) ?_
      refine lv_icmp_ge (tgt := 28) hx hb d_Model_isText_5 (by decide) (fun c_5 => ?_) (fun c_5 => ?_)
      · have hk6 : k = 6 := by have := ps_leT c_5 (by omega) (by omega); omega
        have hhh : ps_hh (σ.2.1 1) n := fun j hj => he j (by omega)
        refine lv_aload_n hx hb d_Model_isText_28 rfl (lv_at hl 0 rfl) ?_
        refine lv_bipush (v := nI 6) hx hb d_Model_isText_29 (by decide) ?_
        refine ps_put (v := .int (nI 6)) (ty := .int) hx hb hT i_Model t_Model t_Model_ok n_Model hown hK hg hP hS (k := 0) (by decide) pm_E_0 rfl 10 (by decide) (hT _ fl_Model_89) (fun _ h9 => h9) rfl (by decide +kernel) rfl rfl (Nat.le_of_ble_eq_true rfl) d_Model_isText_31 (pm_E g cI cZ (pm_uI σ 10 (nI 6))) (pm_h1 (by decide)) (fun _ _ h => pm_E_uI h) (fun H locs hP hS => ?_)
        refine lv_aload_n hx hb d_Model_isText_34 rfl (lv_at hl 0 rfl) ?_
        refine lv_iconst (v := nI 0) hx hb d_Model_isText_35 (by decide) ?_
        refine ps_put (v := .int (nI 0)) (ty := .int) hx hb hT i_Model t_Model t_Model_ok n_Model hown hK hg hP hS (k := 0) (by decide) pm_E_0 rfl 11 (by decide) (hT _ fl_Model_98) (fun _ h9 => h9) rfl (by decide +kernel) rfl rfl (Nat.le_of_ble_eq_true rfl) d_Model_isText_36 (pm_E g cI cZ (pm_uI (pm_uI σ 10 (nI 6)) 11 (nI 0))) (pm_h1 (by decide)) (fun _ _ h => pm_E_uI h) (fun H locs hP hS => ?_)
        refine lv_aload_n hx hb d_Model_isText_39 rfl (lv_at hl 0 rfl) ?_
        refine lv_iload_n hx hb d_Model_isText_40 rfl (lv_at hl 1 rfl) ?_
        refine ps_wri (k := 0) (As := [.int (nI Ln)]) (rest := []) ⟨hx, hb, hml, hown, hT⟩ (c_Model_part (σ := (pm_uI (pm_uI σ 10 (nI 6)) 11 (nI 0))) hg n hn hn60 6 (by decide) rfl 0 (by decide) rfl Ln hLn4) (cwV 1 hT (ps_gV ml_Model_108 im_Model_part se_Model_part in_Model co_Model_part) rfl rfl rfl cd_Model_part ⟨Nat.le_of_ble_eq_true rfl, Nat.le_of_ble_eq_true rfl⟩) hK hP hS (fun _ h => h) (by omega) pm_E_0 rfl rfl hl.1 rfl (Nat.le_of_ble_eq_true rfl) d_Model_isText_41 ⟨Nat.zero_le _, Nat.zero_le _⟩ (fun rr u3 H locs hu3 hP hS _ => ?_)
        rcases hu3 with ⟨E, lo, hi, hk6, hrp, rfl, hs3, hat3, hpm3, hp6, hp7⟩ | ⟨hno, rfl, hs3⟩
        · have hEn := (pm_rp_le hrp).2
          have hs9 : pm_sm [10, 11] [6, 7] [] σ u3 := (((pm_sm_rf _ _ _ σ).I (by decide)).I (by decide)).to hs3 (by decide) (by decide) (by decide)
          have hpv3 : ∀ i, (hi2 : i < [(lo, hi)].length) → u3.2.1 6 i = ps_fp (nI Ln) [(lo, hi)][i] ∧ u3.2.1 7 i = ps_lp (nI Ln) [(lo, hi)][i] := fun i hi2 => by
            have e : i = 0 := by simp at hi2; omega
            subst e; rw [hp6, hp7]; exact ⟨va_up_self _ _ _, va_up_self _ _ _⟩
          refine lv_istore_n (lv' := [(2, .int (nI 1)), (0, .ref (g 0)), (1, .int (nI Ln))]) hx hb d_Model_isText_44 rfl hl (by decide) rfl (fun ls hl => ?_)
          have L_b : ∀ (n_b : Nat) (E : Nat) (P : List (Int32 × Int32)) (u : pm_τ), (E ≤ n) → (P.length ≤ 6) → (ps_rdF (σ.2.1 1) n 6 6 = pm_ct (σ.2.1 1) n E P) → (pm_sm [10, 11] [6, 7] [] σ u) → (u.1 10 = nI E) → (u.1 11 = nI P.length) → (∀ i, (hi : i < P.length) → u.2.1 6 i = ps_fp (nI Ln) P[i] ∧ u.2.1 7 i = ps_lp (nI Ln) P[i]) → 61 - E < n_b → ∀ (H : Heap) (locs : List Loc), va_P D pm_cl (ps_wl 13 g (pm_E g cI cZ u)) H → va_S (ps_wA 13 g) s.heap H locs → ∀ (ls : Array Slot), lv_has ls 3 [(0, .ref (g 0)), (1, .int (nI Ln)), (2, .int (nI 1))] → W p l e rm_Model_isText s m args below meth c H locs 0 0 Q (F0 m 45 ls []) := by
            intro n_b
            induction n_b with
            | zero => intro E P u hE hP6 hct hs hat hpm hpv hf_b; exact absurd hf_b (Nat.not_lt_zero _)
            | succ n_b ih_b =>
              intro E P u hE hP6 hct hs hat hpm hpv hf_b H locs hP hS ls hl
              refine lv_iload_n hx hb d_Model_isText_45 rfl (lv_at hl 2 rfl) ?_
              refine lv_if_eq (tgt := 81) hx hb d_Model_isText_46 (by decide) (fun c_46 => ?_) (fun c_46 => ?_)
              · exact absurd c_46 (by decide)
              · refine lv_aload_n hx hb d_Model_isText_49 rfl (lv_at hl 0 rfl) ?_
                refine lv_aload_n hx hb d_Model_isText_50 rfl (lv_at hl 0 rfl) ?_
                refine ps_get (v := .int (u.1 10)) hx hb hT i_Model hown hK hP (k := 0) (by decide) pm_E_0 rfl 10 (by decide) (hT _ fl_Model_89) (fun _ h9 => h9) rfl d_Model_isText_51 ?_
                refine ps_seti (y := nI E) hat ?_
                refine ps_roi (k := 0) (As := [.int (nI E)]) (rest := []) ⟨hx, hb, hml, hown, hT⟩ (c_Model_see (σ := u) n ((hs.1 2 (by decide)).trans hn) hn60 (E) (by omega)) (cwV 1 hT (ps_gV ml_Model_92 im_Model_see se_Model_see in_Model co_Model_see) rfl rfl rfl cd_Model_see ⟨Nat.le_of_ble_eq_true rfl, Nat.le_of_ble_eq_true rfl⟩) hK hP (by omega) pm_E_0 rfl rfl hl.1 rfl (Nat.le_of_ble_eq_true rfl) d_Model_isText_54 ⟨Nat.zero_le _, Nat.zero_le _⟩ (fun rr hrr => ?_)
                subst hrr
                refine lv_bipush (v := nI 44) hx hb d_Model_isText_57 (by decide) ?_
                refine lv_icmp_ne (tgt := 81) hx hb d_Model_isText_59 (by decide) (fun c_59 => ?_) (fun c_59 => ?_)
                · have hcm : ¬ ps_sg (σ.2.1 1) n E = nI 44 := fun q => c_59 (pm_sz_c.mpr (by rw [hs.2.1 1 (by decide)]; exact q))
                  refine lv_iload_n hx hb d_Model_isText_81 rfl (lv_at hl 2 rfl) ?_
                  refine lv_if_eq (tgt := 100) hx hb d_Model_isText_82 (by decide) (fun c_82 => ?_) (fun c_82 => ?_)
                  · exact absurd c_82 (by decide)
                  · refine lv_aload_n hx hb d_Model_isText_85 rfl (lv_at hl 0 rfl) ?_
                    refine ps_get (v := .int (u.1 10)) hx hb hT i_Model hown hK hP (k := 0) (by decide) pm_E_0 rfl 10 (by decide) (hT _ fl_Model_89) (fun _ h9 => h9) rfl d_Model_isText_86 ?_
                    refine ps_seti (y := nI E) hat ?_
                    refine lv_aload_n hx hb d_Model_isText_89 rfl (lv_at hl 0 rfl) ?_
                    refine ps_get (v := .int (u.1 2)) hx hb hT i_Model hown hK hP (k := 0) (by decide) pm_E_0 rfl 2 (by decide) (hT _ fl_Model_64) (fun _ h9 => h9) rfl d_Model_isText_90 ?_
                    refine ps_seti (y := nI n) ((hs.1 2 (by decide)).trans hn) ?_
                    refine lv_icmp_ne (tgt := 100) hx hb d_Model_isText_93 (by decide) (fun c_93 => ?_) (fun c_93 => ?_)
                    · have hne : ¬ E = n := fun q => c_93 (by rw [q])
                      have hnn : ps_rdF (σ.2.1 1) n 6 6 = none := by rw [hct]; unfold pm_ct; rw [if_neg hne, if_neg hcm]
                      refine lv_iconst (v := nI 0) hx hb d_Model_isText_100 (by decide) ?_
                      rw [hQ]
                      exact W.zret (v := nI 0) (ty := .boolean) hx hb hr (by decide +kernel) (fun zt ht _ => ⟨⟨_, u, rfl, Or.inr ⟨rfl, pm_prs_n (fun _ => hnn), hs⟩, ps_hp ht hP⟩, hS.F ht⟩) hS.2.2 d_Model_isText_101
                    · have hEn : E = n := (nI_eq (by omega) (by omega)).mp c_93
                      have hrd : ps_rdF (σ.2.1 1) n 6 6 = some P := by rw [hct]; unfold pm_ct; rw [if_pos hEn]
                      have hprs : ps_prs (σ.2.1 1) n = P := pm_prs_s hhh hrd
                      have hPne : ¬ P = [] := (ps_rdF_ok _ _ _ _ _ hrd).2.1
                      refine lv_iconst (v := nI 1) hx hb d_Model_isText_96 (by decide) ?_
                      refine lv_goto (tgt := 101) hx hb d_Model_isText_97 (by decide) ?_
                      rw [hQ]
                      exact W.zret (v := nI 1) (ty := .boolean) hx hb hr (by decide +kernel) (fun zt ht _ => ⟨⟨_, u, rfl, Or.inl ⟨rfl, by rw [hprs]; exact hPne, hs, by rw [hprs]; exact hpm, by rw [hprs]; exact hpv⟩, ps_hp ht hP⟩, hS.F ht⟩) hS.2.2 d_Model_isText_101
                · have hcm : ps_sg (σ.2.1 1) n E = nI 44 := by have q := pm_sz_c.mp c_59; rw [hs.2.1 1 (by decide)] at q; exact q
                  have hcl := ps_sg_lt hcm (ps_nI_m1 (by decide))
                  refine lv_aload_n hx hb d_Model_isText_62 rfl (lv_at hl 0 rfl) ?_
                  refine lv_dup hx hb d_Model_isText_63 rfl ?_
                  refine ps_get (v := .int (u.1 10)) hx hb hT i_Model hown hK hP (k := 0) (by decide) pm_E_0 rfl 10 (by decide) (hT _ fl_Model_89) (fun _ h9 => h9) rfl d_Model_isText_64 ?_
                  refine ps_seti (y := nI E) hat ?_
                  refine lv_iconst (v := nI 1) hx hb d_Model_isText_67 (by decide) ?_
                  refine lv_iadd hx hb d_Model_isText_68 ?_
                  refine ps_seti (y := nI (E + 1)) (nI_add _ _) ?_
                  refine ps_put (v := .int (nI (E + 1))) (ty := .int) hx hb hT i_Model t_Model t_Model_ok n_Model hown hK hg hP hS (k := 0) (by decide) pm_E_0 rfl 10 (by decide) (hT _ fl_Model_89) (fun _ h9 => h9) rfl (by decide +kernel) rfl rfl (Nat.le_of_ble_eq_true rfl) d_Model_isText_69 (pm_E g cI cZ (pm_uI u 10 (nI (E + 1)))) (pm_h1 (by decide)) (fun _ _ h => pm_E_uI h) (fun H locs hP hS => ?_)
                  refine lv_aload_n hx hb d_Model_isText_72 rfl (lv_at hl 0 rfl) ?_
                  refine lv_iload_n hx hb d_Model_isText_73 rfl (lv_at hl 1 rfl) ?_
                  refine ps_wri (k := 0) (As := [.int (nI Ln)]) (rest := []) ⟨hx, hb, hml, hown, hT⟩ (c_Model_part (σ := (pm_uI u 10 (nI (E + 1)))) hg n ((hs.1 2 (by decide)).trans hn) hn60 (E + 1) (by omega) rfl P.length hP6 hpm Ln hLn4) (cwV 1 hT (ps_gV ml_Model_108 im_Model_part se_Model_part in_Model co_Model_part) rfl rfl rfl cd_Model_part ⟨Nat.le_of_ble_eq_true rfl, Nat.le_of_ble_eq_true rfl⟩) hK hP hS (fun _ h => h) (by omega) pm_E_0 rfl rfl hl.1 rfl (Nat.le_of_ble_eq_true rfl) d_Model_isText_74 ⟨Nat.zero_le _, Nat.zero_le _⟩ (fun rr u4 H locs hu4 hP hS _ => ?_)
                  rcases hu4 with ⟨E2, lo, hi, hP5, hrp, rfl, hs4, hat4, hpm4, hp6, hp7⟩ | ⟨hno, rfl, hs4⟩
                  · have hrp : pm_rp (σ.2.1 1) n (E + 1) = some (E2, lo, hi) := by rw [← hs.2.1 1 (by decide)]; exact hrp
                    have hEn := (pm_rp_le hrp).2
                    have hEl := (pm_rp_le hrp).1
                    have hs9 : pm_sm [10, 11] [6, 7] [] σ u4 := (hs.I (by decide)).to hs4 (by decide) (by decide) (by decide)
                    have hpv4 : ∀ i, (hi2 : i < (P ++ [(lo, hi)]).length) → u4.2.1 6 i = ps_fp (nI Ln) (P ++ [(lo, hi)])[i] ∧ u4.2.1 7 i = ps_lp (nI Ln) (P ++ [(lo, hi)])[i] := fun i hi2 => by
                      rw [hp6, hp7]; exact pm_pv hpv i hi2
                    refine lv_istore_n (lv' := [(2, .int (nI 1)), (0, .ref (g 0)), (1, .int (nI Ln))]) hx hb d_Model_isText_77 rfl hl (by decide) rfl (fun ls hl => ?_)
                    refine lv_goto (tgt := 45) hx hb d_Model_isText_78 (by decide) ?_
                    exact ih_b E2 (P ++ [(lo, hi)]) u4 hEn (by simp; omega) (hct.trans (pm_ct_go hcm hP5 hrp)) hs9 hat4 (by rw [hpm4]; simp) hpv4 (by omega) _ _ hP hS ls (lv_sub hl [1, 2, 0] rfl)
                  · have hs9 : pm_sm [10, 11] [6, 7] [] σ u4 := (hs.I (by decide)).to hs4 (by decide) (by decide) (by decide)
                    have hnn : ps_rdF (σ.2.1 1) n 6 6 = none := by
                      rcases hno with q | q
                      · rw [hct]; exact pm_ct_full hcm q
                      · by_cases q6 : P.length = 6
                        · rw [hct]; exact pm_ct_full hcm q6
                        · rw [hct]; exact pm_ct_none hcm (by omega) (by rw [← hs.2.1 1 (by decide)]; exact q)
                    refine lv_istore_n (lv' := [(2, .int (nI 0)), (0, .ref (g 0)), (1, .int (nI Ln))]) hx hb d_Model_isText_77 rfl hl (by decide) rfl (fun ls hl => ?_)
                    refine lv_goto (tgt := 45) hx hb d_Model_isText_78 (by decide) ?_
                    refine lv_iload_n hx hb d_Model_isText_45 rfl (lv_at hl 0 rfl) ?_
                    refine lv_if_eq (tgt := 81) hx hb d_Model_isText_46 (by decide) (fun c_46 => ?_) (fun c_46 => ?_)
                    · refine lv_iload_n hx hb d_Model_isText_81 rfl (lv_at hl 0 rfl) ?_
                      refine lv_if_eq (tgt := 100) hx hb d_Model_isText_82 (by decide) (fun c_82 => ?_) (fun c_82 => ?_)
                      · refine lv_iconst (v := nI 0) hx hb d_Model_isText_100 (by decide) ?_
                        rw [hQ]
                        exact W.zret (v := nI 0) (ty := .boolean) hx hb hr (by decide +kernel) (fun zt ht _ => ⟨⟨_, u4, rfl, Or.inr ⟨rfl, pm_prs_n (fun _ => hnn), hs9⟩, ps_hp ht hP⟩, hS.F ht⟩) hS.2.2 d_Model_isText_101
                      · exact absurd (by decide) c_82
                    · exact absurd (by decide) c_46
          exact L_b (61 - E + 1) E ([(lo, hi)]) u3 hEn (by simp) (pm_ct_0 hrp) hs9 hat3 hpm3 hpv3 (by omega) _ _ hP hS ls (lv_sub hl [1, 2, 0] rfl)
        · have hs9 : pm_sm [10, 11] [6, 7] [] σ u3 := (((pm_sm_rf _ _ _ σ).I (by decide)).I (by decide)).to hs3 (by decide) (by decide) (by decide)
          have hnn : ps_rdF (σ.2.1 1) n 6 6 = none := pm_ct_n (hno.resolve_left (by decide))
          refine lv_istore_n (lv' := [(2, .int (nI 0)), (0, .ref (g 0)), (1, .int (nI Ln))]) hx hb d_Model_isText_44 rfl hl (by decide) rfl (fun ls hl => ?_)
          refine lv_iload_n hx hb d_Model_isText_45 rfl (lv_at hl 0 rfl) ?_
          refine lv_if_eq (tgt := 81) hx hb d_Model_isText_46 (by decide) (fun c_46 => ?_) (fun c_46 => ?_)
          · refine lv_iload_n hx hb d_Model_isText_81 rfl (lv_at hl 0 rfl) ?_
            refine lv_if_eq (tgt := 100) hx hb d_Model_isText_82 (by decide) (fun c_82 => ?_) (fun c_82 => ?_)
            · refine lv_iconst (v := nI 0) hx hb d_Model_isText_100 (by decide) ?_
              rw [hQ]
              exact W.zret (v := nI 0) (ty := .boolean) hx hb hr (by decide +kernel) (fun zt ht _ => ⟨⟨_, u3, rfl, Or.inr ⟨rfl, pm_prs_n (fun _ => hnn), hs9⟩, ps_hp ht hP⟩, hS.F ht⟩) hS.2.2 d_Model_isText_101
            · exact absurd (by decide) c_82
          · exact absurd (by decide) c_46
      · have hk6 : k < 6 := by have := ps_ltOf c_5 (by omega) (by omega); omega
        refine lv_aload_n hx hb d_Model_isText_8 rfl (lv_at hl 0 rfl) ?_
        refine lv_iload_n hx hb d_Model_isText_9 rfl (lv_at hl 2 rfl) ?_
        refine ps_roi (k := 0) (As := [.int (nI k)]) (rest := []) ⟨hx, hb, hml, hown, hT⟩ (c_Model_see (σ := σ) n hn hn60 (k) (by omega)) (cwV 1 hT (ps_gV ml_Model_92 im_Model_see se_Model_see in_Model co_Model_see) rfl rfl rfl cd_Model_see ⟨Nat.le_of_ble_eq_true rfl, Nat.le_of_ble_eq_true rfl⟩) hK hP (by omega) pm_E_0 rfl rfl hl.1 rfl (Nat.le_of_ble_eq_true rfl) d_Model_isText_10 ⟨Nat.zero_le _, Nat.zero_le _⟩ (fun rr hrr => ?_)
        subst hrr
        refine lv_iload_n hx hb d_Model_isText_13 rfl (lv_at hl 2 rfl) ?_
        refine ps_sti (As := [.int (nI k)]) (rest := [.int (ps_sz (σ.2.1 1) n (k))]) ⟨hx, hb, hml, hown, hT⟩ (c_Model_prefix k hk6) (va_cwS 1 hT (ps_gS ml_Model_105 st_Model_prefix in_Model co_Model_prefix) rfl rfl rfl cs_Model_prefix ⟨Nat.le_of_ble_eq_true rfl, Nat.le_of_ble_eq_true rfl⟩) rfl hl.1 rfl (Nat.le_of_ble_eq_true rfl) d_Model_isText_14 ⟨Nat.zero_le _, Nat.zero_le _⟩ (fun rr hrr => ?_)
        subst hrr
        refine lv_icmp_eq (tgt := 22) hx hb d_Model_isText_17 (by decide) (fun c_17 => ?_) (fun c_17 => ?_)
        · refine lv_iinc (v := (nI (k + 1))) (lv' := [(2, .int (nI (k + 1))), (0, .ref (g 0)), (1, .int (nI Ln))]) hx hb d_Model_isText_22 hl (k := 2) rfl (nI_1 _) (by decide) rfl (fun ls hl => ?_)
          refine lv_goto (tgt := 2) hx hb d_Model_isText_25 (by decide) ?_
          exact ih_a (k + 1) (by omega) (fun j hj => by
            rcases Nat.lt_or_ge j k with z | z
            · exact he j z
            · rw [show j = k by omega]; exact (pm_sz_hb hk6).mp c_17) (by omega)  ls (lv_sub hl [1, 2, 0] rfl)
        · refine lv_iconst (v := nI 0) hx hb d_Model_isText_20 (by decide) ?_
          rw [hQ]
          exact W.zret (v := nI 0) (ty := .boolean) hx hb hr (by decide +kernel) (fun zt ht _ => ⟨⟨_, σ, rfl, Or.inr ⟨rfl, pm_prs_h (fun q => c_17 ((pm_sz_hb hk6).mpr (q k hk6))), pm_sm_rf _ _ _ _⟩, ps_hp ht hP⟩, hS.F ht⟩) hS.2.2 d_Model_isText_21
  exact L_a (6 - 0 + 1) 0 (by omega) (fun j hj => absurd hj (Nat.not_lt_zero j)) (by omega)  ls (lv_sub hl [1, 2, 0] rfl)
