theorem fl_Model_89 : (.fieldLink R_Model 89 R_Model "at" "I" : Cond) ∈ ps_tb := ps_in 529 (by decide +kernel) rfl
theorem ml_Model_92 : (.methodLink R_Model 92 y_Model_see : Cond) ∈ ps_tb := ps_in 659 (by decide +kernel) rfl
theorem co_Model_see : (.code y_Model_see b_Model_see 2 (some .int) : Cond) ∈ ps_tb := ps_in 662 (by decide +kernel) rfl
theorem im_Model_see : (.instanceMethod y_Model_see : Cond) ∈ ps_tb := ps_in 661 (by decide +kernel) rfl
theorem se_Model_see : (.selects R_Model y_Model_see y_Model_see : Cond) ∈ ps_tb := ps_inS 22 (by decide +kernel) rfl
theorem ml_Model_95 : (.methodLink R_Model 95 y_Model_isDigit : Cond) ∈ ps_tb := ps_in 674 (by decide +kernel) rfl
theorem co_Model_isDigit : (.code y_Model_isDigit b_Model_isDigit 1 (some .boolean) : Cond) ∈ ps_tb := ps_in 676 (by decide +kernel) rfl
theorem st_Model_isDigit : (.static y_Model_isDigit : Cond) ∈ ps_tb := ps_in 675 (by decide +kernel) rfl
theorem fl_Model_98 : (.fieldLink R_Model 98 R_Model "partMany" "I" : Cond) ∈ ps_tb := ps_in 530 (by decide +kernel) rfl
theorem ml_Model_101 : (.methodLink R_Model 101 y_Model_number : Cond) ∈ ps_tb := ps_in 670 (by decide +kernel) rfl
theorem co_Model_number : (.code y_Model_number b_Model_number 3 (some .int) : Cond) ∈ ps_tb := ps_in 673 (by decide +kernel) rfl
theorem im_Model_number : (.instanceMethod y_Model_number : Cond) ∈ ps_tb := ps_in 672 (by decide +kernel) rfl
theorem se_Model_number : (.selects R_Model y_Model_number y_Model_number : Cond) ∈ ps_tb := ps_inS 24 (by decide +kernel) rfl
theorem fl_Model_33 : (.fieldLink R_Model 33 R_Model "partFrom" "[I" : Cond) ∈ ps_tb := ps_in 531 (by decide +kernel) rfl
theorem fl_Model_36 : (.fieldLink R_Model 36 R_Model "partTo" "[I" : Cond) ∈ ps_tb := ps_in 532 (by decide +kernel) rfl
theorem cs_Model_isDigit : y_Model_isDigit.cls ≠ "java/lang/invoke/MethodHandle" ∧ y_Model_isDigit.cls ≠ "java/lang/invoke/VarHandle" ∧ (parseMethodDescriptor y_Model_isDigit.desc).map (fun d => d.parameters.length) = some 1 := by decide +kernel
theorem cd_Model_number : y_Model_number.cls = R_Model ∧ y_Model_number.cls ≠ "java/lang/invoke/MethodHandle" ∧ y_Model_number.cls ≠ "java/lang/invoke/VarHandle" ∧ (parseMethodDescriptor y_Model_number.desc).map (fun d => d.parameters.length) = some 0 := by decide +kernel
theorem cd_Model_see : y_Model_see.cls = R_Model ∧ y_Model_see.cls ≠ "java/lang/invoke/MethodHandle" ∧ y_Model_see.cls ≠ "java/lang/invoke/VarHandle" ∧ (parseMethodDescriptor y_Model_see.desc).map (fun d => d.parameters.length) = some 1 := by decide +kernel
def rm_Model_see : Room := { frames := 0, cells := 0, slots := 0, locals := 0 }
abbrev ws_Model_see : List Cond := .code y_Model_see b_Model_see 2 (some .int) :: ps_tb
set_option maxHeartbeats 4000000 in
set_option maxRecDepth 100000 in
theorem c_Model_see {l : Launch} {D : va_G} {g : Nat → Nat} {cI cZ : ClassId} {σ : pm_τ} (n : Nat) (hn : σ.1 2 = nI n) (hn60 : n ≤ 60) (i : Nat) (hi : i < 2 ^ 31) : Met l y_Model_see ws_Model_see rm_Model_see (ps_Pc D pm_cl (pm_tys cI cZ) 13 g (pm_E g cI cZ σ) [.ref (g 0), .int (nI i)]) (vp_Si (fun r => r = ps_sz (σ.2.1 1) n i)) 0 0 (fun _ => False) := by
  refine ps_met (by decide) ?_
  intro p e s m args below meth c hx hb hr hml hts hown hlocks hname hv Q hQ
  obtain ⟨ha, hP, hK⟩ := hv
  have hT : ∀ w ∈ ps_tb, w.before args s = true := fun w h => hts w (List.mem_cons_of_mem _ h)
  have hown : s.vm.findClass R_Model = some m.cls := hown
  refine ps_enter ha (Nat.le_of_ble_eq_true rfl) (fun ls hl => ?_)
  have hl : lv_has ls 2 [(0, .ref (g 0)), (1, .int (nI i))] := hl
  refine lv_iload_n hx hb d_Model_see_0 rfl (lv_at hl 1 rfl) ?_
  refine lv_aload_n hx hb d_Model_see_1 rfl (lv_at hl 0 rfl) ?_
  refine ps_get (v := .int (σ.1 2)) hx hb hT i_Model hown hK hP (k := 0) (by decide) pm_E_0 rfl 2 (by decide) (hT _ fl_Model_64) (fun _ h9 => h9) rfl d_Model_see_2 ?_
  refine ps_seti (y := nI n) hn ?_
  refine lv_icmp_ge (tgt := 17) hx hb d_Model_see_5 (by decide) (fun c_5 => ?_) (fun c_5 => ?_)
  · have hin : n ≤ i := ps_leT c_5 (by omega) hi
    have hp : ps_sz (σ.2.1 1) n i = nI 0 := by unfold ps_sz; rw [if_neg (by omega)]
    refine lv_iconst (v := nI 0) hx hb d_Model_see_17 (by decide) ?_
    rw [hQ]
    exact W.iret (v := nI 0) hx hb hr (fun zt ht _ => ⟨_, rfl, hp.symm, ht⟩) (fun q h => absurd h List.not_mem_nil) d_Model_see_18
  · have hin : i < n := ps_ltOf c_5 hi (by omega)
    have hp : ps_sz (σ.2.1 1) n i = σ.2.1 1 i := by unfold ps_sz; rw [if_pos hin]
    refine lv_aload_n hx hb d_Model_see_8 rfl (lv_at hl 0 rfl) ?_
    refine ps_get (v := .ref (g 1)) hx hb hT i_Model hown hK hP (k := 0) (by decide) pm_E_0 rfl 1 (by decide) (hT _ fl_Model_7) (fun _ h9 => h9) rfl d_Model_see_9 ?_
    refine lv_iload_n hx hb d_Model_see_12 rfl (lv_at hl 1 rfl) ?_
    refine ps_iald (f := σ.2.1 1) hx hb hK hP (k := 1) (by decide) 0 pm_E_1 rfl (i := i) (by omega) (by decide) d_Model_see_13 ?_
    refine lv_goto (tgt := 18) hx hb d_Model_see_14 (by decide) ?_
    rw [hQ]
    exact W.iret (v := σ.2.1 1 i) hx hb hr (fun zt ht _ => ⟨_, rfl, hp.symm, ht⟩) (fun q h => absurd h List.not_mem_nil) d_Model_see_18

def rm_Model_isDigit : Room := { frames := 0, cells := 0, slots := 0, locals := 0 }
abbrev ws_Model_isDigit : List Cond := .code y_Model_isDigit b_Model_isDigit 1 (some .boolean) :: ps_tb
set_option maxHeartbeats 4000000 in
set_option maxRecDepth 100000 in
theorem c_Model_isDigit {l : Launch} (x : Int32) : Met l y_Model_isDigit ws_Model_isDigit rm_Model_isDigit (va_Pc [.int x] (fun _ => True)) (vp_Si (fun r => r = ps_bI (ps_isd x))) 0 0 (fun _ => False) := by
  refine ps_met (by decide) ?_
  intro p e s m args below meth c hx hb hr hml hts hown hlocks hname hv Q hQ
  obtain ⟨ha, -⟩ := hv
  have hT : ∀ w ∈ ps_tb, w.before args s = true := fun w h => hts w (List.mem_cons_of_mem _ h)
  have hown : s.vm.findClass R_Model = some m.cls := hown
  refine ps_enter ha (Nat.le_of_ble_eq_true rfl) (fun ls hl => ?_)
  have hl : lv_has ls 1 [(0, .int x)] := hl
  refine lv_iload_n hx hb d_Model_isDigit_0 rfl (lv_at hl 0 rfl) ?_
  refine lv_bipush (v := nI 48) hx hb d_Model_isDigit_1 (by decide) ?_
  refine lv_icmp_lt (tgt := 16) hx hb d_Model_isDigit_3 (by decide) (fun c_3 => ?_) (fun c_3 => ?_)
  · have hd := ps_isd_lo c_3
    refine lv_iconst (v := nI 0) hx hb d_Model_isDigit_16 (by decide) ?_
    rw [hQ]
    exact W.zret (v := nI 0) (ty := .boolean) hx hb hr (by decide +kernel) (fun zt ht _ => ⟨_, rfl, by rw [hd]; rfl, ht⟩) (fun q h => absurd h List.not_mem_nil) d_Model_isDigit_17
  · refine lv_iload_n hx hb d_Model_isDigit_6 rfl (lv_at hl 0 rfl) ?_
    refine lv_bipush (v := nI 57) hx hb d_Model_isDigit_7 (by decide) ?_
    refine lv_icmp_gt (tgt := 16) hx hb d_Model_isDigit_9 (by decide) (fun c_9 => ?_) (fun c_9 => ?_)
    · have hd := ps_isd_hi c_9
      refine lv_iconst (v := nI 0) hx hb d_Model_isDigit_16 (by decide) ?_
      rw [hQ]
      exact W.zret (v := nI 0) (ty := .boolean) hx hb hr (by decide +kernel) (fun zt ht _ => ⟨_, rfl, by rw [hd]; rfl, ht⟩) (fun q h => absurd h List.not_mem_nil) d_Model_isDigit_17
    · have hd := ps_isd_in c_3 c_9
      refine lv_iconst (v := nI 1) hx hb d_Model_isDigit_12 (by decide) ?_
      refine lv_goto (tgt := 17) hx hb d_Model_isDigit_13 (by decide) ?_
      rw [hQ]
      exact W.zret (v := nI 1) (ty := .boolean) hx hb hr (by decide +kernel) (fun zt ht _ => ⟨_, rfl, by rw [hd]; rfl, ht⟩) (fun q h => absurd h List.not_mem_nil) d_Model_isDigit_17

def rm_Model_number : Room := { frames := 1, cells := 0, slots := 0, locals := 21 }
abbrev ws_Model_number : List Cond := .code y_Model_number b_Model_number 3 (some .int) :: ps_tb
set_option maxHeartbeats 4000000 in
set_option maxRecDepth 100000 in
theorem c_Model_number {l : Launch} {D : va_G} {g : Nat → Nat} {cI cZ : ClassId} {σ : pm_τ} (hg : ps_inj 13 g) (n : Nat) (hn : σ.1 2 = nI n) (hn60 : n ≤ 60) (a : Nat) (ha1 : a < 2 ^ 30) (hat0 : σ.1 10 = nI a) : Met l y_Model_number ws_Model_number rm_Model_number (ps_Pc D pm_cl (pm_tys cI cZ) 13 g (pm_E g cI cZ σ) [.ref (g 0)]) (ps_Qi (S := pm_τ) D pm_cl 13 g (fun u => pm_E g cI cZ u) (fun r u => r = pm_nb (σ.2.1 1) n a ∧ pm_sm [10] [] [] σ u ∧ u.1 10 = nI (pm_end (σ.2.1 1) n a))) 0 0 (ps_wA 13 g) := by
  refine ps_met (by decide) ?_
  intro p e s m args below meth c hx hb hr hml hts hown hlocks hname hv Q hQ
  obtain ⟨ha, hP, hK⟩ := hv
  have hT : ∀ w ∈ ps_tb, w.before args s = true := fun w h => hts w (List.mem_cons_of_mem _ h)
  have hown : s.vm.findClass R_Model = some m.cls := hown
  have hS : va_S (ps_wA 13 g) s.heap s.heap [] := va_S.rf
  refine ps_enter ha (Nat.le_of_ble_eq_true rfl) (fun ls hl => ?_)
  have hl : lv_has ls 3 [(0, .ref (g 0))] := hl
  refine lv_iconst (v := nI 0) hx hb d_Model_number_0 (by decide) ?_
  refine lv_istore_n (lv' := [(1, .int (nI 0)), (0, .ref (g 0))]) hx hb d_Model_number_1 rfl hl (by decide) rfl (fun ls hl => ?_)
  refine lv_iconst (v := nI 0) hx hb d_Model_number_2 (by decide) ?_
  refine lv_istore_n (lv' := [(2, .int (nI 0)), (1, .int (nI 0)), (0, .ref (g 0))]) hx hb d_Model_number_3 rfl hl (by decide) rfl (fun ls hl => ?_)
  have L_a : ∀ (n_a : Nat) (j : Nat) (v : Int32) (u : pm_τ), (a + j ≤ 60 ∨ j = 0) → (pm_sm [10] [] [] σ u) → (u.1 10 = nI (a + j)) → (pm_end (σ.2.1 1) n a = pm_end (σ.2.1 1) n (a + j)) → (j ≤ 5 → v = ps_nmF (σ.2.1 1) n j a (nI 0)) → 61 - j < n_a → ∀ (H : Heap) (locs : List Loc), va_P D pm_cl (ps_wl 13 g (pm_E g cI cZ u)) H → va_S (ps_wA 13 g) s.heap H locs → ∀ (ls : Array Slot), lv_has ls 3 [(0, .ref (g 0)), (1, .int v), (2, .int (nI j))] → W p l e rm_Model_number s m args below meth c H locs 0 0 Q (F0 m 4 ls []) := by
    intro n_a
    induction n_a with
    | zero => intro j v u hj hs hat he hv hf_a; exact absurd hf_a (Nat.not_lt_zero _)
    | succ n_a ih_a =>
      intro j v u hj hs hat he hv hf_a H locs hP hS ls hl
      refine lv_aload_n hx hb d_Model_number_4 rfl (lv_at hl 0 rfl) ?_
      refine lv_aload_n hx hb d_Model_number_5 rfl (lv_at hl 0 rfl) ?_
      refine ps_get (v := .int (u.1 10)) hx hb hT i_Model hown hK hP (k := 0) (by decide) pm_E_0 rfl 10 (by decide) (hT _ fl_Model_89) (fun _ h9 => h9) rfl d_Model_number_6 ?_
      refine ps_seti (y := nI (a + j)) hat ?_
      refine ps_roi (k := 0) (As := [.int (nI (a + j))]) (rest := []) ⟨hx, hb, hml, hown, hT⟩ (c_Model_see (σ := u) n ((hs.1 2 (by decide)).trans hn) hn60 (a + j) (by omega)) (cwV 1 hT (ps_gV ml_Model_92 im_Model_see se_Model_see in_Model co_Model_see) rfl rfl rfl cd_Model_see ⟨Nat.le_of_ble_eq_true rfl, Nat.le_of_ble_eq_true rfl⟩) hK hP (by omega) pm_E_0 rfl rfl hl.1 rfl (Nat.le_of_ble_eq_true rfl) d_Model_number_9 ⟨Nat.zero_le _, Nat.zero_le _⟩ (fun rr hrr => ?_)
      subst hrr
      refine ps_sti (As := [.int (ps_sz (u.2.1 1) n (a + j))]) (rest := []) ⟨hx, hb, hml, hown, hT⟩ (c_Model_isDigit (ps_sz (u.2.1 1) n (a + j))) (va_cwS 1 hT (ps_gS ml_Model_95 st_Model_isDigit in_Model co_Model_isDigit) rfl rfl rfl cs_Model_isDigit ⟨Nat.le_of_ble_eq_true rfl, Nat.le_of_ble_eq_true rfl⟩) rfl hl.1 rfl (Nat.le_of_ble_eq_true rfl) d_Model_number_12 ⟨Nat.zero_le _, Nat.zero_le _⟩ (fun rr hrr => ?_)
      subst hrr
      refine lv_if_eq (tgt := 56) hx hb d_Model_number_15 (by decide) (fun c_15 => ?_) (fun c_15 => ?_)
      · have hd : ps_isd (ps_sg (σ.2.1 1) n (a + j)) = false := by rw [← pm_sz_isd, ← hs.2.1 1 (by decide)]; exact ps_bI_0.mp c_15
        obtain ⟨hend, hnb⟩ := pm_nb_stop he hd hv
        refine lv_iload_n hx hb d_Model_number_56 rfl (lv_at hl 2 rfl) ?_
        refine lv_if_eq (tgt := 65) hx hb d_Model_number_57 (by decide) (fun c_57 => ?_) (fun c_57 => ?_)
        · have hj0 : j = 0 := (nI_eq (b := 0) (by omega) (by decide)).mp c_57
          refine lv_iconst (v := -1) hx hb d_Model_number_65 (by decide) ?_
          refine lv_goto (tgt := 70) hx hb d_Model_number_66 (by decide) ?_
          rw [hQ]
          exact W.iret (v := -1) hx hb hr (fun zt ht _ => ⟨⟨_, u, rfl, ⟨by rw [hnb, if_pos hj0], hs, by rw [hat, hend]⟩, ps_hp ht hP⟩, hS.F ht⟩) hS.2.2 d_Model_number_70
        · have hj0 : 0 < j := pm_n0 c_57
          refine lv_iload_n hx hb d_Model_number_60 rfl (lv_at hl 2 rfl) ?_
          refine lv_iconst (v := nI 5) hx hb d_Model_number_61 (by decide) ?_
          refine lv_icmp_le (tgt := 69) hx hb d_Model_number_62 (by decide) (fun c_62 => ?_) (fun c_62 => ?_)
          · have hj5 : j ≤ 5 := ps_leT c_62 (by omega) (by decide)
            refine lv_iload_n hx hb d_Model_number_69 rfl (lv_at hl 1 rfl) ?_
            rw [hQ]
            exact W.iret (v := v) hx hb hr (fun zt ht _ => ⟨⟨_, u, rfl, ⟨by rw [hnb, if_neg (by omega), if_pos hj5], hs, by rw [hat, hend]⟩, ps_hp ht hP⟩, hS.F ht⟩) hS.2.2 d_Model_number_70
          · have hj5 : ¬ j ≤ 5 := fun q => c_62 (nI_le q (by decide))
            refine lv_iconst (v := -1) hx hb d_Model_number_65 (by decide) ?_
            refine lv_goto (tgt := 70) hx hb d_Model_number_66 (by decide) ?_
            rw [hQ]
            exact W.iret (v := -1) hx hb hr (fun zt ht _ => ⟨⟨_, u, rfl, ⟨by rw [hnb, if_neg (by omega), if_neg hj5], hs, by rw [hat, hend]⟩, ps_hp ht hP⟩, hS.F ht⟩) hS.2.2 d_Model_number_70
      · have hd : ps_isd (ps_sg (σ.2.1 1) n (a + j)) = true := by rw [← pm_sz_isd, ← hs.2.1 1 (by decide)]; exact ps_bI_n0.mp c_15
        have hlt := pm_isd_lt hd
        refine lv_iload_n hx hb d_Model_number_18 rfl (lv_at hl 2 rfl) ?_
        refine lv_iconst (v := nI 5) hx hb d_Model_number_19 (by decide) ?_
        refine lv_icmp_ge (tgt := 40) hx hb d_Model_number_20 (by decide) (fun c_20 => ?_) (fun c_20 => ?_)
        · refine lv_aload_n hx hb d_Model_number_40 rfl (lv_at hl 0 rfl) ?_
          refine lv_dup hx hb d_Model_number_41 rfl ?_
          refine ps_get (v := .int (u.1 10)) hx hb hT i_Model hown hK hP (k := 0) (by decide) pm_E_0 rfl 10 (by decide) (hT _ fl_Model_89) (fun _ h9 => h9) rfl d_Model_number_42 ?_
          refine ps_seti (y := nI (a + j)) hat ?_
          refine lv_iconst (v := nI 1) hx hb d_Model_number_45 (by decide) ?_
          refine lv_iadd hx hb d_Model_number_46 ?_
          refine ps_seti (y := nI (a + j + 1)) (nI_add _ _) ?_
          refine ps_put (v := .int (nI (a + j + 1))) (ty := .int) hx hb hT i_Model t_Model t_Model_ok n_Model hown hK hg hP hS (k := 0) (by decide) pm_E_0 rfl 10 (by decide) (hT _ fl_Model_89) (fun _ h9 => h9) rfl (by decide +kernel) rfl rfl (Nat.le_of_ble_eq_true rfl) d_Model_number_47 (pm_E g cI cZ (pm_uI u 10 (nI (a + j + 1)))) (pm_h1 (by decide)) (fun _ _ h => pm_E_uI h) (fun H locs hP hS => ?_)
          refine lv_iinc (v := (nI (j + 1))) (lv' := [(2, .int (nI (j + 1))), (0, .ref (g 0)), (1, .int v)]) hx hb d_Model_number_50 hl (k := 2) rfl (nI_1 _) (by decide) rfl (fun ls hl => ?_)
          refine lv_goto (tgt := 4) hx hb d_Model_number_53 (by decide) ?_
          exact ih_a (j + 1) v (pm_uI u 10 (nI (a + j + 1))) (Or.inl (by omega)) (hs.I (by decide)) rfl (he.trans (pm_end_yes hd)) (fun h => absurd h (by have := ps_leT c_20 (by decide) (by omega); omega)) (by omega) _ _ hP hS ls (lv_sub hl [1, 2, 0] rfl)
        · have hj5 : j < 5 := ps_ltOf c_20 (by omega) (by decide)
          refine lv_bipush (v := nI 10) hx hb d_Model_number_23 (by decide) ?_
          refine lv_iload_n hx hb d_Model_number_25 rfl (lv_at hl 1 rfl) ?_
          refine lv_imul hx hb d_Model_number_26 ?_
          refine lv_aload_n hx hb d_Model_number_27 rfl (lv_at hl 0 rfl) ?_
          refine lv_aload_n hx hb d_Model_number_28 rfl (lv_at hl 0 rfl) ?_
          refine ps_get (v := .int (u.1 10)) hx hb hT i_Model hown hK hP (k := 0) (by decide) pm_E_0 rfl 10 (by decide) (hT _ fl_Model_89) (fun _ h9 => h9) rfl d_Model_number_29 ?_
          refine ps_seti (y := nI (a + j)) hat ?_
          refine ps_roi (k := 0) (As := [.int (nI (a + j))]) (rest := [.int ((nI 10) * v)]) ⟨hx, hb, hml, hown, hT⟩ (c_Model_see (σ := u) n ((hs.1 2 (by decide)).trans hn) hn60 (a + j) (by omega)) (cwV 1 hT (ps_gV ml_Model_92 im_Model_see se_Model_see in_Model co_Model_see) rfl rfl rfl cd_Model_see ⟨Nat.le_of_ble_eq_true rfl, Nat.le_of_ble_eq_true rfl⟩) hK hP (by omega) pm_E_0 rfl rfl hl.1 rfl (Nat.le_of_ble_eq_true rfl) d_Model_number_32 ⟨Nat.zero_le _, Nat.zero_le _⟩ (fun rr hrr => ?_)
          subst hrr
          refine lv_iadd hx hb d_Model_number_35 ?_
          refine lv_bipush (v := nI 48) hx hb d_Model_number_36 (by decide) ?_
          refine lv_isub hx hb d_Model_number_38 ?_
          refine lv_istore_n (lv' := [(1, .int ((((nI 10) * v) + (ps_sz (u.2.1 1) n (a + j))) - (nI 48))), (0, .ref (g 0)), (2, .int (nI j))]) hx hb d_Model_number_39 rfl hl (by decide) rfl (fun ls hl => ?_)
          refine lv_aload_n hx hb d_Model_number_40 rfl (lv_at hl 1 rfl) ?_
          refine lv_dup hx hb d_Model_number_41 rfl ?_
          refine ps_get (v := .int (u.1 10)) hx hb hT i_Model hown hK hP (k := 0) (by decide) pm_E_0 rfl 10 (by decide) (hT _ fl_Model_89) (fun _ h9 => h9) rfl d_Model_number_42 ?_
          refine ps_seti (y := nI (a + j)) hat ?_
          refine lv_iconst (v := nI 1) hx hb d_Model_number_45 (by decide) ?_
          refine lv_iadd hx hb d_Model_number_46 ?_
          refine ps_seti (y := nI (a + j + 1)) (nI_add _ _) ?_
          refine ps_put (v := .int (nI (a + j + 1))) (ty := .int) hx hb hT i_Model t_Model t_Model_ok n_Model hown hK hg hP hS (k := 0) (by decide) pm_E_0 rfl 10 (by decide) (hT _ fl_Model_89) (fun _ h9 => h9) rfl (by decide +kernel) rfl rfl (Nat.le_of_ble_eq_true rfl) d_Model_number_47 (pm_E g cI cZ (pm_uI u 10 (nI (a + j + 1)))) (pm_h1 (by decide)) (fun _ _ h => pm_E_uI h) (fun H locs hP hS => ?_)
          refine lv_iinc (v := (nI (j + 1))) (lv' := [(2, .int (nI (j + 1))), (1, .int ((((nI 10) * v) + (ps_sz (u.2.1 1) n (a + j))) - (nI 48))), (0, .ref (g 0))]) hx hb d_Model_number_50 hl (k := 2) rfl (nI_1 _) (by decide) rfl (fun ls hl => ?_)
          refine lv_goto (tgt := 4) hx hb d_Model_number_53 (by decide) ?_
          exact ih_a (j + 1) ((nI 10 * v + ps_sz (u.2.1 1) n (a + j)) - nI 48) (pm_uI u 10 (nI (a + j + 1))) (Or.inl (by omega)) (hs.I (by decide)) rfl (he.trans (pm_end_yes hd)) (by rw [hs.2.1 1 (by decide)]; exact pm_nb_v hj5 hd hv) (by omega) _ _ hP hS ls (lv_sub hl [2, 1, 0] rfl)
  exact L_a (61 - 0 + 1) 0 (nI 0) (σ) (Or.inr rfl) (pm_sm_rf _ _ _ _) hat0 rfl (fun _ => rfl) (by omega) _ _ hP hS ls (lv_sub hl [2, 1, 0] rfl)

def rm_Model_part : Room := { frames := 2, cells := 0, slots := 0, locals := 43 }
abbrev ws_Model_part : List Cond := .code y_Model_part b_Model_part 5 (some .boolean) :: ps_tb
set_option maxHeartbeats 4000000 in
set_option maxRecDepth 100000 in
theorem c_Model_part {l : Launch} {D : va_G} {g : Nat → Nat} {cI cZ : ClassId} {σ : pm_τ} (hg : ps_inj 13 g) (n : Nat) (hn : σ.1 2 = nI n) (hn60 : n ≤ 60) (a : Nat) (ha1 : a ≤ 61) (hat0 : σ.1 10 = nI a) (k : Nat) (hk : k ≤ 6) (hpk : σ.1 11 = nI k) (Ln : Nat) (hLn4 : Ln ≤ 4095) : Met l y_Model_part ws_Model_part rm_Model_part (ps_Pc D pm_cl (pm_tys cI cZ) 13 g (pm_E g cI cZ σ) [.ref (g 0), .int (nI Ln)]) (ps_Qi (S := pm_τ) D pm_cl 13 g (fun u => pm_E g cI cZ u) (fun r u => (∃ (E : Nat) (lo hi : Int32), k < 6 ∧ pm_rp (σ.2.1 1) n a = some (E, lo, hi) ∧ r = nI 1 ∧ pm_sm [10, 11] [6, 7] [] σ u ∧ u.1 10 = nI E ∧ u.1 11 = nI (k + 1) ∧ u.2.1 6 = va_up (σ.2.1 6) k (ps_fp (nI Ln) (lo, hi)) ∧ u.2.1 7 = va_up (σ.2.1 7) k (ps_lp (nI Ln) (lo, hi))) ∨ ((k = 6 ∨ pm_rp (σ.2.1 1) n a = none) ∧ r = nI 0 ∧ pm_sm [10, 11] [6, 7] [] σ u))) 0 0 (ps_wA 13 g) := by
  refine ps_met (by decide) ?_
  intro p e s m args below meth c hx hb hr hml hts hown hlocks hname hv Q hQ
  obtain ⟨ha, hP, hK⟩ := hv
  have hT : ∀ w ∈ ps_tb, w.before args s = true := fun w h => hts w (List.mem_cons_of_mem _ h)
  have hown : s.vm.findClass R_Model = some m.cls := hown
  have hS : va_S (ps_wA 13 g) s.heap s.heap [] := va_S.rf
  refine ps_enter ha (Nat.le_of_ble_eq_true rfl) (fun ls hl => ?_)
  have hl : lv_has ls 5 [(0, .ref (g 0)), (1, .int (nI Ln))] := hl
  have hE1b : pm_end (σ.2.1 1) n a ≤ 61 := pm_end_le hn60 ha1
  refine lv_aload_n hx hb d_Model_part_0 rfl (lv_at hl 0 rfl) ?_
  refine ps_get (v := .int (σ.1 11)) hx hb hT i_Model hown hK hP (k := 0) (by decide) pm_E_0 rfl 11 (by decide) (hT _ fl_Model_98) (fun _ h9 => h9) rfl d_Model_part_1 ?_
  refine ps_seti (y := nI k) hpk ?_
  refine lv_bipush (v := nI 6) hx hb d_Model_part_4 (by decide) ?_
  refine lv_icmp_ne (tgt := 11) hx hb d_Model_part_6 (by decide) (fun c_6 => ?_) (fun c_6 => ?_)
  · have hk6 : k < 6 := by have : ¬ k = 6 := fun q => c_6 (by rw [q]); omega
    refine lv_iconst (v := nI 0) hx hb d_Model_part_11 (by decide) ?_
    refine lv_istore_n (lv' := [(2, .int (nI 0)), (0, .ref (g 0)), (1, .int (nI Ln))]) hx hb d_Model_part_12 rfl hl (by decide) rfl (fun ls hl => ?_)
    refine lv_iload_n hx hb d_Model_part_13 rfl (lv_at hl 2 rfl) ?_
    refine lv_iconst (v := nI 1) hx hb d_Model_part_14 (by decide) ?_
    refine lv_isub hx hb d_Model_part_15 ?_
    refine lv_istore_n (lv' := [(3, .int ((nI Ln) - (nI 1))), (2, .int (nI 0)), (0, .ref (g 0)), (1, .int (nI Ln))]) hx hb d_Model_part_16 rfl hl (by decide) rfl (fun ls hl => ?_)
    refine lv_aload_n hx hb d_Model_part_17 rfl (lv_at hl 2 rfl) ?_
    refine lv_aload_n hx hb d_Model_part_18 rfl (lv_at hl 2 rfl) ?_
    refine ps_get (v := .int (σ.1 10)) hx hb hT i_Model hown hK hP (k := 0) (by decide) pm_E_0 rfl 10 (by decide) (hT _ fl_Model_89) (fun _ h9 => h9) rfl d_Model_part_19 ?_
    refine ps_seti (y := nI a) hat0 ?_
    refine ps_roi (k := 0) (As := [.int (nI a)]) (rest := []) ⟨hx, hb, hml, hown, hT⟩ (c_Model_see (σ := σ) n hn hn60 (a) (by omega)) (cwV 1 hT (ps_gV ml_Model_92 im_Model_see se_Model_see in_Model co_Model_see) rfl rfl rfl cd_Model_see ⟨Nat.le_of_ble_eq_true rfl, Nat.le_of_ble_eq_true rfl⟩) hK hP (by omega) pm_E_0 rfl rfl hl.1 rfl (Nat.le_of_ble_eq_true rfl) d_Model_part_22 ⟨Nat.zero_le _, Nat.zero_le _⟩ (fun rr hrr => ?_)
    subst hrr
    refine lv_bipush (v := nI 45) hx hb d_Model_part_25 (by decide) ?_
    refine lv_icmp_ne (tgt := 72) hx hb d_Model_part_27 (by decide) (fun c_27 => ?_) (fun c_27 => ?_)
    · have hdm : ¬ ps_sg (σ.2.1 1) n a = nI 45 := fun q => c_27 (pm_sz_m.mpr q)
      refine lv_aload_n hx hb d_Model_part_72 rfl (lv_at hl 2 rfl) ?_
      refine ps_wri (k := 0) (As := []) (rest := []) ⟨hx, hb, hml, hown, hT⟩ (c_Model_number (σ := σ) hg n hn hn60 (a) (by omega) hat0) (cwV 0 hT (ps_gV ml_Model_101 im_Model_number se_Model_number in_Model co_Model_number) rfl rfl rfl cd_Model_number ⟨Nat.le_of_ble_eq_true rfl, Nat.le_of_ble_eq_true rfl⟩) hK hP hS (fun _ h => h) (by omega) pm_E_0 rfl rfl hl.1 rfl (Nat.le_of_ble_eq_true rfl) d_Model_part_73 ⟨Nat.zero_le _, Nat.zero_le _⟩ (fun rr u3 H locs hu3 hP hS _ => ?_)
      obtain ⟨hrr, hs3, hat3⟩ := hu3
      subst hrr
      refine lv_istore_n (lv' := [(2, .int (pm_nb (σ.2.1 1) n a)), (3, .int ((nI Ln) - (nI 1))), (0, .ref (g 0)), (1, .int (nI Ln))]) hx hb d_Model_part_76 rfl hl (by decide) rfl (fun ls hl => ?_)
      refine lv_iload_n hx hb d_Model_part_77 rfl (lv_at hl 0 rfl) ?_
      refine lv_iconst (v := -1) hx hb d_Model_part_78 (by decide) ?_
      refine lv_icmp_eq (tgt := 95) hx hb d_Model_part_79 (by decide) (fun c_79 => ?_) (fun c_79 => ?_)
      · refine lv_iconst (v := nI 0) hx hb d_Model_part_95 (by decide) ?_
        rw [hQ]
        exact W.zret (v := nI 0) (ty := .boolean) hx hb hr (by decide +kernel) (fun zt ht _ => ⟨⟨_, u3, rfl, Or.inr ⟨Or.inr (pm_pb0 hdm c_79), rfl, (pm_sm_rf [10, 11] [6, 7] [] σ).to hs3 (by decide) (by decide) (by decide)⟩, ps_hp ht hP⟩, hS.F ht⟩) hS.2.2 d_Model_part_96
      · refine lv_aload_n hx hb d_Model_part_82 rfl (lv_at hl 2 rfl) ?_
        refine lv_aload_n hx hb d_Model_part_83 rfl (lv_at hl 2 rfl) ?_
        refine ps_get (v := .int (u3.1 10)) hx hb hT i_Model hown hK hP (k := 0) (by decide) pm_E_0 rfl 10 (by decide) (hT _ fl_Model_89) (fun _ h9 => h9) rfl d_Model_part_84 ?_
        refine ps_seti (y := nI (pm_end (σ.2.1 1) n a)) hat3 ?_
        refine ps_roi (k := 0) (As := [.int (nI (pm_end (σ.2.1 1) n a))]) (rest := []) ⟨hx, hb, hml, hown, hT⟩ (c_Model_see (σ := u3) n ((hs3.1 2 (by decide)).trans hn) hn60 (pm_end (σ.2.1 1) n a) (by omega)) (cwV 1 hT (ps_gV ml_Model_92 im_Model_see se_Model_see in_Model co_Model_see) rfl rfl rfl cd_Model_see ⟨Nat.le_of_ble_eq_true rfl, Nat.le_of_ble_eq_true rfl⟩) hK hP (by omega) pm_E_0 rfl rfl hl.1 rfl (Nat.le_of_ble_eq_true rfl) d_Model_part_87 ⟨Nat.zero_le _, Nat.zero_le _⟩ (fun rr hrr => ?_)
        subst hrr
        refine lv_bipush (v := nI 45) hx hb d_Model_part_90 (by decide) ?_
        refine lv_icmp_eq (tgt := 97) hx hb d_Model_part_92 (by decide) (fun c_92 => ?_) (fun c_92 => ?_)
        · have hdash : ps_sg (σ.2.1 1) n (pm_end (σ.2.1 1) n a) = nI 45 := by have q := pm_sz_m.mp c_92; rw [hs3.2.1 1 (by decide)] at q; exact q
          refine lv_aload_n hx hb d_Model_part_97 rfl (lv_at hl 2 rfl) ?_
          refine lv_dup hx hb d_Model_part_98 rfl ?_
          refine ps_get (v := .int (u3.1 10)) hx hb hT i_Model hown hK hP (k := 0) (by decide) pm_E_0 rfl 10 (by decide) (hT _ fl_Model_89) (fun _ h9 => h9) rfl d_Model_part_99 ?_
          refine ps_seti (y := nI (pm_end (σ.2.1 1) n a)) hat3 ?_
          refine lv_iconst (v := nI 1) hx hb d_Model_part_102 (by decide) ?_
          refine lv_iadd hx hb d_Model_part_103 ?_
          refine ps_seti (y := nI (pm_end (σ.2.1 1) n a + 1)) (nI_add _ _) ?_
          refine ps_put (v := .int (nI (pm_end (σ.2.1 1) n a + 1))) (ty := .int) hx hb hT i_Model t_Model t_Model_ok n_Model hown hK hg hP hS (k := 0) (by decide) pm_E_0 rfl 10 (by decide) (hT _ fl_Model_89) (fun _ h9 => h9) rfl (by decide +kernel) rfl rfl (Nat.le_of_ble_eq_true rfl) d_Model_part_104 (pm_E g cI cZ (pm_uI u3 10 (nI (pm_end (σ.2.1 1) n a + 1)))) (pm_h1 (by decide)) (fun _ _ h => pm_E_uI h) (fun H locs hP hS => ?_)
          refine lv_aload_n hx hb d_Model_part_107 rfl (lv_at hl 2 rfl) ?_
          refine lv_aload_n hx hb d_Model_part_108 rfl (lv_at hl 2 rfl) ?_
          refine ps_get (v := .int (nI (pm_end (σ.2.1 1) n a + 1))) hx hb hT i_Model hown hK hP (k := 0) (by decide) pm_E_0 rfl 10 (by decide) (hT _ fl_Model_89) (fun _ h9 => h9) rfl d_Model_part_109 ?_
          refine ps_roi (k := 0) (As := [.int (nI (pm_end (σ.2.1 1) n a + 1))]) (rest := []) ⟨hx, hb, hml, hown, hT⟩ (c_Model_see (σ := (pm_uI u3 10 (nI (pm_end (σ.2.1 1) n a + 1)))) n ((hs3.1 2 (by decide)).trans hn) hn60 (pm_end (σ.2.1 1) n a + 1) (by omega)) (cwV 1 hT (ps_gV ml_Model_92 im_Model_see se_Model_see in_Model co_Model_see) rfl rfl rfl cd_Model_see ⟨Nat.le_of_ble_eq_true rfl, Nat.le_of_ble_eq_true rfl⟩) hK hP (by omega) pm_E_0 rfl rfl hl.1 rfl (Nat.le_of_ble_eq_true rfl) d_Model_part_112 ⟨Nat.zero_le _, Nat.zero_le _⟩ (fun rr hrr => ?_)
          subst hrr
          refine ps_sti (As := [.int (ps_sz ((pm_uI u3 10 (nI (pm_end (σ.2.1 1) n a + 1))).2.1 1) n (pm_end (σ.2.1 1) n a + 1))]) (rest := []) ⟨hx, hb, hml, hown, hT⟩ (c_Model_isDigit (ps_sz ((pm_uI u3 10 (nI (pm_end (σ.2.1 1) n a + 1))).2.1 1) n (pm_end (σ.2.1 1) n a + 1))) (va_cwS 1 hT (ps_gS ml_Model_95 st_Model_isDigit in_Model co_Model_isDigit) rfl rfl rfl cs_Model_isDigit ⟨Nat.le_of_ble_eq_true rfl, Nat.le_of_ble_eq_true rfl⟩) rfl hl.1 rfl (Nat.le_of_ble_eq_true rfl) d_Model_part_115 ⟨Nat.zero_le _, Nat.zero_le _⟩ (fun rr hrr => ?_)
          subst hrr
          refine lv_if_eq (tgt := 154) hx hb d_Model_part_118 (by decide) (fun c_118 => ?_) (fun c_118 => ?_)
          · have hnd : ps_isd (ps_sg (σ.2.1 1) n (pm_end (σ.2.1 1) n a + 1)) = false := by have q := ps_bI_0.mp c_118; rw [pm_sz_isd, show (pm_uI u3 10 (nI (pm_end (σ.2.1 1) n a + 1))).2.1 1 = σ.2.1 1 from hs3.2.1 1 (by decide)] at q; exact q
            refine lv_aload_n hx hb d_Model_part_154 rfl (lv_at hl 2 rfl) ?_
            refine ps_get (v := .ref (g 6)) hx hb hT i_Model hown hK hP (k := 0) (by decide) pm_E_0 rfl 12 (by decide) (hT _ fl_Model_33) (fun _ h9 => h9) rfl d_Model_part_155 ?_
            refine lv_aload_n hx hb d_Model_part_158 rfl (lv_at hl 2 rfl) ?_
            refine ps_get (v := .int (u3.1 11)) hx hb hT i_Model hown hK hP (k := 0) (by decide) pm_E_0 rfl 11 (by decide) (hT _ fl_Model_98) (fun _ h9 => h9) rfl d_Model_part_159 ?_
            refine ps_seti (y := nI k) ((hs3.1 11 (by decide)).trans hpk) ?_
            refine lv_iload_n hx hb d_Model_part_162 rfl (lv_at hl 0 rfl) ?_
            refine ps_iast (f := u3.2.1 6) hx hb hK hg hP hS (k := 6) (by decide) 0 pm_E_6 rfl (i := k) (by omega) (by decide) d_Model_part_163 (pm_E g cI cZ (pm_uA (pm_uI u3 10 (nI (pm_end (σ.2.1 1) n a + 1))) 6 (va_up (u3.2.1 6) k (pm_nb (σ.2.1 1) n a)))) rfl (fun _ _ h => pm_E_uA h) (fun H locs hP hS => ?_)
            refine lv_aload_n hx hb d_Model_part_164 rfl (lv_at hl 2 rfl) ?_
            refine ps_get (v := .ref (g 7)) hx hb hT i_Model hown hK hP (k := 0) (by decide) pm_E_0 rfl 13 (by decide) (hT _ fl_Model_36) (fun _ h9 => h9) rfl d_Model_part_165 ?_
            refine lv_aload_n hx hb d_Model_part_168 rfl (lv_at hl 2 rfl) ?_
            refine ps_get (v := .int (u3.1 11)) hx hb hT i_Model hown hK hP (k := 0) (by decide) pm_E_0 rfl 11 (by decide) (hT _ fl_Model_98) (fun _ h9 => h9) rfl d_Model_part_169 ?_
            refine ps_seti (y := nI k) ((hs3.1 11 (by decide)).trans hpk) ?_
            refine lv_iload_n hx hb d_Model_part_172 rfl (lv_at hl 1 rfl) ?_
            refine ps_iast (f := u3.2.1 7) hx hb hK hg hP hS (k := 7) (by decide) 0 pm_E_7 rfl (i := k) (by omega) (by decide) d_Model_part_173 (pm_E g cI cZ (pm_uA (pm_uA (pm_uI u3 10 (nI (pm_end (σ.2.1 1) n a + 1))) 6 (va_up (u3.2.1 6) k (pm_nb (σ.2.1 1) n a))) 7 (va_up (u3.2.1 7) k ((nI Ln) - (nI 1))))) rfl (fun _ _ h => pm_E_uA h) (fun H locs hP hS => ?_)
            refine lv_aload_n hx hb d_Model_part_174 rfl (lv_at hl 2 rfl) ?_
            refine lv_dup hx hb d_Model_part_175 rfl ?_
            refine ps_get (v := .int (u3.1 11)) hx hb hT i_Model hown hK hP (k := 0) (by decide) pm_E_0 rfl 11 (by decide) (hT _ fl_Model_98) (fun _ h9 => h9) rfl d_Model_part_176 ?_
            refine ps_seti (y := nI k) ((hs3.1 11 (by decide)).trans hpk) ?_
            refine lv_iconst (v := nI 1) hx hb d_Model_part_179 (by decide) ?_
            refine lv_iadd hx hb d_Model_part_180 ?_
            refine ps_seti (y := nI (k + 1)) (nI_add _ _) ?_
            refine ps_put (v := .int (nI (k + 1))) (ty := .int) hx hb hT i_Model t_Model t_Model_ok n_Model hown hK hg hP hS (k := 0) (by decide) pm_E_0 rfl 11 (by decide) (hT _ fl_Model_98) (fun _ h9 => h9) rfl (by decide +kernel) rfl rfl (Nat.le_of_ble_eq_true rfl) d_Model_part_181 (pm_E g cI cZ (pm_uI (pm_uA (pm_uA (pm_uI u3 10 (nI (pm_end (σ.2.1 1) n a + 1))) 6 (va_up (u3.2.1 6) k (pm_nb (σ.2.1 1) n a))) 7 (va_up (u3.2.1 7) k ((nI Ln) - (nI 1)))) 11 (nI (k + 1)))) (pm_h1 (by decide)) (fun _ _ h => pm_E_uI h) (fun H locs hP hS => ?_)
            refine lv_iconst (v := nI 1) hx hb d_Model_part_184 (by decide) ?_
            rw [hQ]
            exact W.zret (v := nI 1) (ty := .boolean) hx hb hr (by decide +kernel) (fun zt ht _ => ⟨⟨_, (pm_uI (pm_uA (pm_uA (pm_uI u3 10 (nI (pm_end (σ.2.1 1) n a + 1))) 6 (va_up (u3.2.1 6) k (pm_nb (σ.2.1 1) n a))) 7 (va_up (u3.2.1 7) k ((nI Ln) - (nI 1)))) 11 (nI (k + 1))), rfl, Or.inl ⟨_, _, _, hk6, pm_pb2 c_79 hdash hnd, rfl, (((((pm_sm_rf [10, 11] [6, 7] [] σ).to hs3 (by decide) (by decide) (by decide)).I (by decide)).A (by decide)).A (by decide)).I (by decide), rfl, rfl, by show va_up (u3.2.1 6) k _ = _; rw [hs3.2.1 6 (by decide), ← pm_fpl c_79], by show va_up (u3.2.1 7) k _ = _; rw [hs3.2.1 7 (by decide), ← pm_lpa (hi := -1) (Or.inr rfl)]⟩, ps_hp ht hP⟩, hS.F ht⟩) hS.2.2 d_Model_part_185
          · have hnd : ps_isd (ps_sg (σ.2.1 1) n (pm_end (σ.2.1 1) n a + 1)) = true := by have q := ps_bI_n0.mp c_118; rw [pm_sz_isd, show (pm_uI u3 10 (nI (pm_end (σ.2.1 1) n a + 1))).2.1 1 = σ.2.1 1 from hs3.2.1 1 (by decide)] at q; exact q
            refine lv_aload_n hx hb d_Model_part_121 rfl (lv_at hl 2 rfl) ?_
            refine ps_wri (k := 0) (As := []) (rest := []) ⟨hx, hb, hml, hown, hT⟩ (c_Model_number (σ := (pm_uI u3 10 (nI (pm_end (σ.2.1 1) n a + 1)))) hg n ((hs3.1 2 (by decide)).trans hn) hn60 (pm_end (σ.2.1 1) n a + 1) (by omega) rfl) (cwV 0 hT (ps_gV ml_Model_101 im_Model_number se_Model_number in_Model co_Model_number) rfl rfl rfl cd_Model_number ⟨Nat.le_of_ble_eq_true rfl, Nat.le_of_ble_eq_true rfl⟩) hK hP hS (fun _ h => h) (by omega) pm_E_0 rfl rfl hl.1 rfl (Nat.le_of_ble_eq_true rfl) d_Model_part_122 ⟨Nat.zero_le _, Nat.zero_le _⟩ (fun rr u4 H locs hu4 hP hS _ => ?_)
            obtain ⟨hrr, hs4, hat4⟩ := hu4
            have hrr : rr = pm_nb (σ.2.1 1) n (pm_end (σ.2.1 1) n a + 1) := by rw [hrr]; show pm_nb (u3.2.1 1) n _ = _; rw [hs3.2.1 1 (by decide)]
            have hat4 : u4.1 10 = nI (pm_end (σ.2.1 1) n (pm_end (σ.2.1 1) n a + 1)) := by rw [hat4]; show nI (pm_end (u3.2.1 1) n _) = _; rw [hs3.2.1 1 (by decide)]
            subst hrr
            refine lv_istore (lv' := [(4, .int (pm_nb (σ.2.1 1) n (pm_end (σ.2.1 1) n a + 1))), (2, .int (pm_nb (σ.2.1 1) n a)), (3, .int ((nI Ln) - (nI 1))), (0, .ref (g 0)), (1, .int (nI Ln))]) hx hb d_Model_part_125 hl (by decide) rfl (fun ls hl => ?_)
            refine lv_iload hx hb d_Model_part_127 (lv_at hl 0 rfl) ?_
            refine lv_iconst (v := -1) hx hb d_Model_part_129 (by decide) ?_
            refine lv_icmp_eq (tgt := 139) hx hb d_Model_part_130 (by decide) (fun c_130 => ?_) (fun c_130 => ?_)
            · refine lv_iconst (v := nI 0) hx hb d_Model_part_139 (by decide) ?_
              rw [hQ]
              exact W.zret (v := nI 0) (ty := .boolean) hx hb hr (by decide +kernel) (fun zt ht _ => ⟨⟨_, u4, rfl, Or.inr ⟨Or.inr (pm_pb3 c_79 hnd c_130), rfl, (((pm_sm_rf [10, 11] [6, 7] [] σ).to hs3 (by decide) (by decide) (by decide)).I (by decide)).to hs4 (by decide) (by decide) (by decide)⟩, ps_hp ht hP⟩, hS.F ht⟩) hS.2.2 d_Model_part_140
            · refine lv_iload hx hb d_Model_part_133 (lv_at hl 0 rfl) ?_
              refine lv_iload_n hx hb d_Model_part_135 rfl (lv_at hl 1 rfl) ?_
              refine lv_icmp_ge (tgt := 141) hx hb d_Model_part_136 (by decide) (fun c_136 => ?_) (fun c_136 => ?_)
              · have hrp : pm_rp (σ.2.1 1) n a = some (pm_end (σ.2.1 1) n (pm_end (σ.2.1 1) n a + 1), pm_nb (σ.2.1 1) n a, pm_nb (σ.2.1 1) n (pm_end (σ.2.1 1) n a + 1)) := by rw [pm_pb4 c_79 hdash c_130, if_neg (fun q => q c_136)]
                refine lv_iload hx hb d_Model_part_141 (lv_at hl 0 rfl) ?_
                refine lv_iload_n hx hb d_Model_part_143 rfl (lv_at hl 2 rfl) ?_
                refine lv_icmp_ge (tgt := 152) hx hb d_Model_part_144 (by decide) (fun c_144 => ?_) (fun c_144 => ?_)
                · refine lv_iload_n hx hb d_Model_part_152 rfl (lv_at hl 2 rfl) ?_
                  refine lv_istore_n (lv' := [(3, .int ((nI Ln) - (nI 1))), (4, .int (pm_nb (σ.2.1 1) n (pm_end (σ.2.1 1) n a + 1))), (2, .int (pm_nb (σ.2.1 1) n a)), (0, .ref (g 0)), (1, .int (nI Ln))]) hx hb d_Model_part_153 rfl hl (by decide) rfl (fun ls hl => ?_)
                  refine lv_aload_n hx hb d_Model_part_154 rfl (lv_at hl 3 rfl) ?_
                  refine ps_get (v := .ref (g 6)) hx hb hT i_Model hown hK hP (k := 0) (by decide) pm_E_0 rfl 12 (by decide) (hT _ fl_Model_33) (fun _ h9 => h9) rfl d_Model_part_155 ?_
                  refine lv_aload_n hx hb d_Model_part_158 rfl (lv_at hl 3 rfl) ?_
                  refine ps_get (v := .int (u4.1 11)) hx hb hT i_Model hown hK hP (k := 0) (by decide) pm_E_0 rfl 11 (by decide) (hT _ fl_Model_98) (fun _ h9 => h9) rfl d_Model_part_159 ?_
                  refine ps_seti (y := nI k) (((hs4.1 11 (by decide)).trans (hs3.1 11 (by decide))).trans hpk) ?_
                  refine lv_iload_n hx hb d_Model_part_162 rfl (lv_at hl 2 rfl) ?_
                  refine ps_iast (f := u4.2.1 6) hx hb hK hg hP hS (k := 6) (by decide) 0 pm_E_6 rfl (i := k) (by omega) (by decide) d_Model_part_163 (pm_E g cI cZ (pm_uA u4 6 (va_up (u4.2.1 6) k (pm_nb (σ.2.1 1) n a)))) rfl (fun _ _ h => pm_E_uA h) (fun H locs hP hS => ?_)
                  refine lv_aload_n hx hb d_Model_part_164 rfl (lv_at hl 3 rfl) ?_
                  refine ps_get (v := .ref (g 7)) hx hb hT i_Model hown hK hP (k := 0) (by decide) pm_E_0 rfl 13 (by decide) (hT _ fl_Model_36) (fun _ h9 => h9) rfl d_Model_part_165 ?_
                  refine lv_aload_n hx hb d_Model_part_168 rfl (lv_at hl 3 rfl) ?_
                  refine ps_get (v := .int (u4.1 11)) hx hb hT i_Model hown hK hP (k := 0) (by decide) pm_E_0 rfl 11 (by decide) (hT _ fl_Model_98) (fun _ h9 => h9) rfl d_Model_part_169 ?_
                  refine ps_seti (y := nI k) (((hs4.1 11 (by decide)).trans (hs3.1 11 (by decide))).trans hpk) ?_
                  refine lv_iload_n hx hb d_Model_part_172 rfl (lv_at hl 0 rfl) ?_
                  refine ps_iast (f := u4.2.1 7) hx hb hK hg hP hS (k := 7) (by decide) 0 pm_E_7 rfl (i := k) (by omega) (by decide) d_Model_part_173 (pm_E g cI cZ (pm_uA (pm_uA u4 6 (va_up (u4.2.1 6) k (pm_nb (σ.2.1 1) n a))) 7 (va_up (u4.2.1 7) k ((nI Ln) - (nI 1))))) rfl (fun _ _ h => pm_E_uA h) (fun H locs hP hS => ?_)
                  refine lv_aload_n hx hb d_Model_part_174 rfl (lv_at hl 3 rfl) ?_
                  refine lv_dup hx hb d_Model_part_175 rfl ?_
                  refine ps_get (v := .int (u4.1 11)) hx hb hT i_Model hown hK hP (k := 0) (by decide) pm_E_0 rfl 11 (by decide) (hT _ fl_Model_98) (fun _ h9 => h9) rfl d_Model_part_176 ?_
                  refine ps_seti (y := nI k) (((hs4.1 11 (by decide)).trans (hs3.1 11 (by decide))).trans hpk) ?_
                  refine lv_iconst (v := nI 1) hx hb d_Model_part_179 (by decide) ?_
                  refine lv_iadd hx hb d_Model_part_180 ?_
                  refine ps_seti (y := nI (k + 1)) (nI_add _ _) ?_
                  refine ps_put (v := .int (nI (k + 1))) (ty := .int) hx hb hT i_Model t_Model t_Model_ok n_Model hown hK hg hP hS (k := 0) (by decide) pm_E_0 rfl 11 (by decide) (hT _ fl_Model_98) (fun _ h9 => h9) rfl (by decide +kernel) rfl rfl (Nat.le_of_ble_eq_true rfl) d_Model_part_181 (pm_E g cI cZ (pm_uI (pm_uA (pm_uA u4 6 (va_up (u4.2.1 6) k (pm_nb (σ.2.1 1) n a))) 7 (va_up (u4.2.1 7) k ((nI Ln) - (nI 1)))) 11 (nI (k + 1)))) (pm_h1 (by decide)) (fun _ _ h => pm_E_uI h) (fun H locs hP hS => ?_)
                  refine lv_iconst (v := nI 1) hx hb d_Model_part_184 (by decide) ?_
                  rw [hQ]
                  exact W.zret (v := nI 1) (ty := .boolean) hx hb hr (by decide +kernel) (fun zt ht _ => ⟨⟨_, (pm_uI (pm_uA (pm_uA u4 6 (va_up (u4.2.1 6) k (pm_nb (σ.2.1 1) n a))) 7 (va_up (u4.2.1 7) k ((nI Ln) - (nI 1)))) 11 (nI (k + 1))), rfl, Or.inl ⟨_, _, _, hk6, hrp, rfl, ((((((pm_sm_rf [10, 11] [6, 7] [] σ).to hs3 (by decide) (by decide) (by decide)).I (by decide)).to hs4 (by decide) (by decide) (by decide)).A (by decide)).A (by decide)).I (by decide), hat4, rfl, by show va_up (u4.2.1 6) k _ = _; rw [hs4.2.1 6 (by decide), ← pm_fpl c_79]; show va_up (u3.2.1 6) k _ = _; rw [hs3.2.1 6 (by decide)], by show va_up (u4.2.1 7) k _ = _; rw [hs4.2.1 7 (by decide), ← pm_lpb c_79 c_130 c_144]; show va_up (u3.2.1 7) k _ = _; rw [hs3.2.1 7 (by decide)]⟩, ps_hp ht hP⟩, hS.F ht⟩) hS.2.2 d_Model_part_185
                · refine lv_iload hx hb d_Model_part_147 (lv_at hl 0 rfl) ?_
                  refine lv_goto (tgt := 153) hx hb d_Model_part_149 (by decide) ?_
                  refine lv_istore_n (lv' := [(3, .int (pm_nb (σ.2.1 1) n (pm_end (σ.2.1 1) n a + 1))), (4, .int (pm_nb (σ.2.1 1) n (pm_end (σ.2.1 1) n a + 1))), (2, .int (pm_nb (σ.2.1 1) n a)), (0, .ref (g 0)), (1, .int (nI Ln))]) hx hb d_Model_part_153 rfl hl (by decide) rfl (fun ls hl => ?_)
                  refine lv_aload_n hx hb d_Model_part_154 rfl (lv_at hl 3 rfl) ?_
                  refine ps_get (v := .ref (g 6)) hx hb hT i_Model hown hK hP (k := 0) (by decide) pm_E_0 rfl 12 (by decide) (hT _ fl_Model_33) (fun _ h9 => h9) rfl d_Model_part_155 ?_
                  refine lv_aload_n hx hb d_Model_part_158 rfl (lv_at hl 3 rfl) ?_
                  refine ps_get (v := .int (u4.1 11)) hx hb hT i_Model hown hK hP (k := 0) (by decide) pm_E_0 rfl 11 (by decide) (hT _ fl_Model_98) (fun _ h9 => h9) rfl d_Model_part_159 ?_
                  refine ps_seti (y := nI k) (((hs4.1 11 (by decide)).trans (hs3.1 11 (by decide))).trans hpk) ?_
                  refine lv_iload_n hx hb d_Model_part_162 rfl (lv_at hl 2 rfl) ?_
                  refine ps_iast (f := u4.2.1 6) hx hb hK hg hP hS (k := 6) (by decide) 0 pm_E_6 rfl (i := k) (by omega) (by decide) d_Model_part_163 (pm_E g cI cZ (pm_uA u4 6 (va_up (u4.2.1 6) k (pm_nb (σ.2.1 1) n a)))) rfl (fun _ _ h => pm_E_uA h) (fun H locs hP hS => ?_)
                  refine lv_aload_n hx hb d_Model_part_164 rfl (lv_at hl 3 rfl) ?_
                  refine ps_get (v := .ref (g 7)) hx hb hT i_Model hown hK hP (k := 0) (by decide) pm_E_0 rfl 13 (by decide) (hT _ fl_Model_36) (fun _ h9 => h9) rfl d_Model_part_165 ?_
                  refine lv_aload_n hx hb d_Model_part_168 rfl (lv_at hl 3 rfl) ?_
                  refine ps_get (v := .int (u4.1 11)) hx hb hT i_Model hown hK hP (k := 0) (by decide) pm_E_0 rfl 11 (by decide) (hT _ fl_Model_98) (fun _ h9 => h9) rfl d_Model_part_169 ?_
                  refine ps_seti (y := nI k) (((hs4.1 11 (by decide)).trans (hs3.1 11 (by decide))).trans hpk) ?_
                  refine lv_iload_n hx hb d_Model_part_172 rfl (lv_at hl 0 rfl) ?_
                  refine ps_iast (f := u4.2.1 7) hx hb hK hg hP hS (k := 7) (by decide) 0 pm_E_7 rfl (i := k) (by omega) (by decide) d_Model_part_173 (pm_E g cI cZ (pm_uA (pm_uA u4 6 (va_up (u4.2.1 6) k (pm_nb (σ.2.1 1) n a))) 7 (va_up (u4.2.1 7) k (pm_nb (σ.2.1 1) n (pm_end (σ.2.1 1) n a + 1))))) rfl (fun _ _ h => pm_E_uA h) (fun H locs hP hS => ?_)
                  refine lv_aload_n hx hb d_Model_part_174 rfl (lv_at hl 3 rfl) ?_
                  refine lv_dup hx hb d_Model_part_175 rfl ?_
                  refine ps_get (v := .int (u4.1 11)) hx hb hT i_Model hown hK hP (k := 0) (by decide) pm_E_0 rfl 11 (by decide) (hT _ fl_Model_98) (fun _ h9 => h9) rfl d_Model_part_176 ?_
                  refine ps_seti (y := nI k) (((hs4.1 11 (by decide)).trans (hs3.1 11 (by decide))).trans hpk) ?_
                  refine lv_iconst (v := nI 1) hx hb d_Model_part_179 (by decide) ?_
                  refine lv_iadd hx hb d_Model_part_180 ?_
                  refine ps_seti (y := nI (k + 1)) (nI_add _ _) ?_
                  refine ps_put (v := .int (nI (k + 1))) (ty := .int) hx hb hT i_Model t_Model t_Model_ok n_Model hown hK hg hP hS (k := 0) (by decide) pm_E_0 rfl 11 (by decide) (hT _ fl_Model_98) (fun _ h9 => h9) rfl (by decide +kernel) rfl rfl (Nat.le_of_ble_eq_true rfl) d_Model_part_181 (pm_E g cI cZ (pm_uI (pm_uA (pm_uA u4 6 (va_up (u4.2.1 6) k (pm_nb (σ.2.1 1) n a))) 7 (va_up (u4.2.1 7) k (pm_nb (σ.2.1 1) n (pm_end (σ.2.1 1) n a + 1)))) 11 (nI (k + 1)))) (pm_h1 (by decide)) (fun _ _ h => pm_E_uI h) (fun H locs hP hS => ?_)
                  refine lv_iconst (v := nI 1) hx hb d_Model_part_184 (by decide) ?_
                  rw [hQ]
                  exact W.zret (v := nI 1) (ty := .boolean) hx hb hr (by decide +kernel) (fun zt ht _ => ⟨⟨_, (pm_uI (pm_uA (pm_uA u4 6 (va_up (u4.2.1 6) k (pm_nb (σ.2.1 1) n a))) 7 (va_up (u4.2.1 7) k (pm_nb (σ.2.1 1) n (pm_end (σ.2.1 1) n a + 1)))) 11 (nI (k + 1))), rfl, Or.inl ⟨_, _, _, hk6, hrp, rfl, ((((((pm_sm_rf [10, 11] [6, 7] [] σ).to hs3 (by decide) (by decide) (by decide)).I (by decide)).to hs4 (by decide) (by decide) (by decide)).A (by decide)).A (by decide)).I (by decide), hat4, rfl, by show va_up (u4.2.1 6) k _ = _; rw [hs4.2.1 6 (by decide), ← pm_fpl c_79]; show va_up (u3.2.1 6) k _ = _; rw [hs3.2.1 6 (by decide)], by show va_up (u4.2.1 7) k _ = _; rw [hs4.2.1 7 (by decide), ← pm_lpc c_79 c_130 c_144]; show va_up (u3.2.1 7) k _ = _; rw [hs3.2.1 7 (by decide)]⟩, ps_hp ht hP⟩, hS.F ht⟩) hS.2.2 d_Model_part_185
              · refine lv_iconst (v := nI 0) hx hb d_Model_part_139 (by decide) ?_
                rw [hQ]
                exact W.zret (v := nI 0) (ty := .boolean) hx hb hr (by decide +kernel) (fun zt ht _ => ⟨⟨_, u4, rfl, Or.inr ⟨Or.inr (by rw [pm_pb4 c_79 hdash c_130, if_pos c_136]), rfl, (((pm_sm_rf [10, 11] [6, 7] [] σ).to hs3 (by decide) (by decide) (by decide)).I (by decide)).to hs4 (by decide) (by decide) (by decide)⟩, ps_hp ht hP⟩, hS.F ht⟩) hS.2.2 d_Model_part_140
        · have hdash : ¬ ps_sg (σ.2.1 1) n (pm_end (σ.2.1 1) n a) = nI 45 := fun q => c_92 (pm_sz_m.mpr (by rw [hs3.2.1 1 (by decide)]; exact q))
          refine lv_iconst (v := nI 0) hx hb d_Model_part_95 (by decide) ?_
          rw [hQ]
          exact W.zret (v := nI 0) (ty := .boolean) hx hb hr (by decide +kernel) (fun zt ht _ => ⟨⟨_, u3, rfl, Or.inr ⟨Or.inr (pm_pb1 hdash), rfl, (pm_sm_rf [10, 11] [6, 7] [] σ).to hs3 (by decide) (by decide) (by decide)⟩, ps_hp ht hP⟩, hS.F ht⟩) hS.2.2 d_Model_part_96
    · refine lv_aload_n hx hb d_Model_part_30 rfl (lv_at hl 2 rfl) ?_
      refine lv_dup hx hb d_Model_part_31 rfl ?_
      refine ps_get (v := .int (σ.1 10)) hx hb hT i_Model hown hK hP (k := 0) (by decide) pm_E_0 rfl 10 (by decide) (hT _ fl_Model_89) (fun _ h9 => h9) rfl d_Model_part_32 ?_
      refine ps_seti (y := nI a) hat0 ?_
      refine lv_iconst (v := nI 1) hx hb d_Model_part_35 (by decide) ?_
      refine lv_iadd hx hb d_Model_part_36 ?_
      refine ps_seti (y := nI (a + 1)) (nI_add _ _) ?_
      refine ps_put (v := .int (nI (a + 1))) (ty := .int) hx hb hT i_Model t_Model t_Model_ok n_Model hown hK hg hP hS (k := 0) (by decide) pm_E_0 rfl 10 (by decide) (hT _ fl_Model_89) (fun _ h9 => h9) rfl (by decide +kernel) rfl rfl (Nat.le_of_ble_eq_true rfl) d_Model_part_37 (pm_E g cI cZ (pm_uI σ 10 (nI (a + 1)))) (pm_h1 (by decide)) (fun _ _ h => pm_E_uI h) (fun H locs hP hS => ?_)
      refine lv_aload_n hx hb d_Model_part_40 rfl (lv_at hl 2 rfl) ?_
      refine ps_wri (k := 0) (As := []) (rest := []) ⟨hx, hb, hml, hown, hT⟩ (c_Model_number (σ := (pm_uI σ 10 (nI (a + 1)))) hg n hn hn60 (a + 1) (by omega) rfl) (cwV 0 hT (ps_gV ml_Model_101 im_Model_number se_Model_number in_Model co_Model_number) rfl rfl rfl cd_Model_number ⟨Nat.le_of_ble_eq_true rfl, Nat.le_of_ble_eq_true rfl⟩) hK hP hS (fun _ h => h) (by omega) pm_E_0 rfl rfl hl.1 rfl (Nat.le_of_ble_eq_true rfl) d_Model_part_41 ⟨Nat.zero_le _, Nat.zero_le _⟩ (fun rr u3 H locs hu3 hP hS _ => ?_)
      obtain ⟨hrr, hs3, hat3⟩ := hu3
      subst hrr
      refine lv_istore (lv' := [(4, .int (pm_nb (σ.2.1 1) n (a + 1))), (3, .int ((nI Ln) - (nI 1))), (2, .int (nI 0)), (0, .ref (g 0)), (1, .int (nI Ln))]) hx hb d_Model_part_44 hl (by decide) rfl (fun ls hl => ?_)
      refine lv_iload hx hb d_Model_part_46 (lv_at hl 0 rfl) ?_
      refine lv_iconst (v := -1) hx hb d_Model_part_48 (by decide) ?_
      refine lv_icmp_ne (tgt := 54) hx hb d_Model_part_49 (by decide) (fun c_49 => ?_) (fun c_49 => ?_)
      · refine lv_iload hx hb d_Model_part_54 (lv_at hl 0 rfl) ?_
        refine lv_iload_n hx hb d_Model_part_56 rfl (lv_at hl 4 rfl) ?_
        refine lv_icmp_ge (tgt := 67) hx hb d_Model_part_57 (by decide) (fun c_57 => ?_) (fun c_57 => ?_)
        · obtain ⟨z, hz, ez⟩ := (pm_nb_nat (σ.2.1 1) n (a + 1)).resolve_left c_49
          refine lv_iconst (v := nI 0) hx hb d_Model_part_67 (by decide) ?_
          refine lv_istore_n (lv' := [(2, .int (nI 0)), (4, .int (pm_nb (σ.2.1 1) n (a + 1))), (3, .int ((nI Ln) - (nI 1))), (0, .ref (g 0)), (1, .int (nI Ln))]) hx hb d_Model_part_68 rfl hl (by decide) rfl (fun ls hl => ?_)
          refine lv_goto (tgt := 154) hx hb d_Model_part_69 (by decide) ?_
          refine lv_aload_n hx hb d_Model_part_154 rfl (lv_at hl 3 rfl) ?_
          refine ps_get (v := .ref (g 6)) hx hb hT i_Model hown hK hP (k := 0) (by decide) pm_E_0 rfl 12 (by decide) (hT _ fl_Model_33) (fun _ h9 => h9) rfl d_Model_part_155 ?_
          refine lv_aload_n hx hb d_Model_part_158 rfl (lv_at hl 3 rfl) ?_
          refine ps_get (v := .int (u3.1 11)) hx hb hT i_Model hown hK hP (k := 0) (by decide) pm_E_0 rfl 11 (by decide) (hT _ fl_Model_98) (fun _ h9 => h9) rfl d_Model_part_159 ?_
          refine ps_seti (y := nI k) ((hs3.1 11 (by decide)).trans hpk) ?_
          refine lv_iload_n hx hb d_Model_part_162 rfl (lv_at hl 0 rfl) ?_
          refine ps_iast (f := u3.2.1 6) hx hb hK hg hP hS (k := 6) (by decide) 0 pm_E_6 rfl (i := k) (by omega) (by decide) d_Model_part_163 (pm_E g cI cZ (pm_uA u3 6 (va_up (u3.2.1 6) k (nI 0)))) rfl (fun _ _ h => pm_E_uA h) (fun H locs hP hS => ?_)
          refine lv_aload_n hx hb d_Model_part_164 rfl (lv_at hl 3 rfl) ?_
          refine ps_get (v := .ref (g 7)) hx hb hT i_Model hown hK hP (k := 0) (by decide) pm_E_0 rfl 13 (by decide) (hT _ fl_Model_36) (fun _ h9 => h9) rfl d_Model_part_165 ?_
          refine lv_aload_n hx hb d_Model_part_168 rfl (lv_at hl 3 rfl) ?_
          refine ps_get (v := .int (u3.1 11)) hx hb hT i_Model hown hK hP (k := 0) (by decide) pm_E_0 rfl 11 (by decide) (hT _ fl_Model_98) (fun _ h9 => h9) rfl d_Model_part_169 ?_
          refine ps_seti (y := nI k) ((hs3.1 11 (by decide)).trans hpk) ?_
          refine lv_iload_n hx hb d_Model_part_172 rfl (lv_at hl 2 rfl) ?_
          refine ps_iast (f := u3.2.1 7) hx hb hK hg hP hS (k := 7) (by decide) 0 pm_E_7 rfl (i := k) (by omega) (by decide) d_Model_part_173 (pm_E g cI cZ (pm_uA (pm_uA u3 6 (va_up (u3.2.1 6) k (nI 0))) 7 (va_up (u3.2.1 7) k ((nI Ln) - (nI 1))))) rfl (fun _ _ h => pm_E_uA h) (fun H locs hP hS => ?_)
          refine lv_aload_n hx hb d_Model_part_174 rfl (lv_at hl 3 rfl) ?_
          refine lv_dup hx hb d_Model_part_175 rfl ?_
          refine ps_get (v := .int (u3.1 11)) hx hb hT i_Model hown hK hP (k := 0) (by decide) pm_E_0 rfl 11 (by decide) (hT _ fl_Model_98) (fun _ h9 => h9) rfl d_Model_part_176 ?_
          refine ps_seti (y := nI k) ((hs3.1 11 (by decide)).trans hpk) ?_
          refine lv_iconst (v := nI 1) hx hb d_Model_part_179 (by decide) ?_
          refine lv_iadd hx hb d_Model_part_180 ?_
          refine ps_seti (y := nI (k + 1)) (nI_add _ _) ?_
          refine ps_put (v := .int (nI (k + 1))) (ty := .int) hx hb hT i_Model t_Model t_Model_ok n_Model hown hK hg hP hS (k := 0) (by decide) pm_E_0 rfl 11 (by decide) (hT _ fl_Model_98) (fun _ h9 => h9) rfl (by decide +kernel) rfl rfl (Nat.le_of_ble_eq_true rfl) d_Model_part_181 (pm_E g cI cZ (pm_uI (pm_uA (pm_uA u3 6 (va_up (u3.2.1 6) k (nI 0))) 7 (va_up (u3.2.1 7) k ((nI Ln) - (nI 1)))) 11 (nI (k + 1)))) (pm_h1 (by decide)) (fun _ _ h => pm_E_uI h) (fun H locs hP hS => ?_)
          refine lv_iconst (v := nI 1) hx hb d_Model_part_184 (by decide) ?_
          rw [hQ]
          exact W.zret (v := nI 1) (ty := .boolean) hx hb hr (by decide +kernel) (fun zt ht _ => ⟨⟨_, (pm_uI (pm_uA (pm_uA u3 6 (va_up (u3.2.1 6) k (nI 0))) 7 (va_up (u3.2.1 7) k ((nI Ln) - (nI 1)))) 11 (nI (k + 1))), rfl, Or.inl ⟨_, _, _, hk6, pm_pa1 (pm_sz_m.mp c_27) c_49, rfl, (((((pm_sm_rf [10, 11] [6, 7] [] σ).I (by decide)).to hs3 (by decide) (by decide) (by decide)).A (by decide)).A (by decide)).I (by decide), hat3, rfl, by show va_up (u3.2.1 6) k _ = _; rw [hs3.2.1 6 (by decide), ez, ← pm_fpb hLn4 hz (by rw [← ez]; exact c_57)]; rfl, by show va_up (u3.2.1 7) k _ = _; rw [hs3.2.1 7 (by decide), ← pm_lpa (lo := -1) (Or.inl rfl)]; rfl⟩, ps_hp ht hP⟩, hS.F ht⟩) hS.2.2 d_Model_part_185
        · obtain ⟨z, hz, ez⟩ := (pm_nb_nat (σ.2.1 1) n (a + 1)).resolve_left c_49
          refine lv_iload_n hx hb d_Model_part_60 rfl (lv_at hl 4 rfl) ?_
          refine lv_iload hx hb d_Model_part_61 (lv_at hl 0 rfl) ?_
          refine lv_isub hx hb d_Model_part_63 ?_
          refine lv_goto (tgt := 68) hx hb d_Model_part_64 (by decide) ?_
          refine lv_istore_n (lv' := [(2, .int ((nI Ln) - (pm_nb (σ.2.1 1) n (a + 1)))), (4, .int (pm_nb (σ.2.1 1) n (a + 1))), (3, .int ((nI Ln) - (nI 1))), (0, .ref (g 0)), (1, .int (nI Ln))]) hx hb d_Model_part_68 rfl hl (by decide) rfl (fun ls hl => ?_)
          refine lv_goto (tgt := 154) hx hb d_Model_part_69 (by decide) ?_
          refine lv_aload_n hx hb d_Model_part_154 rfl (lv_at hl 3 rfl) ?_
          refine ps_get (v := .ref (g 6)) hx hb hT i_Model hown hK hP (k := 0) (by decide) pm_E_0 rfl 12 (by decide) (hT _ fl_Model_33) (fun _ h9 => h9) rfl d_Model_part_155 ?_
          refine lv_aload_n hx hb d_Model_part_158 rfl (lv_at hl 3 rfl) ?_
          refine ps_get (v := .int (u3.1 11)) hx hb hT i_Model hown hK hP (k := 0) (by decide) pm_E_0 rfl 11 (by decide) (hT _ fl_Model_98) (fun _ h9 => h9) rfl d_Model_part_159 ?_
          refine ps_seti (y := nI k) ((hs3.1 11 (by decide)).trans hpk) ?_
          refine lv_iload_n hx hb d_Model_part_162 rfl (lv_at hl 0 rfl) ?_
          refine ps_iast (f := u3.2.1 6) hx hb hK hg hP hS (k := 6) (by decide) 0 pm_E_6 rfl (i := k) (by omega) (by decide) d_Model_part_163 (pm_E g cI cZ (pm_uA u3 6 (va_up (u3.2.1 6) k ((nI Ln) - (pm_nb (σ.2.1 1) n (a + 1)))))) rfl (fun _ _ h => pm_E_uA h) (fun H locs hP hS => ?_)
          refine lv_aload_n hx hb d_Model_part_164 rfl (lv_at hl 3 rfl) ?_
          refine ps_get (v := .ref (g 7)) hx hb hT i_Model hown hK hP (k := 0) (by decide) pm_E_0 rfl 13 (by decide) (hT _ fl_Model_36) (fun _ h9 => h9) rfl d_Model_part_165 ?_
          refine lv_aload_n hx hb d_Model_part_168 rfl (lv_at hl 3 rfl) ?_
          refine ps_get (v := .int (u3.1 11)) hx hb hT i_Model hown hK hP (k := 0) (by decide) pm_E_0 rfl 11 (by decide) (hT _ fl_Model_98) (fun _ h9 => h9) rfl d_Model_part_169 ?_
          refine ps_seti (y := nI k) ((hs3.1 11 (by decide)).trans hpk) ?_
          refine lv_iload_n hx hb d_Model_part_172 rfl (lv_at hl 2 rfl) ?_
          refine ps_iast (f := u3.2.1 7) hx hb hK hg hP hS (k := 7) (by decide) 0 pm_E_7 rfl (i := k) (by omega) (by decide) d_Model_part_173 (pm_E g cI cZ (pm_uA (pm_uA u3 6 (va_up (u3.2.1 6) k ((nI Ln) - (pm_nb (σ.2.1 1) n (a + 1))))) 7 (va_up (u3.2.1 7) k ((nI Ln) - (nI 1))))) rfl (fun _ _ h => pm_E_uA h) (fun H locs hP hS => ?_)
          refine lv_aload_n hx hb d_Model_part_174 rfl (lv_at hl 3 rfl) ?_
          refine lv_dup hx hb d_Model_part_175 rfl ?_
          refine ps_get (v := .int (u3.1 11)) hx hb hT i_Model hown hK hP (k := 0) (by decide) pm_E_0 rfl 11 (by decide) (hT _ fl_Model_98) (fun _ h9 => h9) rfl d_Model_part_176 ?_
          refine ps_seti (y := nI k) ((hs3.1 11 (by decide)).trans hpk) ?_
          refine lv_iconst (v := nI 1) hx hb d_Model_part_179 (by decide) ?_
          refine lv_iadd hx hb d_Model_part_180 ?_
          refine ps_seti (y := nI (k + 1)) (nI_add _ _) ?_
          refine ps_put (v := .int (nI (k + 1))) (ty := .int) hx hb hT i_Model t_Model t_Model_ok n_Model hown hK hg hP hS (k := 0) (by decide) pm_E_0 rfl 11 (by decide) (hT _ fl_Model_98) (fun _ h9 => h9) rfl (by decide +kernel) rfl rfl (Nat.le_of_ble_eq_true rfl) d_Model_part_181 (pm_E g cI cZ (pm_uI (pm_uA (pm_uA u3 6 (va_up (u3.2.1 6) k ((nI Ln) - (pm_nb (σ.2.1 1) n (a + 1))))) 7 (va_up (u3.2.1 7) k ((nI Ln) - (nI 1)))) 11 (nI (k + 1)))) (pm_h1 (by decide)) (fun _ _ h => pm_E_uI h) (fun H locs hP hS => ?_)
          refine lv_iconst (v := nI 1) hx hb d_Model_part_184 (by decide) ?_
          rw [hQ]
          exact W.zret (v := nI 1) (ty := .boolean) hx hb hr (by decide +kernel) (fun zt ht _ => ⟨⟨_, (pm_uI (pm_uA (pm_uA u3 6 (va_up (u3.2.1 6) k ((nI Ln) - (pm_nb (σ.2.1 1) n (a + 1))))) 7 (va_up (u3.2.1 7) k ((nI Ln) - (nI 1)))) 11 (nI (k + 1))), rfl, Or.inl ⟨_, _, _, hk6, pm_pa1 (pm_sz_m.mp c_27) c_49, rfl, (((((pm_sm_rf [10, 11] [6, 7] [] σ).I (by decide)).to hs3 (by decide) (by decide) (by decide)).A (by decide)).A (by decide)).I (by decide), hat3, rfl, by show va_up (u3.2.1 6) k _ = _; rw [hs3.2.1 6 (by decide), ez, ← pm_fpa hLn4 hz (by rw [← ez]; exact c_57)]; rfl, by show va_up (u3.2.1 7) k _ = _; rw [hs3.2.1 7 (by decide), ← pm_lpa (lo := -1) (Or.inl rfl)]; rfl⟩, ps_hp ht hP⟩, hS.F ht⟩) hS.2.2 d_Model_part_185
      · refine lv_iconst (v := nI 0) hx hb d_Model_part_52 (by decide) ?_
        rw [hQ]
        exact W.zret (v := nI 0) (ty := .boolean) hx hb hr (by decide +kernel) (fun zt ht _ => ⟨⟨_, u3, rfl, Or.inr ⟨Or.inr (pm_pa0 (pm_sz_m.mp c_27) c_49), rfl, ((pm_sm_rf [10, 11] [6, 7] [] σ).I (by decide)).to hs3 (by decide) (by decide) (by decide)⟩, ps_hp ht hP⟩, hS.F ht⟩) hS.2.2 d_Model_part_53
  · have hk6 : k = 6 := (nI_eq (by omega) (by decide)).mp c_6
    refine lv_iconst (v := nI 0) hx hb d_Model_part_9 (by decide) ?_
    rw [hQ]
    exact W.zret (v := nI 0) (ty := .boolean) hx hb hr (by decide +kernel) (fun zt ht _ => ⟨⟨_, σ, rfl, Or.inr ⟨Or.inl hk6, rfl, pm_sm_rf _ _ _ _⟩, ps_hp ht hP⟩, hS.F ht⟩) hS.2.2 d_Model_part_10
