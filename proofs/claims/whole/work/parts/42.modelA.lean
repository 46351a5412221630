theorem fl_Model_57 : (.fieldLink R_Model 57 R_Model "thrown" "I" : Cond) ∈ ps_tb := ps_in 519 (by decide +kernel) rfl
theorem ml_Model_60 : (.methodLink R_Model 60 y_Model_isThing : Cond) ∈ ps_tb := ps_in 612 (by decide +kernel) rfl
theorem co_Model_isThing : (.code y_Model_isThing b_Model_isThing 1 (some .boolean) : Cond) ∈ ps_tb := ps_in 614 (by decide +kernel) rfl
theorem in_Model : (.initialized R_Model : Cond) ∈ ps_tb := ps_in 6 (by decide +kernel) rfl
theorem st_Model_isThing : (.static y_Model_isThing : Cond) ∈ ps_tb := ps_in 613 (by decide +kernel) rfl
theorem fl_Model_20 : (.fieldLink R_Model 20 R_Model "lengths" "[I" : Cond) ∈ ps_tb := ps_in 524 (by decide +kernel) rfl
theorem fl_Model_26 : (.fieldLink R_Model 26 R_Model "holds" "[Z" : Cond) ∈ ps_tb := ps_in 526 (by decide +kernel) rfl
theorem ml_Model_69 : (.methodLink R_Model 69 y_Model_empty : Cond) ∈ ps_tb := ps_in 615 (by decide +kernel) rfl
theorem co_Model_empty : (.code y_Model_empty b_Model_empty 3 none : Cond) ∈ ps_tb := ps_in 618 (by decide +kernel) rfl
theorem im_Model_empty : (.instanceMethod y_Model_empty : Cond) ∈ ps_tb := ps_in 617 (by decide +kernel) rfl
theorem se_Model_empty : (.selects R_Model y_Model_empty y_Model_empty : Cond) ∈ ps_tb := ps_inS 15 (by decide +kernel) rfl
theorem fl_Model_23 : (.fieldLink R_Model 23 R_Model "tags" "[I" : Cond) ∈ ps_tb := ps_in 525 (by decide +kernel) rfl
theorem cd_Model_empty : y_Model_empty.cls = R_Model ∧ y_Model_empty.cls ≠ "java/lang/invoke/MethodHandle" ∧ y_Model_empty.cls ≠ "java/lang/invoke/VarHandle" ∧ (parseMethodDescriptor y_Model_empty.desc).map (fun d => d.parameters.length) = some 1 := by decide +kernel
theorem cs_Model_isThing : y_Model_isThing.cls ≠ "java/lang/invoke/MethodHandle" ∧ y_Model_isThing.cls ≠ "java/lang/invoke/VarHandle" ∧ (parseMethodDescriptor y_Model_isThing.desc).map (fun d => d.parameters.length) = some 1 := by decide +kernel
def rm_Model_thrown : Room := { frames := 0, cells := 0, slots := 0, locals := 0 }
abbrev ws_Model_thrown : List Cond := .code y_Model_thrown b_Model_thrown 1 (some .int) :: ps_tb
set_option maxHeartbeats 4000000 in
set_option maxRecDepth 100000 in
theorem c_Model_thrown {l : Launch} {D : va_G} {g : Nat → Nat} {cI cZ : ClassId} {σ : pm_τ}  : Met l y_Model_thrown ws_Model_thrown rm_Model_thrown (ps_Pc D pm_cl (pm_tys cI cZ) 13 g (pm_E g cI cZ σ) [.ref (g 0)]) (vp_Si (fun r => r = σ.1 0)) 0 0 (fun _ => False) := by
  refine ps_met (by decide) ?_
  intro p e s m args below meth c hx hb hr hml hts hown hlocks hname hv Q hQ
  obtain ⟨ha, hP, hK⟩ := hv
  have hT : ∀ w ∈ ps_tb, w.before args s = true := fun w h => hts w (List.mem_cons_of_mem _ h)
  have hown : s.vm.findClass R_Model = some m.cls := hown
  refine ps_enter ha (Nat.le_of_ble_eq_true rfl) (fun ls hl => ?_)
  have hl : lv_has ls 1 [(0, .ref (g 0))] := hl
  refine lv_aload_n hx hb d_Model_thrown_0 rfl (lv_at hl 0 rfl) ?_
  refine ps_get (v := .int (σ.1 0)) hx hb hT i_Model hown hK hP (k := 0) (by decide) pm_E_0 rfl 0 (by decide) (hT _ fl_Model_57) (fun _ h9 => h9) rfl d_Model_thrown_1 ?_
  rw [hQ]
  exact W.iret (v := σ.1 0) hx hb hr (fun zt ht _ => ⟨_, rfl, rfl, ht⟩) (fun q h => absurd h List.not_mem_nil) d_Model_thrown_4

def rm_Model_raise : Room := { frames := 0, cells := 0, slots := 0, locals := 0 }
abbrev ws_Model_raise : List Cond := .code y_Model_raise b_Model_raise 2 (some .int) :: ps_tb
set_option maxHeartbeats 4000000 in
set_option maxRecDepth 100000 in
theorem c_Model_raise {l : Launch} {D : va_G} {g : Nat → Nat} {cI cZ : ClassId} {σ : pm_τ} (hg : ps_inj 13 g) (x : Int32) : Met l y_Model_raise ws_Model_raise rm_Model_raise (ps_Pc D pm_cl (pm_tys cI cZ) 13 g (pm_E g cI cZ σ) [.ref (g 0), .int x]) (ps_Qi (S := pm_τ) D pm_cl 13 g (fun u => pm_E g cI cZ u) (fun r u => r = nI 0 ∧ u = pm_uI σ 0 x)) 0 0 (ps_wA 13 g) := by
  refine ps_met (by decide) ?_
  intro p e s m args below meth c hx hb hr hml hts hown hlocks hname hv Q hQ
  obtain ⟨ha, hP, hK⟩ := hv
  have hT : ∀ w ∈ ps_tb, w.before args s = true := fun w h => hts w (List.mem_cons_of_mem _ h)
  have hown : s.vm.findClass R_Model = some m.cls := hown
  have hS : va_S (ps_wA 13 g) s.heap s.heap [] := va_S.rf
  refine ps_enter ha (Nat.le_of_ble_eq_true rfl) (fun ls hl => ?_)
  have hl : lv_has ls 2 [(0, .ref (g 0)), (1, .int x)] := hl
  refine lv_aload_n hx hb d_Model_raise_0 rfl (lv_at hl 0 rfl) ?_
  refine lv_iload_n hx hb d_Model_raise_1 rfl (lv_at hl 1 rfl) ?_
  refine ps_put (v := .int x) (ty := .int) hx hb hT i_Model t_Model t_Model_ok n_Model hown hK hg hP hS (k := 0) (by decide) pm_E_0 rfl 0 (by decide) (hT _ fl_Model_57) (fun _ h9 => h9) rfl (by decide +kernel) rfl rfl (Nat.le_of_ble_eq_true rfl) d_Model_raise_2 (pm_E g cI cZ (pm_uI σ 0 x)) (pm_h1 (by decide)) (fun _ _ h => pm_E_uI h) (fun H locs hP hS => ?_)
  refine lv_iconst (v := nI 0) hx hb d_Model_raise_5 (by decide) ?_
  rw [hQ]
  exact W.iret (v := nI 0) hx hb hr (fun zt ht _ => ⟨⟨_, (pm_uI σ 0 x), rfl, ⟨rfl, rfl⟩, ps_hp ht hP⟩, hS.F ht⟩) hS.2.2 d_Model_raise_6

def rm_Model_isThing : Room := { frames := 0, cells := 0, slots := 0, locals := 0 }
abbrev ws_Model_isThing : List Cond := .code y_Model_isThing b_Model_isThing 1 (some .boolean) :: ps_tb
set_option maxHeartbeats 4000000 in
set_option maxRecDepth 100000 in
theorem c_Model_isThing {l : Launch} (x : Int32) : Met l y_Model_isThing ws_Model_isThing rm_Model_isThing (va_Pc [.int x] (fun _ => True)) (vp_Si (fun r => (∃ j : Nat, j < 6 ∧ x = nI j ∧ r = nI 1) ∨ ((x < 0 ∨ nI 6 ≤ x) ∧ r = nI 0))) 0 0 (fun _ => False) := by
  refine ps_met (by decide) ?_
  intro p e s m args below meth c hx hb hr hml hts hown hlocks hname hv Q hQ
  obtain ⟨ha, -⟩ := hv
  have hT : ∀ w ∈ ps_tb, w.before args s = true := fun w h => hts w (List.mem_cons_of_mem _ h)
  have hown : s.vm.findClass R_Model = some m.cls := hown
  refine ps_enter ha (Nat.le_of_ble_eq_true rfl) (fun ls hl => ?_)
  have hl : lv_has ls 1 [(0, .int x)] := hl
  rcases pk_ix x (n := 6) (by decide) with h | h | ⟨j, hj, rfl⟩
  · refine lv_iload_n hx hb d_Model_isThing_0 rfl (lv_at hl 0 rfl) ?_
    refine lv_if_lt (tgt := 14) hx hb d_Model_isThing_1 (by decide) (fun c_1 => ?_) (fun c_1 => ?_)
    · refine lv_iconst (v := nI 0) hx hb d_Model_isThing_14 (by decide) ?_
      rw [hQ]
      exact W.zret (v := nI 0) (ty := .boolean) hx hb hr (by decide +kernel) (fun zt ht _ => ⟨_, rfl, Or.inr ⟨Or.inl h, rfl⟩, ht⟩) (fun q h => absurd h List.not_mem_nil) d_Model_isThing_15
    · exact absurd h c_1
  · refine lv_iload_n hx hb d_Model_isThing_0 rfl (lv_at hl 0 rfl) ?_
    refine lv_if_lt (tgt := 14) hx hb d_Model_isThing_1 (by decide) (fun c_1 => ?_) (fun c_1 => ?_)
    · exact absurd c_1 (ps_le_nlt (by decide) h)
    · refine lv_iload_n hx hb d_Model_isThing_4 rfl (lv_at hl 0 rfl) ?_
      refine lv_bipush (v := nI 6) hx hb d_Model_isThing_5 (by decide) ?_
      refine lv_icmp_ge (tgt := 14) hx hb d_Model_isThing_7 (by decide) (fun c_7 => ?_) (fun c_7 => ?_)
      · refine lv_iconst (v := nI 0) hx hb d_Model_isThing_14 (by decide) ?_
        rw [hQ]
        exact W.zret (v := nI 0) (ty := .boolean) hx hb hr (by decide +kernel) (fun zt ht _ => ⟨_, rfl, Or.inr ⟨Or.inr h, rfl⟩, ht⟩) (fun q h => absurd h List.not_mem_nil) d_Model_isThing_15
      · exact absurd h c_7
  · refine lv_iload_n hx hb d_Model_isThing_0 rfl (lv_at hl 0 rfl) ?_
    refine lv_if_lt (tgt := 14) hx hb d_Model_isThing_1 (by decide) (fun c_1 => ?_) (fun c_1 => ?_)
    · exact absurd c_1 (nI_pos (by omega))
    · refine lv_iload_n hx hb d_Model_isThing_4 rfl (lv_at hl 0 rfl) ?_
      refine lv_bipush (v := nI 6) hx hb d_Model_isThing_5 (by decide) ?_
      refine lv_icmp_ge (tgt := 14) hx hb d_Model_isThing_7 (by decide) (fun c_7 => ?_) (fun c_7 => ?_)
      · exact absurd c_7 (nI_ge hj (by decide))
      · refine lv_iconst (v := nI 1) hx hb d_Model_isThing_10 (by decide) ?_
        refine lv_goto (tgt := 15) hx hb d_Model_isThing_11 (by decide) ?_
        rw [hQ]
        exact W.zret (v := nI 1) (ty := .boolean) hx hb hr (by decide +kernel) (fun zt ht _ => ⟨_, rfl, Or.inl ⟨j, hj, rfl, rfl⟩, ht⟩) (fun q h => absurd h List.not_mem_nil) d_Model_isThing_15

def rm_Model_isKnown : Room := { frames := 1, cells := 0, slots := 0, locals := 20 }
abbrev ws_Model_isKnown : List Cond := .code y_Model_isKnown b_Model_isKnown 2 (some .boolean) :: ps_tb
set_option maxHeartbeats 4000000 in
set_option maxRecDepth 100000 in
theorem c_Model_isKnown {l : Launch} {D : va_G} {g : Nat → Nat} {cI cZ : ClassId} {σ : pm_τ} (x : Int32) : Met l y_Model_isKnown ws_Model_isKnown rm_Model_isKnown (ps_Pc D pm_cl (pm_tys cI cZ) 13 g (pm_E g cI cZ σ) [.ref (g 0), .int x]) (vp_Si (fun r => (∃ j : Nat, j < 6 ∧ x = nI j ∧ ¬ σ.2.1 2 j = -1 ∧ r = nI 1) ∨ (((x < 0 ∨ nI 6 ≤ x) ∨ ∃ j : Nat, j < 6 ∧ x = nI j ∧ σ.2.1 2 j = -1) ∧ r = nI 0))) 0 0 (fun _ => False) := by
  refine ps_met (by decide) ?_
  intro p e s m args below meth c hx hb hr hml hts hown hlocks hname hv Q hQ
  obtain ⟨ha, hP, hK⟩ := hv
  have hT : ∀ w ∈ ps_tb, w.before args s = true := fun w h => hts w (List.mem_cons_of_mem _ h)
  have hown : s.vm.findClass R_Model = some m.cls := hown
  refine ps_enter ha (Nat.le_of_ble_eq_true rfl) (fun ls hl => ?_)
  have hl : lv_has ls 2 [(0, .ref (g 0)), (1, .int x)] := hl
  rcases pk_ix x (n := 6) (by decide) with h | h | ⟨j, hj, rfl⟩
  · refine lv_iload_n hx hb d_Model_isKnown_0 rfl (lv_at hl 1 rfl) ?_
    refine ps_sti (As := [.int x]) (rest := []) ⟨hx, hb, hml, hown, hT⟩ (c_Model_isThing (x)) (va_cwS 1 hT (ps_gS ml_Model_60 st_Model_isThing in_Model co_Model_isThing) rfl rfl rfl cs_Model_isThing ⟨Nat.le_of_ble_eq_true rfl, Nat.le_of_ble_eq_true rfl⟩) rfl hl.1 rfl (Nat.le_of_ble_eq_true rfl) d_Model_isKnown_1 ⟨Nat.zero_le _, Nat.zero_le _⟩ (fun rr hrr => ?_)
    have hrr := pm_th0 (Or.inl h) hrr
    subst hrr
    refine lv_if_eq (tgt := 21) hx hb d_Model_isKnown_4 (by decide) (fun c_4 => ?_) (fun c_4 => ?_)
    · refine lv_iconst (v := nI 0) hx hb d_Model_isKnown_21 (by decide) ?_
      rw [hQ]
      exact W.zret (v := nI 0) (ty := .boolean) hx hb hr (by decide +kernel) (fun zt ht _ => ⟨_, rfl, Or.inr ⟨Or.inl (Or.inl h), rfl⟩, ht⟩) (fun q h => absurd h List.not_mem_nil) d_Model_isKnown_22
    · exact absurd (by decide) c_4
  · refine lv_iload_n hx hb d_Model_isKnown_0 rfl (lv_at hl 1 rfl) ?_
    refine ps_sti (As := [.int x]) (rest := []) ⟨hx, hb, hml, hown, hT⟩ (c_Model_isThing (x)) (va_cwS 1 hT (ps_gS ml_Model_60 st_Model_isThing in_Model co_Model_isThing) rfl rfl rfl cs_Model_isThing ⟨Nat.le_of_ble_eq_true rfl, Nat.le_of_ble_eq_true rfl⟩) rfl hl.1 rfl (Nat.le_of_ble_eq_true rfl) d_Model_isKnown_1 ⟨Nat.zero_le _, Nat.zero_le _⟩ (fun rr hrr => ?_)
    have hrr := pm_th0 (Or.inr h) hrr
    subst hrr
    refine lv_if_eq (tgt := 21) hx hb d_Model_isKnown_4 (by decide) (fun c_4 => ?_) (fun c_4 => ?_)
    · refine lv_iconst (v := nI 0) hx hb d_Model_isKnown_21 (by decide) ?_
      rw [hQ]
      exact W.zret (v := nI 0) (ty := .boolean) hx hb hr (by decide +kernel) (fun zt ht _ => ⟨_, rfl, Or.inr ⟨Or.inl (Or.inr h), rfl⟩, ht⟩) (fun q h => absurd h List.not_mem_nil) d_Model_isKnown_22
    · exact absurd (by decide) c_4
  · refine lv_iload_n hx hb d_Model_isKnown_0 rfl (lv_at hl 1 rfl) ?_
    refine ps_sti (As := [.int (nI j)]) (rest := []) ⟨hx, hb, hml, hown, hT⟩ (c_Model_isThing (nI j)) (va_cwS 1 hT (ps_gS ml_Model_60 st_Model_isThing in_Model co_Model_isThing) rfl rfl rfl cs_Model_isThing ⟨Nat.le_of_ble_eq_true rfl, Nat.le_of_ble_eq_true rfl⟩) rfl hl.1 rfl (Nat.le_of_ble_eq_true rfl) d_Model_isKnown_1 ⟨Nat.zero_le _, Nat.zero_le _⟩ (fun rr hrr => ?_)
    have hrr := pm_th1 hj hrr
    subst hrr
    refine lv_if_eq (tgt := 21) hx hb d_Model_isKnown_4 (by decide) (fun c_4 => ?_) (fun c_4 => ?_)
    · exact absurd c_4 (by decide)
    · refine lv_aload_n hx hb d_Model_isKnown_7 rfl (lv_at hl 0 rfl) ?_
      refine ps_get (v := .ref (g 2)) hx hb hT i_Model hown hK hP (k := 0) (by decide) pm_E_0 rfl 5 (by decide) (hT _ fl_Model_20) (fun _ h9 => h9) rfl d_Model_isKnown_8 ?_
      refine lv_iload_n hx hb d_Model_isKnown_11 rfl (lv_at hl 1 rfl) ?_
      refine ps_iald (f := σ.2.1 2) hx hb hK hP (k := 2) (by decide) 0 pm_E_2 rfl (i := j) (by omega) (by decide) d_Model_isKnown_12 ?_
      refine lv_iconst (v := -1) hx hb d_Model_isKnown_13 (by decide) ?_
      refine lv_icmp_eq (tgt := 21) hx hb d_Model_isKnown_14 (by decide) (fun c_14 => ?_) (fun c_14 => ?_)
      · refine lv_iconst (v := nI 0) hx hb d_Model_isKnown_21 (by decide) ?_
        rw [hQ]
        exact W.zret (v := nI 0) (ty := .boolean) hx hb hr (by decide +kernel) (fun zt ht _ => ⟨_, rfl, Or.inr ⟨Or.inr ⟨j, hj, rfl, c_14⟩, rfl⟩, ht⟩) (fun q h => absurd h List.not_mem_nil) d_Model_isKnown_22
      · refine lv_iconst (v := nI 1) hx hb d_Model_isKnown_17 (by decide) ?_
        refine lv_goto (tgt := 22) hx hb d_Model_isKnown_18 (by decide) ?_
        rw [hQ]
        exact W.zret (v := nI 1) (ty := .boolean) hx hb hr (by decide +kernel) (fun zt ht _ => ⟨_, rfl, Or.inl ⟨j, hj, rfl, c_14, rfl⟩, ht⟩) (fun q h => absurd h List.not_mem_nil) d_Model_isKnown_22

def rm_Model_empty : Room := { frames := 0, cells := 0, slots := 0, locals := 0 }
abbrev ws_Model_empty : List Cond := .code y_Model_empty b_Model_empty 3 none :: ps_tb
set_option maxHeartbeats 4000000 in
set_option maxRecDepth 100000 in
theorem c_Model_empty {l : Launch} {D : va_G} {g : Nat → Nat} {cI cZ : ClassId} {σ : pm_τ} (hg : ps_inj 13 g) (t : Nat) (ht6 : t < 6) : Met l y_Model_empty ws_Model_empty rm_Model_empty (ps_Pc D pm_cl (pm_tys cI cZ) 13 g (pm_E g cI cZ σ) [.ref (g 0), .int (nI t)]) (ps_Qv (S := pm_τ) D pm_cl 13 g (fun u => pm_E g cI cZ u) (fun u => pm_sm [] [] [4] σ u ∧ ∀ q, u.2.2 4 q = pm_em (σ.2.2 4) t 4096 q)) 0 0 (ps_wA 13 g) := by
  refine ps_met (by decide) ?_
  intro p e s m args below meth c hx hb hr hml hts hown hlocks hname hv Q hQ
  obtain ⟨ha, hP, hK⟩ := hv
  have hT : ∀ w ∈ ps_tb, w.before args s = true := fun w h => hts w (List.mem_cons_of_mem _ h)
  have hown : s.vm.findClass R_Model = some m.cls := hown
  have hS : va_S (ps_wA 13 g) s.heap s.heap [] := va_S.rf
  refine ps_enter ha (Nat.le_of_ble_eq_true rfl) (fun ls hl => ?_)
  have hl : lv_has ls 3 [(0, .ref (g 0)), (1, .int (nI t))] := hl
  refine lv_iconst (v := nI 0) hx hb d_Model_empty_0 (by decide) ?_
  refine lv_istore_n (lv' := [(2, .int (nI 0)), (0, .ref (g 0)), (1, .int (nI t))]) hx hb d_Model_empty_1 rfl hl (by decide) rfl (fun ls hl => ?_)
  have L_a : ∀ (n_a : Nat) (i : Nat) (u : pm_τ), (i ≤ 4096) → (pm_sm [] [] [4] σ u) → (∀ q, u.2.2 4 q = pm_em (σ.2.2 4) t i q) → 4096 - i < n_a → ∀ (H : Heap) (locs : List Loc), va_P D pm_cl (ps_wl 13 g (pm_E g cI cZ u)) H → va_S (ps_wA 13 g) s.heap H locs → ∀ (ls : Array Slot), lv_has ls 3 [(0, .ref (g 0)), (1, .int (nI t)), (2, .int (nI i))] → W p l e rm_Model_empty s m args below meth c H locs 0 0 Q (F0 m 2 ls []) := by
    intro n_a
    induction n_a with
    | zero => intro i u hi hs hz hf_a; exact absurd hf_a (Nat.not_lt_zero _)
    | succ n_a ih_a =>
      intro i u hi hs hz hf_a H locs hP hS ls hl
      refine lv_iload_n hx hb d_Model_empty_2 rfl (lv_at hl 2 rfl) ?_
      refine lv_sipush (v := nI 4096) hx hb d_Model_empty_3 (by decide) ?_
      refine lv_icmp_ge (tgt := 28) hx hb d_Model_empty_6 (by decide) (fun c_6 => ?_) (fun c_6 => ?_)
      · have hi9 : i = 4096 := by have := ps_leT c_6 (by omega) (by omega); omega
        rw [hQ]
        exact W.vret hx hb hr (fun zt ht _ => ⟨⟨u, rfl, ⟨hs, by rw [hi9] at hz; exact hz⟩, ps_hp ht hP⟩, hS.F ht⟩) hS.2.2 d_Model_empty_28
      · have hi9 : i < 4096 := by have := ps_ltOf c_6 (by omega) (by omega); omega
        refine lv_aload_n hx hb d_Model_empty_9 rfl (lv_at hl 0 rfl) ?_
        refine ps_get (v := .ref (g 4)) hx hb hT i_Model hown hK hP (k := 0) (by decide) pm_E_0 rfl 7 (by decide) (hT _ fl_Model_26) (fun _ h9 => h9) rfl d_Model_empty_10 ?_
        refine lv_sipush (v := nI 4096) hx hb d_Model_empty_13 (by decide) ?_
        refine lv_iload_n hx hb d_Model_empty_16 rfl (lv_at hl 1 rfl) ?_
        refine lv_imul hx hb d_Model_empty_17 ?_
        refine ps_seti (y := nI (4096 * t)) (pk_mul _ _) ?_
        refine lv_iload_n hx hb d_Model_empty_18 rfl (lv_at hl 2 rfl) ?_
        refine lv_iadd hx hb d_Model_empty_19 ?_
        refine ps_seti (y := nI (4096 * t + i)) (nI_add _ _) ?_
        refine lv_iconst (v := nI 0) hx hb d_Model_empty_20 (by decide) ?_
        refine ps_zast (T := u.2.2 4) hx hb hK hg hP hS (k := 4) (by decide) 1 pm_E_4 rfl (i := (4096 * t + i)) (by omega) (by decide) false (by decide) d_Model_empty_21 (pm_E g cI cZ (pm_uZ u 4 (va_up (u.2.2 4) (4096 * t + i) false))) rfl (fun _ _ h => pm_E_uZ h) (fun H locs hP hS => ?_)
        refine lv_iinc (v := (nI (i + 1))) (lv' := [(2, .int (nI (i + 1))), (0, .ref (g 0)), (1, .int (nI t))]) hx hb d_Model_empty_22 hl (k := 2) rfl (nI_1 _) (by decide) rfl (fun ls hl => ?_)
        refine lv_goto (tgt := 2) hx hb d_Model_empty_25 (by decide) ?_
        exact ih_a (i + 1) (pm_uZ u 4 (va_up (u.2.2 4) (4096 * t + i) false)) (by omega) (hs.Z (by decide)) (pm_em_s hz) (by omega) _ _ hP hS ls (lv_sub hl [1, 2, 0] rfl)
  exact L_a (4096 - 0 + 1) 0 (σ) (by omega) (pm_sm_rf _ _ _ _) (fun q => pm_em_0 _ _ _) (by omega) _ _ hP hS ls (lv_sub hl [1, 2, 0] rfl)

def rm_Model_thing : Room := { frames := 1, cells := 0, slots := 0, locals := 22 }
abbrev ws_Model_thing : List Cond := .code y_Model_thing b_Model_thing 4 (some .boolean) :: ps_tb
set_option maxHeartbeats 4000000 in
set_option maxRecDepth 100000 in
theorem c_Model_thing {l : Launch} {D : va_G} {g : Nat → Nat} {cI cZ : ClassId} {σ : pm_τ} (hg : ps_inj 13 g) (x ln tg : Int32) : Met l y_Model_thing ws_Model_thing rm_Model_thing (ps_Pc D pm_cl (pm_tys cI cZ) 13 g (pm_E g cI cZ σ) [.ref (g 0), .int x, .int ln, .int tg]) (ps_Qi (S := pm_τ) D pm_cl 13 g (fun u => pm_E g cI cZ u) (fun r u => (∃ j : Nat, j < 6 ∧ x = nI j ∧ ¬ ln < 0 ∧ ln ≤ nI 4095 ∧ r = 1 ∧ pm_sm [0] [2, 3] [4] σ u ∧ u.2.1 2 = va_up (σ.2.1 2) j ln ∧ u.2.1 3 = va_up (σ.2.1 3) j tg ∧ ((σ.2.1 2 j = ln ∧ σ.2.1 3 j = tg ∧ u.2.2 4 = σ.2.2 4) ∨ (¬ (σ.2.1 2 j = ln ∧ σ.2.1 3 j = tg) ∧ ∀ q, u.2.2 4 q = pm_em (σ.2.2 4) j 4096 q))) ∨ (((x < 0 ∨ nI 6 ≤ x) ∨ ln < 0 ∨ ¬ ln ≤ nI 4095) ∧ r = 0 ∧ u = pm_uI σ 0 (nI 0)))) 0 0 (ps_wA 13 g) := by
  refine ps_met (by decide) ?_
  intro p e s m args below meth c hx hb hr hml hts hown hlocks hname hv Q hQ
  obtain ⟨ha, hP, hK⟩ := hv
  have hT : ∀ w ∈ ps_tb, w.before args s = true := fun w h => hts w (List.mem_cons_of_mem _ h)
  have hown : s.vm.findClass R_Model = some m.cls := hown
  have hS : va_S (ps_wA 13 g) s.heap s.heap [] := va_S.rf
  refine ps_enter ha (Nat.le_of_ble_eq_true rfl) (fun ls hl => ?_)
  have hl : lv_has ls 4 [(0, .ref (g 0)), (1, .int x), (2, .int ln), (3, .int tg)] := hl
  rcases pk_ix x (n := 6) (by decide) with h | h | ⟨j, hj, rfl⟩
  · refine lv_aload_n hx hb d_Model_thing_0 rfl (lv_at hl 0 rfl) ?_
    refine lv_iconst (v := nI 0) hx hb d_Model_thing_1 (by decide) ?_
    refine ps_put (v := .int (nI 0)) (ty := .int) hx hb hT i_Model t_Model t_Model_ok n_Model hown hK hg hP hS (k := 0) (by decide) pm_E_0 rfl 0 (by decide) (hT _ fl_Model_57) (fun _ h9 => h9) rfl (by decide +kernel) rfl rfl (Nat.le_of_ble_eq_true rfl) d_Model_thing_2 (pm_E g cI cZ (pm_uI σ 0 (nI 0))) (pm_h1 (by decide)) (fun _ _ h => pm_E_uI h) (fun H locs hP hS => ?_)
    refine lv_iload_n hx hb d_Model_thing_5 rfl (lv_at hl 1 rfl) ?_
    refine ps_sti (As := [.int x]) (rest := []) ⟨hx, hb, hml, hown, hT⟩ (c_Model_isThing (x)) (va_cwS 1 hT (ps_gS ml_Model_60 st_Model_isThing in_Model co_Model_isThing) rfl rfl rfl cs_Model_isThing ⟨Nat.le_of_ble_eq_true rfl, Nat.le_of_ble_eq_true rfl⟩) rfl hl.1 rfl (Nat.le_of_ble_eq_true rfl) d_Model_thing_6 ⟨Nat.zero_le _, Nat.zero_le _⟩ (fun rr hrr => ?_)
    have hrr := pm_th0 (Or.inl h) hrr
    subst hrr
    refine lv_if_eq (tgt := 23) hx hb d_Model_thing_9 (by decide) (fun c_9 => ?_) (fun c_9 => ?_)
    · refine lv_iconst (v := nI 0) hx hb d_Model_thing_23 (by decide) ?_
      rw [hQ]
      exact W.zret (v := nI 0) (ty := .boolean) hx hb hr (by decide +kernel) (fun zt ht _ => ⟨⟨_, (pm_uI σ 0 (nI 0)), rfl, Or.inr ⟨Or.inl (Or.inl h), rfl, rfl⟩, ps_hp ht hP⟩, hS.F ht⟩) hS.2.2 d_Model_thing_24
    · exact absurd (by decide) c_9
  · refine lv_aload_n hx hb d_Model_thing_0 rfl (lv_at hl 0 rfl) ?_
    refine lv_iconst (v := nI 0) hx hb d_Model_thing_1 (by decide) ?_
    refine ps_put (v := .int (nI 0)) (ty := .int) hx hb hT i_Model t_Model t_Model_ok n_Model hown hK hg hP hS (k := 0) (by decide) pm_E_0 rfl 0 (by decide) (hT _ fl_Model_57) (fun _ h9 => h9) rfl (by decide +kernel) rfl rfl (Nat.le_of_ble_eq_true rfl) d_Model_thing_2 (pm_E g cI cZ (pm_uI σ 0 (nI 0))) (pm_h1 (by decide)) (fun _ _ h => pm_E_uI h) (fun H locs hP hS => ?_)
    refine lv_iload_n hx hb d_Model_thing_5 rfl (lv_at hl 1 rfl) ?_
    refine ps_sti (As := [.int x]) (rest := []) ⟨hx, hb, hml, hown, hT⟩ (c_Model_isThing (x)) (va_cwS 1 hT (ps_gS ml_Model_60 st_Model_isThing in_Model co_Model_isThing) rfl rfl rfl cs_Model_isThing ⟨Nat.le_of_ble_eq_true rfl, Nat.le_of_ble_eq_true rfl⟩) rfl hl.1 rfl (Nat.le_of_ble_eq_true rfl) d_Model_thing_6 ⟨Nat.zero_le _, Nat.zero_le _⟩ (fun rr hrr => ?_)
    have hrr := pm_th0 (Or.inr h) hrr
    subst hrr
    refine lv_if_eq (tgt := 23) hx hb d_Model_thing_9 (by decide) (fun c_9 => ?_) (fun c_9 => ?_)
    · refine lv_iconst (v := nI 0) hx hb d_Model_thing_23 (by decide) ?_
      rw [hQ]
      exact W.zret (v := nI 0) (ty := .boolean) hx hb hr (by decide +kernel) (fun zt ht _ => ⟨⟨_, (pm_uI σ 0 (nI 0)), rfl, Or.inr ⟨Or.inl (Or.inr h), rfl, rfl⟩, ps_hp ht hP⟩, hS.F ht⟩) hS.2.2 d_Model_thing_24
    · exact absurd (by decide) c_9
  · refine lv_aload_n hx hb d_Model_thing_0 rfl (lv_at hl 0 rfl) ?_
    refine lv_iconst (v := nI 0) hx hb d_Model_thing_1 (by decide) ?_
    refine ps_put (v := .int (nI 0)) (ty := .int) hx hb hT i_Model t_Model t_Model_ok n_Model hown hK hg hP hS (k := 0) (by decide) pm_E_0 rfl 0 (by decide) (hT _ fl_Model_57) (fun _ h9 => h9) rfl (by decide +kernel) rfl rfl (Nat.le_of_ble_eq_true rfl) d_Model_thing_2 (pm_E g cI cZ (pm_uI σ 0 (nI 0))) (pm_h1 (by decide)) (fun _ _ h => pm_E_uI h) (fun H locs hP hS => ?_)
    refine lv_iload_n hx hb d_Model_thing_5 rfl (lv_at hl 1 rfl) ?_
    refine ps_sti (As := [.int (nI j)]) (rest := []) ⟨hx, hb, hml, hown, hT⟩ (c_Model_isThing (nI j)) (va_cwS 1 hT (ps_gS ml_Model_60 st_Model_isThing in_Model co_Model_isThing) rfl rfl rfl cs_Model_isThing ⟨Nat.le_of_ble_eq_true rfl, Nat.le_of_ble_eq_true rfl⟩) rfl hl.1 rfl (Nat.le_of_ble_eq_true rfl) d_Model_thing_6 ⟨Nat.zero_le _, Nat.zero_le _⟩ (fun rr hrr => ?_)
    have hrr := pm_th1 hj hrr
    subst hrr
    refine lv_if_eq (tgt := 23) hx hb d_Model_thing_9 (by decide) (fun c_9 => ?_) (fun c_9 => ?_)
    · exact absurd c_9 (by decide)
    · refine lv_iload_n hx hb d_Model_thing_12 rfl (lv_at hl 2 rfl) ?_
      refine lv_if_lt (tgt := 23) hx hb d_Model_thing_13 (by decide) (fun c_13 => ?_) (fun c_13 => ?_)
      · refine lv_iconst (v := nI 0) hx hb d_Model_thing_23 (by decide) ?_
        rw [hQ]
        exact W.zret (v := nI 0) (ty := .boolean) hx hb hr (by decide +kernel) (fun zt ht _ => ⟨⟨_, (pm_uI σ 0 (nI 0)), rfl, Or.inr ⟨Or.inr (Or.inl c_13), rfl, rfl⟩, ps_hp ht hP⟩, hS.F ht⟩) hS.2.2 d_Model_thing_24
      · refine lv_iload_n hx hb d_Model_thing_16 rfl (lv_at hl 2 rfl) ?_
        refine lv_sipush (v := nI 4095) hx hb d_Model_thing_17 (by decide) ?_
        refine lv_icmp_le (tgt := 25) hx hb d_Model_thing_20 (by decide) (fun c_20 => ?_) (fun c_20 => ?_)
        · refine lv_aload_n hx hb d_Model_thing_25 rfl (lv_at hl 0 rfl) ?_
          refine ps_get (v := .ref (g 2)) hx hb hT i_Model hown hK hP (k := 0) (by decide) pm_E_0 rfl 5 (by decide) (hT _ fl_Model_20) (fun _ h9 => h9) rfl d_Model_thing_26 ?_
          refine lv_iload_n hx hb d_Model_thing_29 rfl (lv_at hl 1 rfl) ?_
          refine ps_iald (f := σ.2.1 2) hx hb hK hP (k := 2) (by decide) 0 pm_E_2 rfl (i := j) (by omega) (by decide) d_Model_thing_30 ?_
          refine lv_iload_n hx hb d_Model_thing_31 rfl (lv_at hl 2 rfl) ?_
          refine lv_icmp_ne (tgt := 45) hx hb d_Model_thing_32 (by decide) (fun c_32 => ?_) (fun c_32 => ?_)
          · have hne : ¬ (σ.2.1 2 j = ln ∧ σ.2.1 3 j = tg) := fun h => c_32 h.1
            refine lv_aload_n hx hb d_Model_thing_45 rfl (lv_at hl 0 rfl) ?_
            refine lv_iload_n hx hb d_Model_thing_46 rfl (lv_at hl 1 rfl) ?_
            refine ps_wrv (k := 0) (As := [.int (nI j)]) (rest := []) ⟨hx, hb, hml, hown, hT⟩ (c_Model_empty (σ := (pm_uI σ 0 (nI 0))) hg j (by omega)) (cwV 1 hT (ps_gV ml_Model_69 im_Model_empty se_Model_empty in_Model co_Model_empty) rfl rfl rfl cd_Model_empty ⟨Nat.le_of_ble_eq_true rfl, Nat.le_of_ble_eq_true rfl⟩) hK hP hS (fun _ h => h) (by omega) pm_E_0 rfl rfl hl.1 rfl (Nat.le_of_ble_eq_true rfl) d_Model_thing_47 ⟨Nat.zero_le _, Nat.zero_le _⟩ (fun u3 H locs hu3 hP hS _ => ?_)
            obtain ⟨hs3, hz3⟩ := hu3
            refine lv_aload_n hx hb d_Model_thing_50 rfl (lv_at hl 0 rfl) ?_
            refine ps_get (v := .ref (g 2)) hx hb hT i_Model hown hK hP (k := 0) (by decide) pm_E_0 rfl 5 (by decide) (hT _ fl_Model_20) (fun _ h9 => h9) rfl d_Model_thing_51 ?_
            refine lv_iload_n hx hb d_Model_thing_54 rfl (lv_at hl 1 rfl) ?_
            refine lv_iload_n hx hb d_Model_thing_55 rfl (lv_at hl 2 rfl) ?_
            refine ps_iast (f := u3.2.1 2) hx hb hK hg hP hS (k := 2) (by decide) 0 pm_E_2 rfl (i := j) (by omega) (by decide) d_Model_thing_56 (pm_E g cI cZ (pm_uA u3 2 (va_up (u3.2.1 2) j ln))) rfl (fun _ _ h => pm_E_uA h) (fun H locs hP hS => ?_)
            refine lv_aload_n hx hb d_Model_thing_57 rfl (lv_at hl 0 rfl) ?_
            refine ps_get (v := .ref (g 3)) hx hb hT i_Model hown hK hP (k := 0) (by decide) pm_E_0 rfl 6 (by decide) (hT _ fl_Model_23) (fun _ h9 => h9) rfl d_Model_thing_58 ?_
            refine lv_iload_n hx hb d_Model_thing_61 rfl (lv_at hl 1 rfl) ?_
            refine lv_iload_n hx hb d_Model_thing_62 rfl (lv_at hl 3 rfl) ?_
            refine ps_iast (f := u3.2.1 3) hx hb hK hg hP hS (k := 3) (by decide) 0 pm_E_3 rfl (i := j) (by omega) (by decide) d_Model_thing_63 (pm_E g cI cZ (pm_uA (pm_uA u3 2 (va_up (u3.2.1 2) j ln)) 3 (va_up (u3.2.1 3) j tg))) rfl (fun _ _ h => pm_E_uA h) (fun H locs hP hS => ?_)
            refine lv_iconst (v := nI 1) hx hb d_Model_thing_64 (by decide) ?_
            rw [hQ]
            exact W.zret (v := nI 1) (ty := .boolean) hx hb hr (by decide +kernel) (fun zt ht _ => ⟨⟨_, (pm_uA (pm_uA u3 2 (va_up (u3.2.1 2) j ln)) 3 (va_up (u3.2.1 3) j tg)), rfl, Or.inl ⟨j, hj, rfl, c_13, c_20, rfl, ((((pm_sm_rf _ _ _ σ).I (by decide)).to hs3 (by decide) (by decide) (by decide)).A (by decide)).A (by decide), by show va_up (u3.2.1 2) j ln = _; rw [hs3.2.1 2 (by decide)]; rfl, by show va_up (u3.2.1 3) j tg = _; rw [hs3.2.1 3 (by decide)]; rfl, Or.inr ⟨hne, hz3⟩⟩, ps_hp ht hP⟩, hS.F ht⟩) hS.2.2 d_Model_thing_65
          · refine lv_aload_n hx hb d_Model_thing_35 rfl (lv_at hl 0 rfl) ?_
            refine ps_get (v := .ref (g 3)) hx hb hT i_Model hown hK hP (k := 0) (by decide) pm_E_0 rfl 6 (by decide) (hT _ fl_Model_23) (fun _ h9 => h9) rfl d_Model_thing_36 ?_
            refine lv_iload_n hx hb d_Model_thing_39 rfl (lv_at hl 1 rfl) ?_
            refine ps_iald (f := σ.2.1 3) hx hb hK hP (k := 3) (by decide) 0 pm_E_3 rfl (i := j) (by omega) (by decide) d_Model_thing_40 ?_
            refine lv_iload_n hx hb d_Model_thing_41 rfl (lv_at hl 3 rfl) ?_
            refine lv_icmp_eq (tgt := 50) hx hb d_Model_thing_42 (by decide) (fun c_42 => ?_) (fun c_42 => ?_)
            · refine lv_aload_n hx hb d_Model_thing_50 rfl (lv_at hl 0 rfl) ?_
              refine ps_get (v := .ref (g 2)) hx hb hT i_Model hown hK hP (k := 0) (by decide) pm_E_0 rfl 5 (by decide) (hT _ fl_Model_20) (fun _ h9 => h9) rfl d_Model_thing_51 ?_
              refine lv_iload_n hx hb d_Model_thing_54 rfl (lv_at hl 1 rfl) ?_
              refine lv_iload_n hx hb d_Model_thing_55 rfl (lv_at hl 2 rfl) ?_
              refine ps_iast (f := σ.2.1 2) hx hb hK hg hP hS (k := 2) (by decide) 0 pm_E_2 rfl (i := j) (by omega) (by decide) d_Model_thing_56 (pm_E g cI cZ (pm_uA (pm_uI σ 0 (nI 0)) 2 (va_up (σ.2.1 2) j ln))) rfl (fun _ _ h => pm_E_uA h) (fun H locs hP hS => ?_)
              refine lv_aload_n hx hb d_Model_thing_57 rfl (lv_at hl 0 rfl) ?_
              refine ps_get (v := .ref (g 3)) hx hb hT i_Model hown hK hP (k := 0) (by decide) pm_E_0 rfl 6 (by decide) (hT _ fl_Model_23) (fun _ h9 => h9) rfl d_Model_thing_58 ?_
              refine lv_iload_n hx hb d_Model_thing_61 rfl (lv_at hl 1 rfl) ?_
              refine lv_iload_n hx hb d_Model_thing_62 rfl (lv_at hl 3 rfl) ?_
              refine ps_iast (f := σ.2.1 3) hx hb hK hg hP hS (k := 3) (by decide) 0 pm_E_3 rfl (i := j) (by omega) (by decide) d_Model_thing_63 (pm_E g cI cZ (pm_uA (pm_uA (pm_uI σ 0 (nI 0)) 2 (va_up (σ.2.1 2) j ln)) 3 (va_up (σ.2.1 3) j tg))) rfl (fun _ _ h => pm_E_uA h) (fun H locs hP hS => ?_)
              refine lv_iconst (v := nI 1) hx hb d_Model_thing_64 (by decide) ?_
              rw [hQ]
              exact W.zret (v := nI 1) (ty := .boolean) hx hb hr (by decide +kernel) (fun zt ht _ => ⟨⟨_, (pm_uA (pm_uA (pm_uI σ 0 (nI 0)) 2 (va_up (σ.2.1 2) j ln)) 3 (va_up (σ.2.1 3) j tg)), rfl, Or.inl ⟨j, hj, rfl, c_13, c_20, rfl, (((pm_sm_rf _ _ _ σ).I (by decide)).A (by decide)).A (by decide), rfl, rfl, Or.inl ⟨c_32, c_42, rfl⟩⟩, ps_hp ht hP⟩, hS.F ht⟩) hS.2.2 d_Model_thing_65
            · have hne : ¬ (σ.2.1 2 j = ln ∧ σ.2.1 3 j = tg) := fun h => c_42 h.2
              refine lv_aload_n hx hb d_Model_thing_45 rfl (lv_at hl 0 rfl) ?_
              refine lv_iload_n hx hb d_Model_thing_46 rfl (lv_at hl 1 rfl) ?_
              refine ps_wrv (k := 0) (As := [.int (nI j)]) (rest := []) ⟨hx, hb, hml, hown, hT⟩ (c_Model_empty (σ := (pm_uI σ 0 (nI 0))) hg j (by omega)) (cwV 1 hT (ps_gV ml_Model_69 im_Model_empty se_Model_empty in_Model co_Model_empty) rfl rfl rfl cd_Model_empty ⟨Nat.le_of_ble_eq_true rfl, Nat.le_of_ble_eq_true rfl⟩) hK hP hS (fun _ h => h) (by omega) pm_E_0 rfl rfl hl.1 rfl (Nat.le_of_ble_eq_true rfl) d_Model_thing_47 ⟨Nat.zero_le _, Nat.zero_le _⟩ (fun u3 H locs hu3 hP hS _ => ?_)
              obtain ⟨hs3, hz3⟩ := hu3
              refine lv_aload_n hx hb d_Model_thing_50 rfl (lv_at hl 0 rfl) ?_
              refine ps_get (v := .ref (g 2)) hx hb hT i_Model hown hK hP (k := 0) (by decide) pm_E_0 rfl 5 (by decide) (hT _ fl_Model_20) (fun _ h9 => h9) rfl d_Model_thing_51 ?_
              refine lv_iload_n hx hb d_Model_thing_54 rfl (lv_at hl 1 rfl) ?_
              refine lv_iload_n hx hb d_Model_thing_55 rfl (lv_at hl 2 rfl) ?_
              refine ps_iast (f := u3.2.1 2) hx hb hK hg hP hS (k := 2) (by decide) 0 pm_E_2 rfl (i := j) (by omega) (by decide) d_Model_thing_56 (pm_E g cI cZ (pm_uA u3 2 (va_up (u3.2.1 2) j ln))) rfl (fun _ _ h => pm_E_uA h) (fun H locs hP hS => ?_)
              refine lv_aload_n hx hb d_Model_thing_57 rfl (lv_at hl 0 rfl) ?_
              refine ps_get (v := .ref (g 3)) hx hb hT i_Model hown hK hP (k := 0) (by decide) pm_E_0 rfl 6 (by decide) (hT _ fl_Model_23) (fun _ h9 => h9) rfl d_Model_thing_58 ?_
              refine lv_iload_n hx hb d_Model_thing_61 rfl (lv_at hl 1 rfl) ?_
              refine lv_iload_n hx hb d_Model_thing_62 rfl (lv_at hl 3 rfl) ?_
              refine ps_iast (f := u3.2.1 3) hx hb hK hg hP hS (k := 3) (by decide) 0 pm_E_3 rfl (i := j) (by omega) (by decide) d_Model_thing_63 (pm_E g cI cZ (pm_uA (pm_uA u3 2 (va_up (u3.2.1 2) j ln)) 3 (va_up (u3.2.1 3) j tg))) rfl (fun _ _ h => pm_E_uA h) (fun H locs hP hS => ?_)
              refine lv_iconst (v := nI 1) hx hb d_Model_thing_64 (by decide) ?_
              rw [hQ]
              exact W.zret (v := nI 1) (ty := .boolean) hx hb hr (by decide +kernel) (fun zt ht _ => ⟨⟨_, (pm_uA (pm_uA u3 2 (va_up (u3.2.1 2) j ln)) 3 (va_up (u3.2.1 3) j tg)), rfl, Or.inl ⟨j, hj, rfl, c_13, c_20, rfl, ((((pm_sm_rf _ _ _ σ).I (by decide)).to hs3 (by decide) (by decide) (by decide)).A (by decide)).A (by decide), by show va_up (u3.2.1 2) j ln = _; rw [hs3.2.1 2 (by decide)]; rfl, by show va_up (u3.2.1 3) j tg = _; rw [hs3.2.1 3 (by decide)]; rfl, Or.inr ⟨hne, hz3⟩⟩, ps_hp ht hP⟩, hS.F ht⟩) hS.2.2 d_Model_thing_65
        · refine lv_iconst (v := nI 0) hx hb d_Model_thing_23 (by decide) ?_
          rw [hQ]
          exact W.zret (v := nI 0) (ty := .boolean) hx hb hr (by decide +kernel) (fun zt ht _ => ⟨⟨_, (pm_uI σ 0 (nI 0)), rfl, Or.inr ⟨Or.inr (Or.inr c_20), rfl, rfl⟩, ps_hp ht hP⟩, hS.F ht⟩) hS.2.2 d_Model_thing_24

def rm_Model_forget : Room := { frames := 1, cells := 0, slots := 0, locals := 22 }
abbrev ws_Model_forget : List Cond := .code y_Model_forget b_Model_forget 2 (some .boolean) :: ps_tb
set_option maxHeartbeats 4000000 in
set_option maxRecDepth 100000 in
theorem c_Model_forget {l : Launch} {D : va_G} {g : Nat → Nat} {cI cZ : ClassId} {σ : pm_τ} (hg : ps_inj 13 g) (x : Int32) : Met l y_Model_forget ws_Model_forget rm_Model_forget (ps_Pc D pm_cl (pm_tys cI cZ) 13 g (pm_E g cI cZ σ) [.ref (g 0), .int x]) (ps_Qi (S := pm_τ) D pm_cl 13 g (fun u => pm_E g cI cZ u) (fun r u => (∃ j : Nat, j < 6 ∧ x = nI j ∧ r = 1 ∧ pm_sm [0] [2] [4] σ u ∧ u.2.1 2 = va_up (σ.2.1 2) j (-1) ∧ ∀ q, u.2.2 4 q = pm_em (σ.2.2 4) j 4096 q) ∨ ((x < 0 ∨ nI 6 ≤ x) ∧ r = 0 ∧ u = pm_uI σ 0 (nI 0)))) 0 0 (ps_wA 13 g) := by
  refine ps_met (by decide) ?_
  intro p e s m args below meth c hx hb hr hml hts hown hlocks hname hv Q hQ
  obtain ⟨ha, hP, hK⟩ := hv
  have hT : ∀ w ∈ ps_tb, w.before args s = true := fun w h => hts w (List.mem_cons_of_mem _ h)
  have hown : s.vm.findClass R_Model = some m.cls := hown
  have hS : va_S (ps_wA 13 g) s.heap s.heap [] := va_S.rf
  refine ps_enter ha (Nat.le_of_ble_eq_true rfl) (fun ls hl => ?_)
  have hl : lv_has ls 2 [(0, .ref (g 0)), (1, .int x)] := hl
  rcases pk_ix x (n := 6) (by decide) with h | h | ⟨j, hj, rfl⟩
  · refine lv_aload_n hx hb d_Model_forget_0 rfl (lv_at hl 0 rfl) ?_
    refine lv_iconst (v := nI 0) hx hb d_Model_forget_1 (by decide) ?_
    refine ps_put (v := .int (nI 0)) (ty := .int) hx hb hT i_Model t_Model t_Model_ok n_Model hown hK hg hP hS (k := 0) (by decide) pm_E_0 rfl 0 (by decide) (hT _ fl_Model_57) (fun _ h9 => h9) rfl (by decide +kernel) rfl rfl (Nat.le_of_ble_eq_true rfl) d_Model_forget_2 (pm_E g cI cZ (pm_uI σ 0 (nI 0))) (pm_h1 (by decide)) (fun _ _ h => pm_E_uI h) (fun H locs hP hS => ?_)
    refine lv_iload_n hx hb d_Model_forget_5 rfl (lv_at hl 1 rfl) ?_
    refine ps_sti (As := [.int x]) (rest := []) ⟨hx, hb, hml, hown, hT⟩ (c_Model_isThing (x)) (va_cwS 1 hT (ps_gS ml_Model_60 st_Model_isThing in_Model co_Model_isThing) rfl rfl rfl cs_Model_isThing ⟨Nat.le_of_ble_eq_true rfl, Nat.le_of_ble_eq_true rfl⟩) rfl hl.1 rfl (Nat.le_of_ble_eq_true rfl) d_Model_forget_6 ⟨Nat.zero_le _, Nat.zero_le _⟩ (fun rr hrr => ?_)
    have hrr := pm_th0 (Or.inl h) hrr
    subst hrr
    refine lv_if_ne (tgt := 14) hx hb d_Model_forget_9 (by decide) (fun c_9 => ?_) (fun c_9 => ?_)
    · exact absurd (by decide) c_9
    · refine lv_iconst (v := nI 0) hx hb d_Model_forget_12 (by decide) ?_
      rw [hQ]
      exact W.zret (v := nI 0) (ty := .boolean) hx hb hr (by decide +kernel) (fun zt ht _ => ⟨⟨_, (pm_uI σ 0 (nI 0)), rfl, Or.inr ⟨Or.inl h, rfl, rfl⟩, ps_hp ht hP⟩, hS.F ht⟩) hS.2.2 d_Model_forget_13
  · refine lv_aload_n hx hb d_Model_forget_0 rfl (lv_at hl 0 rfl) ?_
    refine lv_iconst (v := nI 0) hx hb d_Model_forget_1 (by decide) ?_
    refine ps_put (v := .int (nI 0)) (ty := .int) hx hb hT i_Model t_Model t_Model_ok n_Model hown hK hg hP hS (k := 0) (by decide) pm_E_0 rfl 0 (by decide) (hT _ fl_Model_57) (fun _ h9 => h9) rfl (by decide +kernel) rfl rfl (Nat.le_of_ble_eq_true rfl) d_Model_forget_2 (pm_E g cI cZ (pm_uI σ 0 (nI 0))) (pm_h1 (by decide)) (fun _ _ h => pm_E_uI h) (fun H locs hP hS => ?_)
    refine lv_iload_n hx hb d_Model_forget_5 rfl (lv_at hl 1 rfl) ?_
    refine ps_sti (As := [.int x]) (rest := []) ⟨hx, hb, hml, hown, hT⟩ (c_Model_isThing (x)) (va_cwS 1 hT (ps_gS ml_Model_60 st_Model_isThing in_Model co_Model_isThing) rfl rfl rfl cs_Model_isThing ⟨Nat.le_of_ble_eq_true rfl, Nat.le_of_ble_eq_true rfl⟩) rfl hl.1 rfl (Nat.le_of_ble_eq_true rfl) d_Model_forget_6 ⟨Nat.zero_le _, Nat.zero_le _⟩ (fun rr hrr => ?_)
    have hrr := pm_th0 (Or.inr h) hrr
    subst hrr
    refine lv_if_ne (tgt := 14) hx hb d_Model_forget_9 (by decide) (fun c_9 => ?_) (fun c_9 => ?_)
    · exact absurd (by decide) c_9
    · refine lv_iconst (v := nI 0) hx hb d_Model_forget_12 (by decide) ?_
      rw [hQ]
      exact W.zret (v := nI 0) (ty := .boolean) hx hb hr (by decide +kernel) (fun zt ht _ => ⟨⟨_, (pm_uI σ 0 (nI 0)), rfl, Or.inr ⟨Or.inr h, rfl, rfl⟩, ps_hp ht hP⟩, hS.F ht⟩) hS.2.2 d_Model_forget_13
  · refine lv_aload_n hx hb d_Model_forget_0 rfl (lv_at hl 0 rfl) ?_
    refine lv_iconst (v := nI 0) hx hb d_Model_forget_1 (by decide) ?_
    refine ps_put (v := .int (nI 0)) (ty := .int) hx hb hT i_Model t_Model t_Model_ok n_Model hown hK hg hP hS (k := 0) (by decide) pm_E_0 rfl 0 (by decide) (hT _ fl_Model_57) (fun _ h9 => h9) rfl (by decide +kernel) rfl rfl (Nat.le_of_ble_eq_true rfl) d_Model_forget_2 (pm_E g cI cZ (pm_uI σ 0 (nI 0))) (pm_h1 (by decide)) (fun _ _ h => pm_E_uI h) (fun H locs hP hS => ?_)
    refine lv_iload_n hx hb d_Model_forget_5 rfl (lv_at hl 1 rfl) ?_
    refine ps_sti (As := [.int (nI j)]) (rest := []) ⟨hx, hb, hml, hown, hT⟩ (c_Model_isThing (nI j)) (va_cwS 1 hT (ps_gS ml_Model_60 st_Model_isThing in_Model co_Model_isThing) rfl rfl rfl cs_Model_isThing ⟨Nat.le_of_ble_eq_true rfl, Nat.le_of_ble_eq_true rfl⟩) rfl hl.1 rfl (Nat.le_of_ble_eq_true rfl) d_Model_forget_6 ⟨Nat.zero_le _, Nat.zero_le _⟩ (fun rr hrr => ?_)
    have hrr := pm_th1 hj hrr
    subst hrr
    refine lv_if_ne (tgt := 14) hx hb d_Model_forget_9 (by decide) (fun c_9 => ?_) (fun c_9 => ?_)
    · refine lv_aload_n hx hb d_Model_forget_14 rfl (lv_at hl 0 rfl) ?_
      refine ps_get (v := .ref (g 2)) hx hb hT i_Model hown hK hP (k := 0) (by decide) pm_E_0 rfl 5 (by decide) (hT _ fl_Model_20) (fun _ h9 => h9) rfl d_Model_forget_15 ?_
      refine lv_iload_n hx hb d_Model_forget_18 rfl (lv_at hl 1 rfl) ?_
      refine lv_iconst (v := -1) hx hb d_Model_forget_19 (by decide) ?_
      refine ps_iast (f := σ.2.1 2) hx hb hK hg hP hS (k := 2) (by decide) 0 pm_E_2 rfl (i := j) (by omega) (by decide) d_Model_forget_20 (pm_E g cI cZ (pm_uA (pm_uI σ 0 (nI 0)) 2 (va_up (σ.2.1 2) j (-1)))) rfl (fun _ _ h => pm_E_uA h) (fun H locs hP hS => ?_)
      refine lv_aload_n hx hb d_Model_forget_21 rfl (lv_at hl 0 rfl) ?_
      refine lv_iload_n hx hb d_Model_forget_22 rfl (lv_at hl 1 rfl) ?_
      refine ps_wrv (k := 0) (As := [.int (nI j)]) (rest := []) ⟨hx, hb, hml, hown, hT⟩ (c_Model_empty (σ := (pm_uA (pm_uI σ 0 (nI 0)) 2 (va_up (σ.2.1 2) j (-1)))) hg j (by omega)) (cwV 1 hT (ps_gV ml_Model_69 im_Model_empty se_Model_empty in_Model co_Model_empty) rfl rfl rfl cd_Model_empty ⟨Nat.le_of_ble_eq_true rfl, Nat.le_of_ble_eq_true rfl⟩) hK hP hS (fun _ h => h) (by omega) pm_E_0 rfl rfl hl.1 rfl (Nat.le_of_ble_eq_true rfl) d_Model_forget_23 ⟨Nat.zero_le _, Nat.zero_le _⟩ (fun u3 H locs hu3 hP hS _ => ?_)
      obtain ⟨hs3, hz3⟩ := hu3
      refine lv_iconst (v := nI 1) hx hb d_Model_forget_26 (by decide) ?_
      rw [hQ]
      exact W.zret (v := nI 1) (ty := .boolean) hx hb hr (by decide +kernel) (fun zt ht _ => ⟨⟨_, u3, rfl, Or.inl ⟨j, hj, rfl, rfl, (((pm_sm_rf _ _ _ σ).I (by decide)).A (by decide)).to hs3 (by decide) (by decide) (by decide), by rw [hs3.2.1 2 (by decide)]; rfl, hz3⟩, ps_hp ht hP⟩, hS.F ht⟩) hS.2.2 d_Model_forget_27
    · exact absurd c_9 (by decide)
