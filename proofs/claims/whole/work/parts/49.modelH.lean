theorem fl_Model_54 : (.fieldLink R_Model 54 R_Model "wanted" "[Z" : Cond) ∈ ps_tb := ps_in 544 (by decide +kernel) rfl
theorem ml_Model_114 : (.methodLink R_Model 114 y_Model_addRow : Cond) ∈ ps_tb := ps_in 677 (by decide +kernel) rfl
theorem co_Model_addRow : (.code y_Model_addRow b_Model_addRow 3 none : Cond) ∈ ps_tb := ps_in 680 (by decide +kernel) rfl
theorem im_Model_addRow : (.instanceMethod y_Model_addRow : Cond) ∈ ps_tb := ps_in 679 (by decide +kernel) rfl
theorem se_Model_addRow : (.selects R_Model y_Model_addRow y_Model_addRow : Cond) ∈ ps_tb := ps_inS 25 (by decide +kernel) rfl
theorem cd_Model_addRow : y_Model_addRow.cls = R_Model ∧ y_Model_addRow.cls ≠ "java/lang/invoke/MethodHandle" ∧ y_Model_addRow.cls ≠ "java/lang/invoke/VarHandle" ∧ (parseMethodDescriptor y_Model_addRow.desc).map (fun d => d.parameters.length) = some 2 := by decide +kernel
def rm_Model_addRow : Room := { frames := 0, cells := 0, slots := 0, locals := 0 }
abbrev ws_Model_addRow : List Cond := .code y_Model_addRow b_Model_addRow 3 none :: ps_tb
set_option maxHeartbeats 4000000 in
set_option maxRecDepth 100000 in
theorem c_Model_addRow {l : Launch} {D : va_G} {g : Nat → Nat} {cI cZ : ClassId} {σ : pm_τ} (hg : ps_inj 13 g) (k : Nat) (hk : k < 6) (hrn : σ.1 16 = nI k) (x y : Int32) : Met l y_Model_addRow ws_Model_addRow rm_Model_addRow (ps_Pc D pm_cl (pm_tys cI cZ) 13 g (pm_E g cI cZ σ) [.ref (g 0), .int x, .int y]) (ps_Qv (S := pm_τ) D pm_cl 13 g (fun u => pm_E g cI cZ u) (fun u => u = pm_uI (pm_uA (pm_uA σ 8 (va_up (σ.2.1 8) k x)) 9 (va_up (σ.2.1 9) k y)) 16 (nI (k + 1)))) 0 0 (ps_wA 13 g) := by
  refine ps_met (by decide) ?_
  intro p e s m args below meth c hx hb hr hml hts hown hlocks hname hv Q hQ
  obtain ⟨ha, hP, hK⟩ := hv
  have hT : ∀ w ∈ ps_tb, w.before args s = true := fun w h => hts w (List.mem_cons_of_mem _ h)
  have hown : s.vm.findClass R_Model = some m.cls := hown
  have hS : va_S (ps_wA 13 g) s.heap s.heap [] := va_S.rf
  refine ps_enter ha (Nat.le_of_ble_eq_true rfl) (fun ls hl => ?_)
  have hl : lv_has ls 3 [(0, .ref (g 0)), (1, .int x), (2, .int y)] := hl
  refine lv_aload_n hx hb d_Model_addRow_0 rfl (lv_at hl 0 rfl) ?_
  refine ps_get (v := .ref (g 8)) hx hb hT i_Model hown hK hP (k := 0) (by decide) pm_E_0 rfl 17 (by decide) (hT _ fl_Model_42) (fun _ h9 => h9) rfl d_Model_addRow_1 ?_
  refine lv_aload_n hx hb d_Model_addRow_4 rfl (lv_at hl 0 rfl) ?_
  refine ps_get (v := .int (σ.1 16)) hx hb hT i_Model hown hK hP (k := 0) (by decide) pm_E_0 rfl 16 (by decide) (hT _ fl_Model_111) (fun _ h9 => h9) rfl d_Model_addRow_5 ?_
  refine ps_seti (y := nI k) hrn ?_
  refine lv_iload_n hx hb d_Model_addRow_8 rfl (lv_at hl 1 rfl) ?_
  refine ps_iast (f := σ.2.1 8) hx hb hK hg hP hS (k := 8) (by decide) 0 pm_E_8 rfl (i := k) (by omega) (by decide) d_Model_addRow_9 (pm_E g cI cZ (pm_uA σ 8 (va_up (σ.2.1 8) k x))) rfl (fun _ _ h => pm_E_uA h) (fun H locs hP hS => ?_)
  refine lv_aload_n hx hb d_Model_addRow_10 rfl (lv_at hl 0 rfl) ?_
  refine ps_get (v := .ref (g 9)) hx hb hT i_Model hown hK hP (k := 0) (by decide) pm_E_0 rfl 18 (by decide) (hT _ fl_Model_45) (fun _ h9 => h9) rfl d_Model_addRow_11 ?_
  refine lv_aload_n hx hb d_Model_addRow_14 rfl (lv_at hl 0 rfl) ?_
  refine ps_get (v := .int (σ.1 16)) hx hb hT i_Model hown hK hP (k := 0) (by decide) pm_E_0 rfl 16 (by decide) (hT _ fl_Model_111) (fun _ h9 => h9) rfl d_Model_addRow_15 ?_
  refine ps_seti (y := nI k) hrn ?_
  refine lv_iload_n hx hb d_Model_addRow_18 rfl (lv_at hl 2 rfl) ?_
  refine ps_iast (f := σ.2.1 9) hx hb hK hg hP hS (k := 9) (by decide) 0 pm_E_9 rfl (i := k) (by omega) (by decide) d_Model_addRow_19 (pm_E g cI cZ (pm_uA (pm_uA σ 8 (va_up (σ.2.1 8) k x)) 9 (va_up (σ.2.1 9) k y))) rfl (fun _ _ h => pm_E_uA h) (fun H locs hP hS => ?_)
  refine lv_aload_n hx hb d_Model_addRow_20 rfl (lv_at hl 0 rfl) ?_
  refine lv_dup hx hb d_Model_addRow_21 rfl ?_
  refine ps_get (v := .int (σ.1 16)) hx hb hT i_Model hown hK hP (k := 0) (by decide) pm_E_0 rfl 16 (by decide) (hT _ fl_Model_111) (fun _ h9 => h9) rfl d_Model_addRow_22 ?_
  refine ps_seti (y := nI k) hrn ?_
  refine lv_iconst (v := nI 1) hx hb d_Model_addRow_25 (by decide) ?_
  refine lv_iadd hx hb d_Model_addRow_26 ?_
  refine ps_seti (y := nI (k + 1)) (nI_add _ _) ?_
  refine ps_put (v := .int (nI (k + 1))) (ty := .int) hx hb hT i_Model t_Model t_Model_ok n_Model hown hK hg hP hS (k := 0) (by decide) pm_E_0 rfl 16 (by decide) (hT _ fl_Model_111) (fun _ h9 => h9) rfl (by decide +kernel) rfl rfl (Nat.le_of_ble_eq_true rfl) d_Model_addRow_27 (pm_E g cI cZ (pm_uI (pm_uA (pm_uA σ 8 (va_up (σ.2.1 8) k x)) 9 (va_up (σ.2.1 9) k y)) 16 (nI (k + 1)))) (pm_h1 (by decide)) (fun _ _ h => pm_E_uI h) (fun H locs hP hS => ?_)
  rw [hQ]
  exact W.vret hx hb hr (fun zt ht _ => ⟨⟨(pm_uI (pm_uA (pm_uA σ 8 (va_up (σ.2.1 8) k x)) 9 (va_up (σ.2.1 9) k y)) 16 (nI (k + 1))), rfl, rfl, ps_hp ht hP⟩, hS.F ht⟩) hS.2.2 d_Model_addRow_30

def rm_Model_unite : Room := { frames := 0, cells := 0, slots := 0, locals := 0 }
abbrev ws_Model_unite : List Cond := .code y_Model_unite b_Model_unite 3 none :: ps_tb
set_option maxHeartbeats 4000000 in
set_option maxRecDepth 100000 in
theorem c_Model_unite {l : Launch} {D : va_G} {g : Nat → Nat} {cI cZ : ClassId} {σ : pm_τ} (hg : ps_inj 13 g) (R : List (Nat × Nat)) (hR6 : R.length ≤ 6) (hrn : σ.1 16 = nI R.length) (hv : pm_rw (σ.2.1 8) (σ.2.1 9) R) (hord : ∀ r ∈ R, r.1 ≤ r.2 ∧ r.2 < 4096) : Met l y_Model_unite ws_Model_unite rm_Model_unite (ps_Pc D pm_cl (pm_tys cI cZ) 13 g (pm_E g cI cZ σ) [.ref (g 0)]) (ps_Qv (S := pm_τ) D pm_cl 13 g (fun u => pm_E g cI cZ u) (fun u => pm_sm [] [] [12] σ u ∧ ∀ q, q < 4096 → u.2.2 12 q = ps_any R q)) 0 0 (ps_wA 13 g) := by
  refine ps_met (by decide) ?_
  intro p e s m args below meth c hx hb hr hml hts hown hlocks hname hv Q hQ
  obtain ⟨ha, hP, hK⟩ := hv
  have hT : ∀ w ∈ ps_tb, w.before args s = true := fun w h => hts w (List.mem_cons_of_mem _ h)
  have hown : s.vm.findClass R_Model = some m.cls := hown
  have hS : va_S (ps_wA 13 g) s.heap s.heap [] := va_S.rf
  refine ps_enter ha (Nat.le_of_ble_eq_true rfl) (fun ls hl => ?_)
  have hl : lv_has ls 3 [(0, .ref (g 0))] := hl
  refine lv_iconst (v := nI 0) hx hb d_Model_unite_0 (by decide) ?_
  refine lv_istore_n (lv' := [(1, .int (nI 0)), (0, .ref (g 0))]) hx hb d_Model_unite_1 rfl hl (by decide) rfl (fun ls hl => ?_)
  have L_a : ∀ (n_a : Nat) (i : Nat) (u : pm_τ), (i ≤ 4096) → (pm_sm [] [] [12] σ u) → (∀ q, q < i → u.2.2 12 q = false) → 4096 - i < n_a → ∀ (H : Heap) (locs : List Loc), va_P D pm_cl (ps_wl 13 g (pm_E g cI cZ u)) H → va_S (ps_wA 13 g) s.heap H locs → ∀ (ls : Array Slot), lv_has ls 3 [(0, .ref (g 0)), (1, .int (nI i))] → W p l e rm_Model_unite s m args below meth c H locs 0 0 Q (F0 m 2 ls []) := by
    intro n_a
    induction n_a with
    | zero => intro i u hi hs hz hf_a; exact absurd hf_a (Nat.not_lt_zero _)
    | succ n_a ih_a =>
      intro i u hi hs hz hf_a H locs hP hS ls hl
      refine lv_iload_n hx hb d_Model_unite_2 rfl (lv_at hl 1 rfl) ?_
      refine lv_sipush (v := nI 4096) hx hb d_Model_unite_3 (by decide) ?_
      refine lv_icmp_ge (tgt := 22) hx hb d_Model_unite_6 (by decide) (fun c_6 => ?_) (fun c_6 => ?_)
      · have hi9 : i = 4096 := by have := ps_leT c_6 (by omega) (by omega); omega
        refine lv_iconst (v := nI 0) hx hb d_Model_unite_22 (by decide) ?_
        refine lv_istore_n (lv' := [(1, .int (nI 0)), (0, .ref (g 0))]) hx hb d_Model_unite_23 rfl hl (by decide) rfl (fun ls hl => ?_)
        have L_b : ∀ (n_b : Nat) (i : Nat) (u : pm_τ), (i ≤ R.length) → (pm_sm [] [] [12] σ u) → (∀ q, q < 4096 → u.2.2 12 q = ps_any (R.take i) q) → R.length - i < n_b → ∀ (H : Heap) (locs : List Loc), va_P D pm_cl (ps_wl 13 g (pm_E g cI cZ u)) H → va_S (ps_wA 13 g) s.heap H locs → ∀ (ls : Array Slot), lv_has ls 3 [(0, .ref (g 0)), (1, .int (nI i))] → W p l e rm_Model_unite s m args below meth c H locs 0 0 Q (F0 m 24 ls []) := by
          intro n_b
          induction n_b with
          | zero => intro i u hi hs hu hf_b; exact absurd hf_b (Nat.not_lt_zero _)
          | succ n_b ih_b =>
            intro i u hi hs hu hf_b H locs hP hS ls hl
            refine lv_iload_n hx hb d_Model_unite_24 rfl (lv_at hl 1 rfl) ?_
            refine lv_aload_n hx hb d_Model_unite_25 rfl (lv_at hl 0 rfl) ?_
            refine ps_get (v := .int (u.1 16)) hx hb hT i_Model hown hK hP (k := 0) (by decide) pm_E_0 rfl 16 (by decide) (hT _ fl_Model_111) (fun _ h9 => h9) rfl d_Model_unite_26 ?_
            refine ps_seti (y := nI R.length) ((hs.1 16 (by decide)).trans hrn) ?_
            refine lv_icmp_ge (tgt := 68) hx hb d_Model_unite_29 (by decide) (fun c_29 => ?_) (fun c_29 => ?_)
            · have hiR : i = R.length := by have := ps_leT c_29 (by omega) (by omega); omega
              rw [hQ]
              exact W.vret hx hb hr (fun zt ht _ => ⟨⟨u, rfl, ⟨hs, fun q hq => by rw [hu q hq, hiR, List.take_length]⟩, ps_hp ht hP⟩, hS.F ht⟩) hS.2.2 d_Model_unite_68
            · have hiR : i < R.length := ps_ltOf c_29 (by omega) (by omega)
              obtain ⟨fa, hfa⟩ : ∃ z, z = (R[i]'hiR).1 := ⟨_, rfl⟩
              obtain ⟨fb, hfb⟩ : ∃ z, z = (R[i]'hiR).2 := ⟨_, rfl⟩
              have hfab : fa ≤ fb ∧ fb < 4096 := by rw [hfa, hfb]; exact hord _ (List.getElem_mem hiR)
              refine lv_aload_n hx hb d_Model_unite_32 rfl (lv_at hl 0 rfl) ?_
              refine ps_get (v := .ref (g 8)) hx hb hT i_Model hown hK hP (k := 0) (by decide) pm_E_0 rfl 17 (by decide) (hT _ fl_Model_42) (fun _ h9 => h9) rfl d_Model_unite_33 ?_
              refine lv_iload_n hx hb d_Model_unite_36 rfl (lv_at hl 1 rfl) ?_
              refine ps_iald (f := u.2.1 8) hx hb hK hP (k := 8) (by decide) 0 pm_E_8 rfl (i := i) (by omega) (by decide) d_Model_unite_37 ?_
              refine ps_seti (y := nI fa) (by rw [hs.2.1 8 (by decide), (hv i hiR).1, hfa]) ?_
              refine lv_istore_n (lv' := [(2, .int (nI fa)), (0, .ref (g 0)), (1, .int (nI i))]) hx hb d_Model_unite_38 rfl hl (by decide) rfl (fun ls hl => ?_)
              have L_c : ∀ (n_c : Nat) (k : Nat) (v : pm_τ), (fa ≤ k) → (k ≤ fb + 1) → (pm_sm [] [] [12] σ v) → (∀ q, q < 4096 → v.2.2 12 q = pm_un R i fa k q) → fb + 1 - k < n_c → ∀ (H : Heap) (locs : List Loc), va_P D pm_cl (ps_wl 13 g (pm_E g cI cZ v)) H → va_S (ps_wA 13 g) s.heap H locs → ∀ (ls : Array Slot), lv_has ls 3 [(0, .ref (g 0)), (1, .int (nI i)), (2, .int (nI k))] → W p l e rm_Model_unite s m args below meth c H locs 0 0 Q (F0 m 39 ls []) := by
                intro n_c
                induction n_c with
                | zero => intro k v hk1 hk2 hsv hvv hf_c; exact absurd hf_c (Nat.not_lt_zero _)
                | succ n_c ih_c =>
                  intro k v hk1 hk2 hsv hvv hf_c H locs hP hS ls hl
                  refine lv_iload_n hx hb d_Model_unite_39 rfl (lv_at hl 2 rfl) ?_
                  refine lv_aload_n hx hb d_Model_unite_40 rfl (lv_at hl 0 rfl) ?_
                  refine ps_get (v := .ref (g 9)) hx hb hT i_Model hown hK hP (k := 0) (by decide) pm_E_0 rfl 18 (by decide) (hT _ fl_Model_45) (fun _ h9 => h9) rfl d_Model_unite_41 ?_
                  refine lv_iload_n hx hb d_Model_unite_44 rfl (lv_at hl 1 rfl) ?_
                  refine ps_iald (f := v.2.1 9) hx hb hK hP (k := 9) (by decide) 0 pm_E_9 rfl (i := i) (by omega) (by decide) d_Model_unite_45 ?_
                  refine ps_seti (y := nI fb) (by rw [hsv.2.1 9 (by decide), (hv i hiR).2, hfb]) ?_
                  refine lv_icmp_gt (tgt := 62) hx hb d_Model_unite_46 (by decide) (fun c_46 => ?_) (fun c_46 => ?_)
                  · have hkb : k = fb + 1 := by have := ps_ltT c_46 (by omega) (by omega); omega
                    refine lv_iinc (v := (nI (i + 1))) (lv' := [(1, .int (nI (i + 1))), (0, .ref (g 0)), (2, .int (nI k))]) hx hb d_Model_unite_62 hl (k := 1) rfl (nI_1 _) (by decide) rfl (fun ls hl => ?_)
                    refine lv_goto (tgt := 24) hx hb d_Model_unite_65 (by decide) ?_
                    exact ih_b (i + 1) v (by omega) hsv (fun q hq => by rw [hvv q hq, hkb, hfa, hfb, pm_un_e hiR]) (by omega) _ _ hP hS ls (lv_sub hl [1, 0] rfl)
                  · have hkb : k ≤ fb := ps_leOf c_46 (by omega) (by omega)
                    refine lv_aload_n hx hb d_Model_unite_49 rfl (lv_at hl 0 rfl) ?_
                    refine ps_get (v := .ref (g 12)) hx hb hT i_Model hown hK hP (k := 0) (by decide) pm_E_0 rfl 25 (by decide) (hT _ fl_Model_54) (fun _ h9 => h9) rfl d_Model_unite_50 ?_
                    refine lv_iload_n hx hb d_Model_unite_53 rfl (lv_at hl 2 rfl) ?_
                    refine lv_iconst (v := nI 1) hx hb d_Model_unite_54 (by decide) ?_
                    refine ps_zast (T := v.2.2 12) hx hb hK hg hP hS (k := 12) (by decide) 1 pm_E_12 rfl (i := k) (by omega) (by decide) true (by decide) d_Model_unite_55 (pm_E g cI cZ (pm_uZ v 12 (va_up (v.2.2 12) k true))) rfl (fun _ _ h => pm_E_uZ h) (fun H locs hP hS => ?_)
                    refine lv_iinc (v := (nI (k + 1))) (lv' := [(2, .int (nI (k + 1))), (0, .ref (g 0)), (1, .int (nI i))]) hx hb d_Model_unite_56 hl (k := 2) rfl (nI_1 _) (by decide) rfl (fun ls hl => ?_)
                    refine lv_goto (tgt := 39) hx hb d_Model_unite_59 (by decide) ?_
                    exact ih_c (k + 1) (pm_uZ v 12 (va_up (v.2.2 12) k true)) (by omega) (by omega) (hsv.Z (by decide)) (pm_un_s hk1 hvv) (by omega) _ _ hP hS ls (lv_sub hl [1, 2, 0] rfl)
              exact L_c (fb + 1 - fa + 1) fa u (Nat.le_refl _) (by omega) hs (fun q hq => (hu q hq).trans (pm_un_0 R i fa q)) (by omega) _ _ hP hS ls (lv_sub hl [1, 2, 0] rfl)
        exact L_b (R.length - 0 + 1) 0 u (Nat.zero_le _) hs (fun q hq => by rw [hz q (by omega)]; rfl) (by omega) _ _ hP hS ls (lv_sub hl [1, 0] rfl)
      · have hi9 : i < 4096 := by have := ps_ltOf c_6 (by omega) (by omega); omega
        refine lv_aload_n hx hb d_Model_unite_9 rfl (lv_at hl 0 rfl) ?_
        refine ps_get (v := .ref (g 12)) hx hb hT i_Model hown hK hP (k := 0) (by decide) pm_E_0 rfl 25 (by decide) (hT _ fl_Model_54) (fun _ h9 => h9) rfl d_Model_unite_10 ?_
        refine lv_iload_n hx hb d_Model_unite_13 rfl (lv_at hl 1 rfl) ?_
        refine lv_iconst (v := nI 0) hx hb d_Model_unite_14 (by decide) ?_
        refine ps_zast (T := u.2.2 12) hx hb hK hg hP hS (k := 12) (by decide) 1 pm_E_12 rfl (i := i) (by omega) (by decide) false (by decide) d_Model_unite_15 (pm_E g cI cZ (pm_uZ u 12 (va_up (u.2.2 12) i false))) rfl (fun _ _ h => pm_E_uZ h) (fun H locs hP hS => ?_)
        refine lv_iinc (v := (nI (i + 1))) (lv' := [(1, .int (nI (i + 1))), (0, .ref (g 0))]) hx hb d_Model_unite_16 hl (k := 1) rfl (nI_1 _) (by decide) rfl (fun ls hl => ?_)
        refine lv_goto (tgt := 2) hx hb d_Model_unite_19 (by decide) ?_
        exact ih_a (i + 1) (pm_uZ u 12 (va_up (u.2.2 12) i false)) (by omega) (hs.Z (by decide)) (fun q hq => by
          show va_up (u.2.2 12) i false q = false
          by_cases e : q = i
          · rw [e, va_up_self]
          · rw [va_up_ne _ _ e]; exact hz q (by omega)) (by omega) _ _ hP hS ls (lv_sub hl [1, 0] rfl)
  exact L_a (4096 - 0 + 1) 0 (σ) (by omega) (pm_sm_rf _ _ _ _) (fun q hq => absurd hq (Nat.not_lt_zero q)) (by omega) _ _ hP hS ls (lv_sub hl [1, 0] rfl)

def rm_Model_isAsTold : Room := { frames := 0, cells := 0, slots := 0, locals := 0 }
abbrev ws_Model_isAsTold : List Cond := .code y_Model_isAsTold b_Model_isAsTold 4 (some .boolean) :: ps_tb
set_option maxHeartbeats 4000000 in
set_option maxRecDepth 100000 in
theorem c_Model_isAsTold {l : Launch} {D : va_G} {g : Nat → Nat} {cI cZ : ClassId} {σ : pm_τ} (R : List (Nat × Nat)) (hR6 : R.length ≤ 6) (hrn : σ.1 16 = nI R.length) (hv : pm_rw (σ.2.1 8) (σ.2.1 9) R) (hord : ∀ r ∈ R, r.1 ≤ r.2 ∧ r.2 < 4096) : Met l y_Model_isAsTold ws_Model_isAsTold rm_Model_isAsTold (ps_Pc D pm_cl (pm_tys cI cZ) 13 g (pm_E g cI cZ σ) [.ref (g 0)]) (vp_Si (fun r => (r = nI 1 ∧ (ps_apt R ∧ R.length ≤ 3)) ∨ (r = nI 0 ∧ ¬ (ps_apt R ∧ R.length ≤ 3)))) 0 0 (fun _ => False) := by
  refine ps_met (by decide) ?_
  intro p e s m args below meth c hx hb hr hml hts hown hlocks hname hv Q hQ
  obtain ⟨ha, hP, hK⟩ := hv
  have hT : ∀ w ∈ ps_tb, w.before args s = true := fun w h => hts w (List.mem_cons_of_mem _ h)
  have hown : s.vm.findClass R_Model = some m.cls := hown
  refine ps_enter ha (Nat.le_of_ble_eq_true rfl) (fun ls hl => ?_)
  have hl : lv_has ls 4 [(0, .ref (g 0))] := hl
  have hbd := pm_bd hord
  have hvg := pm_rw_g hv
  refine lv_aload_n hx hb d_Model_isAsTold_0 rfl (lv_at hl 0 rfl) ?_
  refine ps_get (v := .int (σ.1 16)) hx hb hT i_Model hown hK hP (k := 0) (by decide) pm_E_0 rfl 16 (by decide) (hT _ fl_Model_111) (fun _ h9 => h9) rfl d_Model_isAsTold_1 ?_
  refine ps_seti (y := nI R.length) hrn ?_
  refine lv_iconst (v := nI 3) hx hb d_Model_isAsTold_4 (by decide) ?_
  refine lv_icmp_gt (tgt := 12) hx hb d_Model_isAsTold_5 (by decide) (fun c_5 => ?_) (fun c_5 => ?_)
  · have h3 : ¬ R.length ≤ 3 := by have := ps_ltT c_5 (by decide) (by omega); omega
    refine lv_iconst (v := nI 0) hx hb d_Model_isAsTold_12 (by decide) ?_
    refine lv_istore_n (lv' := [(1, .int (nI 0)), (0, .ref (g 0))]) hx hb d_Model_isAsTold_13 rfl hl (by decide) rfl (fun ls hl => ?_)
    refine lv_iconst (v := nI 0) hx hb d_Model_isAsTold_14 (by decide) ?_
    refine lv_istore_n (lv' := [(2, .int (nI 0)), (1, .int (nI 0)), (0, .ref (g 0))]) hx hb d_Model_isAsTold_15 rfl hl (by decide) rfl (fun ls hl => ?_)
    have L_a : ∀ (n_a : Nat) (i : Nat) (b : Bool), (i ≤ R.length) → (b = true ↔ pm_at R i 0) → R.length - i < n_a → ∀ (ls : Array Slot), lv_has ls 4 [(0, .ref (g 0)), (1, .int (ps_bI b)), (2, .int (nI i))] → W p l e rm_Model_isAsTold s m args below meth c s.heap [] 0 0 Q (F0 m 16 ls []) := by
      intro n_a
      induction n_a with
      | zero => intro i b hi hb1 hf_a; exact absurd hf_a (Nat.not_lt_zero _)
      | succ n_a ih_a =>
        intro i b hi hb1 hf_a ls hl
        refine lv_iload_n hx hb d_Model_isAsTold_16 rfl (lv_at hl 2 rfl) ?_
        refine lv_aload_n hx hb d_Model_isAsTold_17 rfl (lv_at hl 0 rfl) ?_
        refine ps_get (v := .int (σ.1 16)) hx hb hT i_Model hown hK hP (k := 0) (by decide) pm_E_0 rfl 16 (by decide) (hT _ fl_Model_111) (fun _ h9 => h9) rfl d_Model_isAsTold_18 ?_
        refine ps_seti (y := nI R.length) hrn ?_
        refine lv_icmp_ge (tgt := 83) hx hb d_Model_isAsTold_21 (by decide) (fun c_21 => ?_) (fun c_21 => ?_)
        · have hiR : i = R.length := by have := ps_leT c_21 (by omega) (by omega); omega
          have hbe := hb1.trans (pm_at_e hiR)
          cases b with
          | true =>
            have hl : lv_has ls 4 [(0, .ref (g 0)), (1, .int (nI 1)), (2, .int (nI i))] := hl
            refine lv_iload_n hx hb d_Model_isAsTold_83 rfl (lv_at hl 1 rfl) ?_
            rw [hQ]
            exact W.zret (v := nI 1) (ty := .boolean) hx hb hr (by decide +kernel) (fun zt ht _ => ⟨_, rfl, Or.inl ⟨rfl, hbe.mp rfl⟩, ht⟩) (fun q h => absurd h List.not_mem_nil) d_Model_isAsTold_84
          | false =>
            have hl : lv_has ls 4 [(0, .ref (g 0)), (1, .int (nI 0)), (2, .int (nI i))] := hl
            refine lv_iload_n hx hb d_Model_isAsTold_83 rfl (lv_at hl 1 rfl) ?_
            rw [hQ]
            exact W.zret (v := nI 0) (ty := .boolean) hx hb hr (by decide +kernel) (fun zt ht _ => ⟨_, rfl, Or.inr ⟨rfl, fun q => absurd (hbe.mpr q) (by decide)⟩, ht⟩) (fun q h => absurd h List.not_mem_nil) d_Model_isAsTold_84
        · have hiR : i < R.length := ps_ltOf c_21 (by omega) (by omega)
          refine lv_iconst (v := nI 0) hx hb d_Model_isAsTold_24 (by decide) ?_
          refine lv_istore_n (lv' := [(3, .int (nI 0)), (0, .ref (g 0)), (1, .int (ps_bI b)), (2, .int (nI i))]) hx hb d_Model_isAsTold_25 rfl hl (by decide) rfl (fun ls hl => ?_)
          have L_b : ∀ (n_b : Nat) (j : Nat) (b : Bool), (j ≤ i) → (b = true ↔ pm_at R i j) → i - j < n_b → ∀ (ls : Array Slot), lv_has ls 4 [(0, .ref (g 0)), (1, .int (ps_bI b)), (2, .int (nI i)), (3, .int (nI j))] → W p l e rm_Model_isAsTold s m args below meth c s.heap [] 0 0 Q (F0 m 26 ls []) := by
            intro n_b
            induction n_b with
            | zero => intro j b hj hb2 hf_b; exact absurd hf_b (Nat.not_lt_zero _)
            | succ n_b ih_b =>
              intro j b hj hb2 hf_b ls hl
              refine lv_iload_n hx hb d_Model_isAsTold_26 rfl (lv_at hl 3 rfl) ?_
              refine lv_iload_n hx hb d_Model_isAsTold_27 rfl (lv_at hl 2 rfl) ?_
              refine lv_icmp_ge (tgt := 77) hx hb d_Model_isAsTold_28 (by decide) (fun c_28 => ?_) (fun c_28 => ?_)
              · have hji : j = i := by have := ps_leT c_28 (by omega) (by omega); omega
                refine lv_iinc (v := (nI (i + 1))) (lv' := [(2, .int (nI (i + 1))), (0, .ref (g 0)), (1, .int (ps_bI b)), (3, .int (nI j))]) hx hb d_Model_isAsTold_77 hl (k := 2) rfl (nI_1 _) (by decide) rfl (fun ls hl => ?_)
                refine lv_goto (tgt := 16) hx hb d_Model_isAsTold_80 (by decide) ?_
                exact ih_a (i + 1) b (by omega) (by rw [hb2, hji, pm_at_n]) (by omega)  ls (lv_sub hl [1, 2, 0] rfl)
              · have hji : j < i := ps_ltOf c_28 (by omega) (by omega)
                refine lv_iload_n hx hb d_Model_isAsTold_31 rfl (lv_at hl 1 rfl) ?_
                refine lv_if_eq (tgt := 69) hx hb d_Model_isAsTold_32 (by decide) (fun c_32 => ?_) (fun c_32 => ?_)
                · have eb : b = false := ps_bI_0.mp c_32
                  refine lv_iconst (v := nI 0) hx hb d_Model_isAsTold_69 (by decide) ?_
                  refine lv_istore_n (lv' := [(1, .int (nI 0)), (0, .ref (g 0)), (2, .int (nI i)), (3, .int (nI j))]) hx hb d_Model_isAsTold_70 rfl hl (by decide) rfl (fun ls hl => ?_)
                  refine lv_iinc (v := (nI (j + 1))) (lv' := [(3, .int (nI (j + 1))), (1, .int (nI 0)), (0, .ref (g 0)), (2, .int (nI i))]) hx hb d_Model_isAsTold_71 hl (k := 3) rfl (nI_1 _) (by decide) rfl (fun ls hl => ?_)
                  refine lv_goto (tgt := 26) hx hb d_Model_isAsTold_74 (by decide) ?_
                  exact ih_b (j + 1) false (by omega) (by rw [pm_at_s, ← hb2, eb]; exact ⟨fun q => absurd q (by decide), fun q => absurd q.1 (by decide)⟩) (by omega)  ls (lv_sub hl [2, 1, 3, 0] rfl)
                · have eb : b = true := ps_bI_n0.mp c_32
                  refine lv_aload_n hx hb d_Model_isAsTold_35 rfl (lv_at hl 0 rfl) ?_
                  refine ps_get (v := .ref (g 8)) hx hb hT i_Model hown hK hP (k := 0) (by decide) pm_E_0 rfl 17 (by decide) (hT _ fl_Model_42) (fun _ h9 => h9) rfl d_Model_isAsTold_36 ?_
                  refine lv_iload_n hx hb d_Model_isAsTold_39 rfl (lv_at hl 2 rfl) ?_
                  refine ps_iald (f := σ.2.1 8) hx hb hK hP (k := 8) (by decide) 0 pm_E_8 rfl (i := i) (by omega) (by decide) d_Model_isAsTold_40 ?_
                  refine ps_seti (y := nI (R.getD i (0, 0)).1) ((hvg i (by omega)).1) ?_
                  refine lv_aload_n hx hb d_Model_isAsTold_41 rfl (lv_at hl 0 rfl) ?_
                  refine ps_get (v := .ref (g 9)) hx hb hT i_Model hown hK hP (k := 0) (by decide) pm_E_0 rfl 18 (by decide) (hT _ fl_Model_45) (fun _ h9 => h9) rfl d_Model_isAsTold_42 ?_
                  refine lv_iload_n hx hb d_Model_isAsTold_45 rfl (lv_at hl 3 rfl) ?_
                  refine ps_iald (f := σ.2.1 9) hx hb hK hP (k := 9) (by decide) 0 pm_E_9 rfl (i := j) (by omega) (by decide) d_Model_isAsTold_46 ?_
                  refine ps_seti (y := nI (R.getD j (0, 0)).2) ((hvg j (by omega)).2) ?_
                  refine lv_icmp_gt (tgt := 65) hx hb d_Model_isAsTold_47 (by decide) (fun c_47 => ?_) (fun c_47 => ?_)
                  · have hap : pm_ap R i j := Or.inl (ps_ltT c_47 (by have := hbd i (by omega); have := hbd j (by omega); omega) (by have := hbd i (by omega); have := hbd j (by omega); omega))
                    refine lv_iconst (v := nI 1) hx hb d_Model_isAsTold_65 (by decide) ?_
                    refine lv_goto (tgt := 70) hx hb d_Model_isAsTold_66 (by decide) ?_
                    refine lv_istore_n (lv' := [(1, .int (nI 1)), (0, .ref (g 0)), (2, .int (nI i)), (3, .int (nI j))]) hx hb d_Model_isAsTold_70 rfl hl (by decide) rfl (fun ls hl => ?_)
                    refine lv_iinc (v := (nI (j + 1))) (lv' := [(3, .int (nI (j + 1))), (1, .int (nI 1)), (0, .ref (g 0)), (2, .int (nI i))]) hx hb d_Model_isAsTold_71 hl (k := 3) rfl (nI_1 _) (by decide) rfl (fun ls hl => ?_)
                    refine lv_goto (tgt := 26) hx hb d_Model_isAsTold_74 (by decide) ?_
                    exact ih_b (j + 1) true (by omega) (by rw [pm_at_s, ← hb2, eb]; exact ⟨fun _ => ⟨rfl, hap⟩, fun _ => rfl⟩) (by omega)  ls (lv_sub hl [2, 1, 3, 0] rfl)
                  · have hn1 := ps_leOf c_47 (by have := hbd i (by omega); have := hbd j (by omega); omega) (by have := hbd i (by omega); have := hbd j (by omega); omega)
                    refine lv_aload_n hx hb d_Model_isAsTold_50 rfl (lv_at hl 0 rfl) ?_
                    refine ps_get (v := .ref (g 8)) hx hb hT i_Model hown hK hP (k := 0) (by decide) pm_E_0 rfl 17 (by decide) (hT _ fl_Model_42) (fun _ h9 => h9) rfl d_Model_isAsTold_51 ?_
                    refine lv_iload_n hx hb d_Model_isAsTold_54 rfl (lv_at hl 3 rfl) ?_
                    refine ps_iald (f := σ.2.1 8) hx hb hK hP (k := 8) (by decide) 0 pm_E_8 rfl (i := j) (by omega) (by decide) d_Model_isAsTold_55 ?_
                    refine ps_seti (y := nI (R.getD j (0, 0)).1) ((hvg j (by omega)).1) ?_
                    refine lv_aload_n hx hb d_Model_isAsTold_56 rfl (lv_at hl 0 rfl) ?_
                    refine ps_get (v := .ref (g 9)) hx hb hT i_Model hown hK hP (k := 0) (by decide) pm_E_0 rfl 18 (by decide) (hT _ fl_Model_45) (fun _ h9 => h9) rfl d_Model_isAsTold_57 ?_
                    refine lv_iload_n hx hb d_Model_isAsTold_60 rfl (lv_at hl 2 rfl) ?_
                    refine ps_iald (f := σ.2.1 9) hx hb hK hP (k := 9) (by decide) 0 pm_E_9 rfl (i := i) (by omega) (by decide) d_Model_isAsTold_61 ?_
                    refine ps_seti (y := nI (R.getD i (0, 0)).2) ((hvg i (by omega)).2) ?_
                    refine lv_icmp_le (tgt := 69) hx hb d_Model_isAsTold_62 (by decide) (fun c_62 => ?_) (fun c_62 => ?_)
                    · have hap : ¬ pm_ap R i j := fun q => by have h9 := ps_leT c_62 (by have := hbd i (by omega); have := hbd j (by omega); omega) (by have := hbd i (by omega); have := hbd j (by omega); omega); unfold pm_ap at q; omega
                      refine lv_iconst (v := nI 0) hx hb d_Model_isAsTold_69 (by decide) ?_
                      refine lv_istore_n (lv' := [(1, .int (nI 0)), (0, .ref (g 0)), (2, .int (nI i)), (3, .int (nI j))]) hx hb d_Model_isAsTold_70 rfl hl (by decide) rfl (fun ls hl => ?_)
                      refine lv_iinc (v := (nI (j + 1))) (lv' := [(3, .int (nI (j + 1))), (1, .int (nI 0)), (0, .ref (g 0)), (2, .int (nI i))]) hx hb d_Model_isAsTold_71 hl (k := 3) rfl (nI_1 _) (by decide) rfl (fun ls hl => ?_)
                      refine lv_goto (tgt := 26) hx hb d_Model_isAsTold_74 (by decide) ?_
                      exact ih_b (j + 1) false (by omega) (by rw [pm_at_s]; exact ⟨fun q => absurd q (by decide), fun q => absurd q.2 hap⟩) (by omega)  ls (lv_sub hl [2, 1, 3, 0] rfl)
                    · have hap : pm_ap R i j := Or.inr (Nat.not_le.mp (fun q => c_62 (nI_le q (by have := hbd i (by omega); have := hbd j (by omega); omega))))
                      refine lv_iconst (v := nI 1) hx hb d_Model_isAsTold_65 (by decide) ?_
                      refine lv_goto (tgt := 70) hx hb d_Model_isAsTold_66 (by decide) ?_
                      refine lv_istore_n (lv' := [(1, .int (nI 1)), (0, .ref (g 0)), (2, .int (nI i)), (3, .int (nI j))]) hx hb d_Model_isAsTold_70 rfl hl (by decide) rfl (fun ls hl => ?_)
                      refine lv_iinc (v := (nI (j + 1))) (lv' := [(3, .int (nI (j + 1))), (1, .int (nI 1)), (0, .ref (g 0)), (2, .int (nI i))]) hx hb d_Model_isAsTold_71 hl (k := 3) rfl (nI_1 _) (by decide) rfl (fun ls hl => ?_)
                      refine lv_goto (tgt := 26) hx hb d_Model_isAsTold_74 (by decide) ?_
                      exact ih_b (j + 1) true (by omega) (by rw [pm_at_s, ← hb2, eb]; exact ⟨fun _ => ⟨rfl, hap⟩, fun _ => rfl⟩) (by omega)  ls (lv_sub hl [2, 1, 3, 0] rfl)
          exact L_b (i - 0 + 1) 0 b (Nat.zero_le _) hb1 (by omega)  ls (lv_sub hl [1, 2, 3, 0] rfl)
    exact L_a (R.length - 0 + 1) 0 false (Nat.zero_le _) (by rw [pm_at_0]; exact ⟨fun q => absurd q (by decide), fun q => absurd q h3⟩) (by omega)  ls (lv_sub hl [2, 1, 0] rfl)
  · have h3 : R.length ≤ 3 := ps_leOf c_5 (by decide) (by omega)
    refine lv_iconst (v := nI 1) hx hb d_Model_isAsTold_8 (by decide) ?_
    refine lv_goto (tgt := 13) hx hb d_Model_isAsTold_9 (by decide) ?_
    refine lv_istore_n (lv' := [(1, .int (nI 1)), (0, .ref (g 0))]) hx hb d_Model_isAsTold_13 rfl hl (by decide) rfl (fun ls hl => ?_)
    refine lv_iconst (v := nI 0) hx hb d_Model_isAsTold_14 (by decide) ?_
    refine lv_istore_n (lv' := [(2, .int (nI 0)), (1, .int (nI 1)), (0, .ref (g 0))]) hx hb d_Model_isAsTold_15 rfl hl (by decide) rfl (fun ls hl => ?_)
    have L_a : ∀ (n_a : Nat) (i : Nat) (b : Bool), (i ≤ R.length) → (b = true ↔ pm_at R i 0) → R.length - i < n_a → ∀ (ls : Array Slot), lv_has ls 4 [(0, .ref (g 0)), (1, .int (ps_bI b)), (2, .int (nI i))] → W p l e rm_Model_isAsTold s m args below meth c s.heap [] 0 0 Q (F0 m 16 ls []) := by
      intro n_a
      induction n_a with
      | zero => intro i b hi hb1 hf_a; exact absurd hf_a (Nat.not_lt_zero _)
      | succ n_a ih_a =>
        intro i b hi hb1 hf_a ls hl
        refine lv_iload_n hx hb d_Model_isAsTold_16 rfl (lv_at hl 2 rfl) ?_
        refine lv_aload_n hx hb d_Model_isAsTold_17 rfl (lv_at hl 0 rfl) ?_
        refine ps_get (v := .int (σ.1 16)) hx hb hT i_Model hown hK hP (k := 0) (by decide) pm_E_0 rfl 16 (by decide) (hT _ fl_Model_111) (fun _ h9 => h9) rfl d_Model_isAsTold_18 ?_
        refine ps_seti (y := nI R.length) hrn ?_
        refine lv_icmp_ge (tgt := 83) hx hb d_Model_isAsTold_21 (by decide) (fun c_21 => ?_) (fun c_21 => ?_)
        · have hiR : i = R.length := by have := ps_leT c_21 (by omega) (by omega); omega
          have hbe := hb1.trans (pm_at_e hiR)
          cases b with
          | true =>
            have hl : lv_has ls 4 [(0, .ref (g 0)), (1, .int (nI 1)), (2, .int (nI i))] := hl
            refine lv_iload_n hx hb d_Model_isAsTold_83 rfl (lv_at hl 1 rfl) ?_
            rw [hQ]
            exact W.zret (v := nI 1) (ty := .boolean) hx hb hr (by decide +kernel) (fun zt ht _ => ⟨_, rfl, Or.inl ⟨rfl, hbe.mp rfl⟩, ht⟩) (fun q h => absurd h List.not_mem_nil) d_Model_isAsTold_84
          | false =>
            have hl : lv_has ls 4 [(0, .ref (g 0)), (1, .int (nI 0)), (2, .int (nI i))] := hl
            refine lv_iload_n hx hb d_Model_isAsTold_83 rfl (lv_at hl 1 rfl) ?_
            rw [hQ]
            exact W.zret (v := nI 0) (ty := .boolean) hx hb hr (by decide +kernel) (fun zt ht _ => ⟨_, rfl, Or.inr ⟨rfl, fun q => absurd (hbe.mpr q) (by decide)⟩, ht⟩) (fun q h => absurd h List.not_mem_nil) d_Model_isAsTold_84
        · have hiR : i < R.length := ps_ltOf c_21 (by omega) (by omega)
          refine lv_iconst (v := nI 0) hx hb d_Model_isAsTold_24 (by decide) ?_
          refine lv_istore_n (lv' := [(3, .int (nI 0)), (0, .ref (g 0)), (1, .int (ps_bI b)), (2, .int (nI i))]) hx hb d_Model_isAsTold_25 rfl hl (by decide) rfl (fun ls hl => ?_)
          have L_b : ∀ (n_b : Nat) (j : Nat) (b : Bool), (j ≤ i) → (b = true ↔ pm_at R i j) → i - j < n_b → ∀ (ls : Array Slot), lv_has ls 4 [(0, .ref (g 0)), (1, .int (ps_bI b)), (2, .int (nI i)), (3, .int (nI j))] → W p l e rm_Model_isAsTold s m args below meth c s.heap [] 0 0 Q (F0 m 26 ls []) := by
            intro n_b
            induction n_b with
            | zero => intro j b hj hb2 hf_b; exact absurd hf_b (Nat.not_lt_zero _)
            | succ n_b ih_b =>
              intro j b hj hb2 hf_b ls hl
              refine lv_iload_n hx hb d_Model_isAsTold_26 rfl (lv_at hl 3 rfl) ?_
              refine lv_iload_n hx hb d_Model_isAsTold_27 rfl (lv_at hl 2 rfl) ?_
              refine lv_icmp_ge (tgt := 77) hx hb d_Model_isAsTold_28 (by decide) (fun c_28 => ?_) (fun c_28 => ?_)
              · have hji : j = i := by have := ps_leT c_28 (by omega) (by omega); omega
                refine lv_iinc (v := (nI (i + 1))) (lv' := [(2, .int (nI (i + 1))), (0, .ref (g 0)), (1, .int (ps_bI b)), (3, .int (nI j))]) hx hb d_Model_isAsTold_77 hl (k := 2) rfl (nI_1 _) (by decide) rfl (fun ls hl => ?_)
                refine lv_goto (tgt := 16) hx hb d_Model_isAsTold_80 (by decide) ?_
                exact ih_a (i + 1) b (by omega) (by rw [hb2, hji, pm_at_n]) (by omega)  ls (lv_sub hl [1, 2, 0] rfl)
              · have hji : j < i := ps_ltOf c_28 (by omega) (by omega)
                refine lv_iload_n hx hb d_Model_isAsTold_31 rfl (lv_at hl 1 rfl) ?_
                refine lv_if_eq (tgt := 69) hx hb d_Model_isAsTold_32 (by decide) (fun c_32 => ?_) (fun c_32 => ?_)
                · have eb : b = false := ps_bI_0.mp c_32
                  refine lv_iconst (v := nI 0) hx hb d_Model_isAsTold_69 (by decide) ?_
                  refine lv_istore_n (lv' := [(1, .int (nI 0)), (0, .ref (g 0)), (2, .int (nI i)), (3, .int (nI j))]) hx hb d_Model_isAsTold_70 rfl hl (by decide) rfl (fun ls hl => ?_)
                  refine lv_iinc (v := (nI (j + 1))) (lv' := [(3, .int (nI (j + 1))), (1, .int (nI 0)), (0, .ref (g 0)), (2, .int (nI i))]) hx hb d_Model_isAsTold_71 hl (k := 3) rfl (nI_1 _) (by decide) rfl (fun ls hl => ?_)
                  refine lv_goto (tgt := 26) hx hb d_Model_isAsTold_74 (by decide) ?_
                  exact ih_b (j + 1) false (by omega) (by rw [pm_at_s, ← hb2, eb]; exact ⟨fun q => absurd q (by decide), fun q => absurd q.1 (by decide)⟩) (by omega)  ls (lv_sub hl [2, 1, 3, 0] rfl)
                · have eb : b = true := ps_bI_n0.mp c_32
                  refine lv_aload_n hx hb d_Model_isAsTold_35 rfl (lv_at hl 0 rfl) ?_
                  refine ps_get (v := .ref (g 8)) hx hb hT i_Model hown hK hP (k := 0) (by decide) pm_E_0 rfl 17 (by decide) (hT _ fl_Model_42) (fun _ h9 => h9) rfl d_Model_isAsTold_36 ?_
                  refine lv_iload_n hx hb d_Model_isAsTold_39 rfl (lv_at hl 2 rfl) ?_
                  refine ps_iald (f := σ.2.1 8) hx hb hK hP (k := 8) (by decide) 0 pm_E_8 rfl (i := i) (by omega) (by decide) d_Model_isAsTold_40 ?_
                  refine ps_seti (y := nI (R.getD i (0, 0)).1) ((hvg i (by omega)).1) ?_
                  refine lv_aload_n hx hb d_Model_isAsTold_41 rfl (lv_at hl 0 rfl) ?_
                  refine ps_get (v := .ref (g 9)) hx hb hT i_Model hown hK hP (k := 0) (by decide) pm_E_0 rfl 18 (by decide) (hT _ fl_Model_45) (fun _ h9 => h9) rfl d_Model_isAsTold_42 ?_
                  refine lv_iload_n hx hb d_Model_isAsTold_45 rfl (lv_at hl 3 rfl) ?_
                  refine ps_iald (f := σ.2.1 9) hx hb hK hP (k := 9) (by decide) 0 pm_E_9 rfl (i := j) (by omega) (by decide) d_Model_isAsTold_46 ?_
                  refine ps_seti (y := nI (R.getD j (0, 0)).2) ((hvg j (by omega)).2) ?_
                  refine lv_icmp_gt (tgt := 65) hx hb d_Model_isAsTold_47 (by decide) (fun c_47 => ?_) (fun c_47 => ?_)
                  · have hap : pm_ap R i j := Or.inl (ps_ltT c_47 (by have := hbd i (by omega); have := hbd j (by omega); omega) (by have := hbd i (by omega); have := hbd j (by omega); omega))
                    refine lv_iconst (v := nI 1) hx hb d_Model_isAsTold_65 (by decide) ?_
                    refine lv_goto (tgt := 70) hx hb d_Model_isAsTold_66 (by decide) ?_
                    refine lv_istore_n (lv' := [(1, .int (nI 1)), (0, .ref (g 0)), (2, .int (nI i)), (3, .int (nI j))]) hx hb d_Model_isAsTold_70 rfl hl (by decide) rfl (fun ls hl => ?_)
                    refine lv_iinc (v := (nI (j + 1))) (lv' := [(3, .int (nI (j + 1))), (1, .int (nI 1)), (0, .ref (g 0)), (2, .int (nI i))]) hx hb d_Model_isAsTold_71 hl (k := 3) rfl (nI_1 _) (by decide) rfl (fun ls hl => ?_)
                    refine lv_goto (tgt := 26) hx hb d_Model_isAsTold_74 (by decide) ?_
                    exact ih_b (j + 1) true (by omega) (by rw [pm_at_s, ← hb2, eb]; exact ⟨fun _ => ⟨rfl, hap⟩, fun _ => rfl⟩) (by omega)  ls (lv_sub hl [2, 1, 3, 0] rfl)
                  · have hn1 := ps_leOf c_47 (by have := hbd i (by omega); have := hbd j (by omega); omega) (by have := hbd i (by omega); have := hbd j (by omega); omega)
                    refine lv_aload_n hx hb d_Model_isAsTold_50 rfl (lv_at hl 0 rfl) ?_
                    refine ps_get (v := .ref (g 8)) hx hb hT i_Model hown hK hP (k := 0) (by decide) pm_E_0 rfl 17 (by decide) (hT _ fl_Model_42) (fun _ h9 => h9) rfl d_Model_isAsTold_51 ?_
                    refine lv_iload_n hx hb d_Model_isAsTold_54 rfl (lv_at hl 3 rfl) ?_
                    refine ps_iald (f := σ.2.1 8) hx hb hK hP (k := 8) (by decide) 0 pm_E_8 rfl (i := j) (by omega) (by decide) d_Model_isAsTold_55 ?_
                    refine ps_seti (y := nI (R.getD j (0, 0)).1) ((hvg j (by omega)).1) ?_
                    refine lv_aload_n hx hb d_Model_isAsTold_56 rfl (lv_at hl 0 rfl) ?_
                    refine ps_get (v := .ref (g 9)) hx hb hT i_Model hown hK hP (k := 0) (by decide) pm_E_0 rfl 18 (by decide) (hT _ fl_Model_45) (fun _ h9 => h9) rfl d_Model_isAsTold_57 ?_
                    refine lv_iload_n hx hb d_Model_isAsTold_60 rfl (lv_at hl 2 rfl) ?_
                    refine ps_iald (f := σ.2.1 9) hx hb hK hP (k := 9) (by decide) 0 pm_E_9 rfl (i := i) (by omega) (by decide) d_Model_isAsTold_61 ?_
                    refine ps_seti (y := nI (R.getD i (0, 0)).2) ((hvg i (by omega)).2) ?_
                    refine lv_icmp_le (tgt := 69) hx hb d_Model_isAsTold_62 (by decide) (fun c_62 => ?_) (fun c_62 => ?_)
                    · have hap : ¬ pm_ap R i j := fun q => by have h9 := ps_leT c_62 (by have := hbd i (by omega); have := hbd j (by omega); omega) (by have := hbd i (by omega); have := hbd j (by omega); omega); unfold pm_ap at q; omega
                      refine lv_iconst (v := nI 0) hx hb d_Model_isAsTold_69 (by decide) ?_
                      refine lv_istore_n (lv' := [(1, .int (nI 0)), (0, .ref (g 0)), (2, .int (nI i)), (3, .int (nI j))]) hx hb d_Model_isAsTold_70 rfl hl (by decide) rfl (fun ls hl => ?_)
                      refine lv_iinc (v := (nI (j + 1))) (lv' := [(3, .int (nI (j + 1))), (1, .int (nI 0)), (0, .ref (g 0)), (2, .int (nI i))]) hx hb d_Model_isAsTold_71 hl (k := 3) rfl (nI_1 _) (by decide) rfl (fun ls hl => ?_)
                      refine lv_goto (tgt := 26) hx hb d_Model_isAsTold_74 (by decide) ?_
                      exact ih_b (j + 1) false (by omega) (by rw [pm_at_s]; exact ⟨fun q => absurd q (by decide), fun q => absurd q.2 hap⟩) (by omega)  ls (lv_sub hl [2, 1, 3, 0] rfl)
                    · have hap : pm_ap R i j := Or.inr (Nat.not_le.mp (fun q => c_62 (nI_le q (by have := hbd i (by omega); have := hbd j (by omega); omega))))
                      refine lv_iconst (v := nI 1) hx hb d_Model_isAsTold_65 (by decide) ?_
                      refine lv_goto (tgt := 70) hx hb d_Model_isAsTold_66 (by decide) ?_
                      refine lv_istore_n (lv' := [(1, .int (nI 1)), (0, .ref (g 0)), (2, .int (nI i)), (3, .int (nI j))]) hx hb d_Model_isAsTold_70 rfl hl (by decide) rfl (fun ls hl => ?_)
                      refine lv_iinc (v := (nI (j + 1))) (lv' := [(3, .int (nI (j + 1))), (1, .int (nI 1)), (0, .ref (g 0)), (2, .int (nI i))]) hx hb d_Model_isAsTold_71 hl (k := 3) rfl (nI_1 _) (by decide) rfl (fun ls hl => ?_)
                      refine lv_goto (tgt := 26) hx hb d_Model_isAsTold_74 (by decide) ?_
                      exact ih_b (j + 1) true (by omega) (by rw [pm_at_s, ← hb2, eb]; exact ⟨fun _ => ⟨rfl, hap⟩, fun _ => rfl⟩) (by omega)  ls (lv_sub hl [2, 1, 3, 0] rfl)
          exact L_b (i - 0 + 1) 0 b (Nat.zero_le _) hb1 (by omega)  ls (lv_sub hl [1, 2, 3, 0] rfl)
    exact L_a (R.length - 0 + 1) 0 true (Nat.zero_le _) (by rw [pm_at_0]; exact ⟨fun _ => h3, fun _ => rfl⟩) (by omega)  ls (lv_sub hl [2, 1, 0] rfl)

def rm_Model_spans : Room := { frames := 1, cells := 0, slots := 0, locals := 22 }
abbrev ws_Model_spans : List Cond := .code y_Model_spans b_Model_spans 2 none :: ps_tb
set_option maxHeartbeats 4000000 in
set_option maxRecDepth 100000 in
theorem c_Model_spans {l : Launch} {D : va_G} {g : Nat → Nat} {cI cZ : ClassId} {σ : pm_τ} (hg : ps_inj 13 g) (R : List (Nat × Nat)) (hR6 : R.length ≤ 6) (hrn : σ.1 16 = nI R.length) (hv : pm_rw (σ.2.1 8) (σ.2.1 9) R) (hord : ∀ r ∈ R, r.1 ≤ r.2 ∧ r.2 < 4096) (hw : ∀ q, q < 4096 → σ.2.2 12 q = ps_any R q) : Met l y_Model_spans ws_Model_spans rm_Model_spans (ps_Pc D pm_cl (pm_tys cI cZ) 13 g (pm_E g cI cZ σ) [.ref (g 0)]) (ps_Qv (S := pm_τ) D pm_cl 13 g (fun u => pm_E g cI cZ u) (fun u => pm_sm [16] [8, 9] [] σ u ∧ u.1 16 = nI (ps_spF (ps_any R) 6 0).length ∧ pm_rw (u.2.1 8) (u.2.1 9) (ps_spF (ps_any R) 6 0))) 0 0 (ps_wA 13 g) := by
  refine ps_met (by decide) ?_
  intro p e s m args below meth c hx hb hr hml hts hown hlocks hname hv Q hQ
  obtain ⟨ha, hP, hK⟩ := hv
  have hT : ∀ w ∈ ps_tb, w.before args s = true := fun w h => hts w (List.mem_cons_of_mem _ h)
  have hown : s.vm.findClass R_Model = some m.cls := hown
  have hS : va_S (ps_wA 13 g) s.heap s.heap [] := va_S.rf
  refine ps_enter ha (Nat.le_of_ble_eq_true rfl) (fun ls hl => ?_)
  have hl : lv_has ls 2 [(0, .ref (g 0))] := hl
  refine lv_aload_n hx hb d_Model_spans_0 rfl (lv_at hl 0 rfl) ?_
  refine lv_iconst (v := nI 0) hx hb d_Model_spans_1 (by decide) ?_
  refine ps_put (v := .int (nI 0)) (ty := .int) hx hb hT i_Model t_Model t_Model_ok n_Model hown hK hg hP hS (k := 0) (by decide) pm_E_0 rfl 16 (by decide) (hT _ fl_Model_111) (fun _ h9 => h9) rfl (by decide +kernel) rfl rfl (Nat.le_of_ble_eq_true rfl) d_Model_spans_2 (pm_E g cI cZ (pm_uI σ 16 (nI 0))) (pm_h1 (by decide)) (fun _ _ h => pm_E_uI h) (fun H locs hP hS => ?_)
  refine lv_iconst (v := nI 0) hx hb d_Model_spans_5 (by decide) ?_
  refine lv_istore_n (lv' := [(1, .int (nI 0)), (0, .ref (g 0))]) hx hb d_Model_spans_6 rfl hl (by decide) rfl (fun ls hl => ?_)
  have L_a : ∀ (n_a : Nat) (k : Nat) (A : List (Nat × Nat)) (o : Option (Nat × Nat)) (u : pm_τ), (k ≤ 4096) → (pm_lz (ps_any R) k o) → (ps_plF (ps_any R) 0 4096 0 = A ++ pm_run (ps_any R) 0 (4096 - k) k o) → (pm_sm [16] [8, 9] [] σ u) → (u.1 16 = nI (A ++ o.toList).length) → (pm_rw (u.2.1 8) (u.2.1 9) (A ++ o.toList)) → 4096 - k < n_a → ∀ (H : Heap) (locs : List Loc), va_P D pm_cl (ps_wl 13 g (pm_E g cI cZ u)) H → va_S (ps_wA 13 g) s.heap H locs → ∀ (ls : Array Slot), lv_has ls 2 [(0, .ref (g 0)), (1, .int (nI k))] → W p l e rm_Model_spans s m args below meth c H locs 0 0 Q (F0 m 7 ls []) := by
    intro n_a
    induction n_a with
    | zero => intro k A o u hk hlz hrun hs hru hrw hf_a; exact absurd hf_a (Nat.not_lt_zero _)
    | succ n_a ih_a =>
      intro k A o u hk hlz hrun hs hru hrw hf_a H locs hP hS ls hl
      refine lv_iload_n hx hb d_Model_spans_7 rfl (lv_at hl 1 rfl) ?_
      refine lv_sipush (v := nI 4096) hx hb d_Model_spans_8 (by decide) ?_
      refine lv_icmp_ge (tgt := 68) hx hb d_Model_spans_11 (by decide) (fun c_11 => ?_) (fun c_11 => ?_)
      · have hi9 : k = 4096 := by have := ps_leT c_11 (by omega) (by omega); omega
        rw [hQ]
        exact W.vret hx hb hr (fun zt ht _ => ⟨⟨u, rfl, (by
          have e : ps_spF (ps_any R) 6 0 = (A ++ o.toList) := by rw [pm_spF_all R hR6, hrun, hi9]; rfl
          rw [e]; exact ⟨hs, hru, hrw⟩), ps_hp ht hP⟩, hS.F ht⟩) hS.2.2 d_Model_spans_68
      · have hi9 : k < 4096 := by have := ps_ltOf c_11 (by omega) (by omega); omega
        refine lv_aload_n hx hb d_Model_spans_14 rfl (lv_at hl 0 rfl) ?_
        refine ps_get (v := .ref (g 12)) hx hb hT i_Model hown hK hP (k := 0) (by decide) pm_E_0 rfl 25 (by decide) (hT _ fl_Model_54) (fun _ h9 => h9) rfl d_Model_spans_15 ?_
        refine lv_iload_n hx hb d_Model_spans_18 rfl (lv_at hl 1 rfl) ?_
        refine ps_zald (T := u.2.2 12) hx hb hK hP (k := 12) (by decide) 1 pm_E_12 rfl (i := k) (by omega) (by decide) d_Model_spans_19 ?_
        refine lv_if_ne (tgt := 26) hx hb d_Model_spans_20 (by decide) (fun c_20 => ?_) (fun c_20 => ?_)
        · have hM : ps_any R k = true := by rw [← hw k (by omega), ← hs.2.2 12 (by decide)]; exact ps_bI_n0.mp c_20
          refine lv_iload_n hx hb d_Model_spans_26 rfl (lv_at hl 1 rfl) ?_
          refine lv_if_le (tgt := 56) hx hb d_Model_spans_27 (by decide) (fun c_27 => ?_) (fun c_27 => ?_)
          · have hk0 : k = 0 := ps_le0 (by omega) c_27
            have hgp := pm_lz_off hlz (Or.inl hk0)
            have hcut := pm_run_cutO (A := A) hi9 hM hgp
            have hl6 : (A ++ o.toList).length < 6 := by
              have h1 := pm_sp_len R
              rw [hrun, hcut, List.length_append] at h1
              have h2 := pm_run_len (M := ps_any R) (c := 0) (4096 - (k + 1)) (k + 1) (k, k)
              omega
            refine lv_aload_n hx hb d_Model_spans_56 rfl (lv_at hl 0 rfl) ?_
            refine lv_iload_n hx hb d_Model_spans_57 rfl (lv_at hl 1 rfl) ?_
            refine lv_iload_n hx hb d_Model_spans_58 rfl (lv_at hl 1 rfl) ?_
            refine ps_wrv (k := 0) (As := [.int (nI k), .int (nI k)]) (rest := []) ⟨hx, hb, hml, hown, hT⟩ (c_Model_addRow (σ := u) hg (A ++ o.toList).length hl6 hru (nI k) (nI k)) (cwV 2 hT (ps_gV ml_Model_114 im_Model_addRow se_Model_addRow in_Model co_Model_addRow) rfl rfl rfl cd_Model_addRow ⟨Nat.le_of_ble_eq_true rfl, Nat.le_of_ble_eq_true rfl⟩) hK hP hS (fun _ h => h) (by omega) pm_E_0 rfl rfl hl.1 rfl (Nat.le_of_ble_eq_true rfl) d_Model_spans_59 ⟨Nat.zero_le _, Nat.zero_le _⟩ (fun u5 H locs hu5 hP hS _ => ?_)
            subst hu5
            refine lv_iinc (v := (nI (k + 1))) (lv' := [(1, .int (nI (k + 1))), (0, .ref (g 0))]) hx hb d_Model_spans_62 hl (k := 1) rfl (nI_1 _) (by decide) rfl (fun ls hl => ?_)
            refine lv_goto (tgt := 7) hx hb d_Model_spans_65 (by decide) ?_
            exact ih_a (k + 1) (A ++ o.toList) (some (k, k)) (pm_uI (pm_uA (pm_uA u 8 (va_up (u.2.1 8) (A ++ o.toList).length (nI k))) 9 (va_up (u.2.1 9) (A ++ o.toList).length (nI k))) 16 (nI ((A ++ o.toList).length + 1))) (by omega) (pm_lz_y hM) (by rw [hrun, hcut]) (((hs.A (by decide)).A (by decide)).I (by decide)) (congrArg nI (pm_len1 _ _)) (pm_rw_add hrw) (by omega) _ _ hP hS ls (lv_sub hl [1, 0] rfl)
          · have hk0 : 0 < k := ps_nle0 c_27
            refine lv_aload_n hx hb d_Model_spans_30 rfl (lv_at hl 0 rfl) ?_
            refine ps_get (v := .ref (g 12)) hx hb hT i_Model hown hK hP (k := 0) (by decide) pm_E_0 rfl 25 (by decide) (hT _ fl_Model_54) (fun _ h9 => h9) rfl d_Model_spans_31 ?_
            refine lv_iload_n hx hb d_Model_spans_34 rfl (lv_at hl 1 rfl) ?_
            refine lv_iconst (v := nI 1) hx hb d_Model_spans_35 (by decide) ?_
            refine lv_isub hx hb d_Model_spans_36 ?_
            refine ps_seti (y := nI (k - 1)) (pk_sub hk0) ?_
            refine ps_zald (T := u.2.2 12) hx hb hK hP (k := 12) (by decide) 1 pm_E_12 rfl (i := (k - 1)) (by omega) (by decide) d_Model_spans_37 ?_
            refine lv_if_eq (tgt := 56) hx hb d_Model_spans_38 (by decide) (fun c_38 => ?_) (fun c_38 => ?_)
            · have hM1 : ps_any R (k - 1) = false := by rw [← hw (k - 1) (by omega), ← hs.2.2 12 (by decide)]; exact ps_bI_0.mp c_38
              have hgp := pm_lz_off hlz (Or.inr hM1)
              have hcut := pm_run_cutO (A := A) hi9 hM hgp
              have hl6 : (A ++ o.toList).length < 6 := by
                have h1 := pm_sp_len R
                rw [hrun, hcut, List.length_append] at h1
                have h2 := pm_run_len (M := ps_any R) (c := 0) (4096 - (k + 1)) (k + 1) (k, k)
                omega
              refine lv_aload_n hx hb d_Model_spans_56 rfl (lv_at hl 0 rfl) ?_
              refine lv_iload_n hx hb d_Model_spans_57 rfl (lv_at hl 1 rfl) ?_
              refine lv_iload_n hx hb d_Model_spans_58 rfl (lv_at hl 1 rfl) ?_
              refine ps_wrv (k := 0) (As := [.int (nI k), .int (nI k)]) (rest := []) ⟨hx, hb, hml, hown, hT⟩ (c_Model_addRow (σ := u) hg (A ++ o.toList).length hl6 hru (nI k) (nI k)) (cwV 2 hT (ps_gV ml_Model_114 im_Model_addRow se_Model_addRow in_Model co_Model_addRow) rfl rfl rfl cd_Model_addRow ⟨Nat.le_of_ble_eq_true rfl, Nat.le_of_ble_eq_true rfl⟩) hK hP hS (fun _ h => h) (by omega) pm_E_0 rfl rfl hl.1 rfl (Nat.le_of_ble_eq_true rfl) d_Model_spans_59 ⟨Nat.zero_le _, Nat.zero_le _⟩ (fun u5 H locs hu5 hP hS _ => ?_)
              subst hu5
              refine lv_iinc (v := (nI (k + 1))) (lv' := [(1, .int (nI (k + 1))), (0, .ref (g 0))]) hx hb d_Model_spans_62 hl (k := 1) rfl (nI_1 _) (by decide) rfl (fun ls hl => ?_)
              refine lv_goto (tgt := 7) hx hb d_Model_spans_65 (by decide) ?_
              exact ih_a (k + 1) (A ++ o.toList) (some (k, k)) (pm_uI (pm_uA (pm_uA u 8 (va_up (u.2.1 8) (A ++ o.toList).length (nI k))) 9 (va_up (u.2.1 9) (A ++ o.toList).length (nI k))) 16 (nI ((A ++ o.toList).length + 1))) (by omega) (pm_lz_y hM) (by rw [hrun, hcut]) (((hs.A (by decide)).A (by decide)).I (by decide)) (congrArg nI (pm_len1 _ _)) (pm_rw_add hrw) (by omega) _ _ hP hS ls (lv_sub hl [1, 0] rfl)
            · have hM1 : ps_any R (k - 1) = true := by rw [← hw (k - 1) (by omega), ← hs.2.2 12 (by decide)]; exact ps_bI_n0.mp c_38
              obtain ⟨r, rfl, hrk⟩ := pm_lz_on hlz hk0 hM1
              refine lv_aload_n hx hb d_Model_spans_41 rfl (lv_at hl 0 rfl) ?_
              refine ps_get (v := .ref (g 9)) hx hb hT i_Model hown hK hP (k := 0) (by decide) pm_E_0 rfl 18 (by decide) (hT _ fl_Model_45) (fun _ h9 => h9) rfl d_Model_spans_42 ?_
              refine lv_aload_n hx hb d_Model_spans_45 rfl (lv_at hl 0 rfl) ?_
              refine ps_get (v := .int (u.1 16)) hx hb hT i_Model hown hK hP (k := 0) (by decide) pm_E_0 rfl 16 (by decide) (hT _ fl_Model_111) (fun _ h9 => h9) rfl d_Model_spans_46 ?_
              refine ps_seti (y := nI (A.length + 1)) (by rw [hru]; simp) ?_
              refine lv_iconst (v := nI 1) hx hb d_Model_spans_49 (by decide) ?_
              refine lv_isub hx hb d_Model_spans_50 ?_
              refine ps_seti (y := nI A.length) (by rw [pk_sub (by omega), Nat.add_sub_cancel]) ?_
              refine lv_iload_n hx hb d_Model_spans_51 rfl (lv_at hl 1 rfl) ?_
              refine ps_iast (f := u.2.1 9) hx hb hK hg hP hS (k := 9) (by decide) 0 pm_E_9 rfl (i := A.length) (by have h1 := pm_sp_len R; rw [hrun, pm_run_onO hi9 hM (by omega), List.length_append] at h1; have h2 := pm_run_len (M := ps_any R) (c := 0) (4096 - (k + 1)) (k + 1) (r.1, k); omega) (by decide) d_Model_spans_52 (pm_E g cI cZ (pm_uA u 9 (va_up (u.2.1 9) A.length (nI k)))) rfl (fun _ _ h => pm_E_uA h) (fun H locs hP hS => ?_)
              refine lv_goto (tgt := 62) hx hb d_Model_spans_53 (by decide) ?_
              refine lv_iinc (v := (nI (k + 1))) (lv' := [(1, .int (nI (k + 1))), (0, .ref (g 0))]) hx hb d_Model_spans_62 hl (k := 1) rfl (nI_1 _) (by decide) rfl (fun ls hl => ?_)
              refine lv_goto (tgt := 7) hx hb d_Model_spans_65 (by decide) ?_
              exact ih_a (k + 1) A (some (r.1, k)) (pm_uA u 9 (va_up (u.2.1 9) A.length (nI k))) (by omega) (pm_lz_y hM) (by rw [hrun, pm_run_onO hi9 hM (by omega)]) (hs.A (by decide)) (by show u.1 16 = _; rw [hru]; simp) (pm_rw_mv hrw) (by omega) _ _ hP hS ls (lv_sub hl [1, 0] rfl)
        · have hM : ps_any R k = false := by rw [← hw k (by omega), ← hs.2.2 12 (by decide)]; exact ps_bI_0.mp c_20
          refine lv_goto (tgt := 62) hx hb d_Model_spans_23 (by decide) ?_
          refine lv_iinc (v := (nI (k + 1))) (lv' := [(1, .int (nI (k + 1))), (0, .ref (g 0))]) hx hb d_Model_spans_62 hl (k := 1) rfl (nI_1 _) (by decide) rfl (fun ls hl => ?_)
          refine lv_goto (tgt := 7) hx hb d_Model_spans_65 (by decide) ?_
          exact ih_a (k + 1) A o u (by omega) (hlz.no hM) (by rw [hrun, pm_run_no hi9 hM]) hs hru hrw (by omega) _ _ hP hS ls (lv_sub hl [1, 0] rfl)
  exact L_a (4096 - 0 + 1) 0 ([]) none (pm_uI σ 16 (nI 0)) (Nat.zero_le _) (pm_lz_0 _) (((pm_run_eq 4096 0 rfl).1).symm) ((pm_sm_rf _ _ _ _).I (by decide)) rfl (pm_rw_0 _ _) (by omega) _ _ hP hS ls (lv_sub hl [1, 0] rfl)
