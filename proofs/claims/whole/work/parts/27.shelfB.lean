theorem ml_Shelf_174 : (.methodLink R_Shelf 174 y_Places_isEmpty : Cond) ∈ ps_tb := ps_in 231 (by decide +kernel) rfl
theorem co_Places_isEmpty : (.code y_Places_isEmpty b_Places_isEmpty 1 (some .boolean) : Cond) ∈ ps_tb := ps_in 234 (by decide +kernel) rfl
theorem im_Places_isEmpty : (.instanceMethod y_Places_isEmpty : Cond) ∈ ps_tb := ps_in 232 (by decide +kernel) rfl
theorem se_Places_isEmpty : (.selects R_Places y_Places_isEmpty y_Places_isEmpty : Cond) ∈ ps_tb := ps_in 233 (by decide +kernel) rfl
theorem fl_Shelf_161 : (.fieldLink R_Shelf 161 R_Thing "used" "J" : Cond) ∈ ps_tb := ps_in 70 (by decide +kernel) rfl
theorem fl_Shelf_37 : (.fieldLink R_Shelf 37 R_Shelf "uses" "J" : Cond) ∈ ps_tb := ps_in 136 (by decide +kernel) rfl
theorem cd_Places_isEmpty : y_Places_isEmpty.cls = R_Places ∧ y_Places_isEmpty.cls ≠ "java/lang/invoke/MethodHandle" ∧ y_Places_isEmpty.cls ≠ "java/lang/invoke/VarHandle" ∧ (parseMethodDescriptor y_Places_isEmpty.desc).map (fun d => d.parameters.length) = some 0 := by decide +kernel
def rm_Shelf_longestUnused : Room := { frames := 4, cells := 0, slots := 0, locals := 89 }
abbrev ws_Shelf_longestUnused : List Cond := .code y_Shelf_longestUnused b_Shelf_longestUnused 4 (some (.object "PieceShelf$Thing")) :: ps_tb
set_option maxHeartbeats 4000000 in
set_option maxRecDepth 100000 in
theorem c_Shelf_longestUnused {l : Launch} {D : va_G} {g : Nat → Nat} {cI cJ cT : ClassId} {σ : ps_σ}  : Met l y_Shelf_longestUnused ws_Shelf_longestUnused rm_Shelf_longestUnused (ps_Pc D ps_cl (ps_tys cI cJ cT) 33 g (ps_E g cI cJ cT σ) [.ref (g 0)]) (va_Sq (fun r => r = Option.map (fun t => g (9 + t)) (ps_oldF (ps_US σ) (ps_SS σ) 6))) 0 0 (fun _ => False) := by
  refine ps_met (by decide) ?_
  intro p e s m args below meth c hx hb hr hml hts hown hlocks hname hv Q hQ
  obtain ⟨ha, hP, hK⟩ := hv
  have hT : ∀ w ∈ ps_tb, w.before args s = true := fun w h => hts w (List.mem_cons_of_mem _ h)
  have hown : s.vm.findClass R_Shelf = some m.cls := hown
  refine ps_enter ha (Nat.le_of_ble_eq_true rfl) (fun ls hl => ?_)
  have hl : lv_has ls 4 [(0, .ref (g 0))] := hl
  refine lv_null hx hb d_Shelf_longestUnused_0 ?_
  refine lv_astore_nN (lv' := [(1, .null), (0, .ref (g 0))]) hx hb d_Shelf_longestUnused_1 rfl hl (by decide) rfl (fun ls hl => ?_)
  refine lv_iconst (v := nI 0) hx hb d_Shelf_longestUnused_2 (by decide) ?_
  refine lv_istore_n (lv' := [(2, .int (nI 0)), (1, .null), (0, .ref (g 0))]) hx hb d_Shelf_longestUnused_3 rfl hl (by decide) rfl (fun ls hl => ?_)
  have L_a : ∀ (n_a : Nat) (i : Nat) (o : Option Nat), (i ≤ 6) → (ps_oldF (ps_US σ) (ps_SS σ) i = o) → 6 - i < n_a → ∀ (ls : Array Slot), lv_has ls 4 [(0, .ref (g 0)), (1, va_rf (Option.map (fun t => g (9 + t)) o)), (2, .int (nI i))] → W p l e rm_Shelf_longestUnused s m args below meth c s.heap [] 0 0 Q (F0 m 4 ls []) := by
    intro n_a
    induction n_a with
    | zero => intro i o hi ho hf_a; exact absurd hf_a (Nat.not_lt_zero _)
    | succ n_a ih_a =>
      intro i o hi ho hf_a ls hl
      refine lv_iload_n hx hb d_Shelf_longestUnused_4 rfl (lv_at hl 2 rfl) ?_
      cases o with
      | none =>
        have hl : lv_has ls 4 [(0, .ref (g 0)), (1, .null), (2, .int (nI i))] := hl
        refine lv_bipush (v := nI 6) hx hb d_Shelf_longestUnused_5 (by decide) ?_
        refine lv_icmp_ge (tgt := 51) hx hb d_Shelf_longestUnused_7 (by decide) (fun c_7 => ?_) (fun c_7 => ?_)
        · have hi6 : i = 6 := by have := ps_leT c_7 (by omega) (by omega); omega
          refine lv_aload_nN hx hb d_Shelf_longestUnused_51 rfl (lv_at hl 1 rfl) ?_
          rw [hQ]
          exact W.aret (v := .null) hx hb hr (Or.inl ⟨_, rfl⟩) (Or.inl rfl) (fun zt ht _ => ⟨_, rfl, by rw [← hi6, ho], ht⟩) (fun q h => absurd h List.not_mem_nil) d_Shelf_longestUnused_52
        · have hi6 : i < 6 := by have := ps_ltOf c_7 (by omega) (by omega); omega
          refine lv_aload_n hx hb d_Shelf_longestUnused_10 rfl (lv_at hl 0 rfl) ?_
          refine ps_get (v := .ref (g 5)) hx hb hT i_Shelf hown hK hP (k := 0) (by omega) ps_E_0 rfl 1 (by decide) (hT _ fl_Shelf_18) (fun _ h9 => h9) rfl d_Shelf_longestUnused_11 ?_
          refine lv_iload_n hx hb d_Shelf_longestUnused_14 rfl (lv_at hl 2 rfl) ?_
          refine ps_aald hx hb hK hP (k := 5) (by omega) 2 ps_E_5 rfl (i := i) (by omega) (by decide) (a := g (9 + i)) rfl d_Shelf_longestUnused_15 ?_
          refine lv_astore_n (lv' := [(3, .ref (g (9 + i))), (0, .ref (g 0)), (1, .null), (2, .int (nI i))]) hx hb d_Shelf_longestUnused_16 rfl hl (by decide) rfl (fun ls hl => ?_)
          refine lv_aload_n hx hb d_Shelf_longestUnused_17 rfl (lv_at hl 0 rfl) ?_
          refine ps_get (v := .ref (g (15 + i))) hx hb hT i_Thing hown hK hP (k := 9 + i) (by omega) (ps_E_th (by omega)) rfl 0 (by decide) (hT _ fl_Shelf_60) (fun _ h9 => h9) rfl d_Shelf_longestUnused_18 ?_
          refine ps_roi (k := 15 + i) (As := []) (rest := []) ⟨hx, hb, hml, hown, hT⟩ (c_Places_isEmpty i (by omega)) (cwV 0 hT (ps_gV ml_Shelf_174 im_Places_isEmpty se_Places_isEmpty in_Places co_Places_isEmpty) rfl rfl rfl cd_Places_isEmpty ⟨Nat.le_of_ble_eq_true rfl, Nat.le_of_ble_eq_true rfl⟩) hK hP (by omega) (ps_E_pl (by omega)) rfl rfl hl.1 rfl (Nat.le_of_ble_eq_true rfl) d_Shelf_longestUnused_21 ⟨Nat.zero_le _, Nat.zero_le _⟩ (fun rr hrr => ?_)
          refine lv_if_ne (tgt := 45) hx hb d_Shelf_longestUnused_24 (by decide) (fun c_24 => ?_) (fun c_24 => ?_)
          · have hem : ps_nx (ps_SS σ i) true 0 = 4096 := of_decide_eq_true (ps_bI_n0.mp (by rw [← hrr]; exact c_24))
            refine lv_iinc (v := (nI (i + 1))) (lv' := [(2, .int (nI (i + 1))), (3, .ref (g (9 + i))), (0, .ref (g 0)), (1, .null)]) hx hb d_Shelf_longestUnused_45 hl (k := 3) rfl (nI_1 _) (by decide) rfl (fun ls hl => ?_)
            refine lv_goto (tgt := 4) hx hb d_Shelf_longestUnused_48 (by decide) ?_
            exact ih_a (i + 1) none (by omega) ((ps_oldF_e hem).trans ho) (by omega)  ls (lv_sub hl [2, 3, 0] rfl)
          · have hne : ¬ ps_nx (ps_SS σ i) true 0 = 4096 := of_decide_eq_false (ps_bI_0.mp (by rw [← hrr]; exact c_24))
            refine lv_aload_nN hx hb d_Shelf_longestUnused_27 rfl (lv_at hl 2 rfl) ?_
            refine lv_ifnullN (tgt := 43) hx hb d_Shelf_longestUnused_28 (by decide) ?_
            refine lv_aload_n hx hb d_Shelf_longestUnused_43 rfl (lv_at hl 0 rfl) ?_
            refine lv_astore_n (lv' := [(1, .ref (g (9 + i))), (3, .ref (g (9 + i))), (0, .ref (g 0)), (2, .int (nI i))]) hx hb d_Shelf_longestUnused_44 rfl hl (by decide) rfl (fun ls hl => ?_)
            refine lv_iinc (v := (nI (i + 1))) (lv' := [(2, .int (nI (i + 1))), (1, .ref (g (9 + i))), (3, .ref (g (9 + i))), (0, .ref (g 0))]) hx hb d_Shelf_longestUnused_45 hl (k := 3) rfl (nI_1 _) (by decide) rfl (fun ls hl => ?_)
            refine lv_goto (tgt := 4) hx hb d_Shelf_longestUnused_48 (by decide) ?_
            exact ih_a (i + 1) (some i) (by omega) (ps_oldF_n hne ho) (by omega)  ls (lv_sub hl [3, 1, 0] rfl)
      | some o1 =>
        have hl : lv_has ls 4 [(0, .ref (g 0)), (1, .ref (g (9 + o1))), (2, .int (nI i))] := hl
        have ho1 : o1 < 6 := by have := ps_oldF_lt _ _ _ _ ho; omega
        refine lv_bipush (v := nI 6) hx hb d_Shelf_longestUnused_5 (by decide) ?_
        refine lv_icmp_ge (tgt := 51) hx hb d_Shelf_longestUnused_7 (by decide) (fun c_7 => ?_) (fun c_7 => ?_)
        · have hi6 : i = 6 := by have := ps_leT c_7 (by omega) (by omega); omega
          refine lv_aload_n hx hb d_Shelf_longestUnused_51 rfl (lv_at hl 1 rfl) ?_
          rw [hQ]
          exact W.aret (v := .ref (g (9 + o1))) hx hb hr (Or.inl ⟨_, rfl⟩) (Or.inr ⟨_, rfl⟩) (fun zt ht _ => ⟨_, rfl, by rw [← hi6, ho], ht⟩) (fun q h => absurd h List.not_mem_nil) d_Shelf_longestUnused_52
        · have hi6 : i < 6 := by have := ps_ltOf c_7 (by omega) (by omega); omega
          refine lv_aload_n hx hb d_Shelf_longestUnused_10 rfl (lv_at hl 0 rfl) ?_
          refine ps_get (v := .ref (g 5)) hx hb hT i_Shelf hown hK hP (k := 0) (by omega) ps_E_0 rfl 1 (by decide) (hT _ fl_Shelf_18) (fun _ h9 => h9) rfl d_Shelf_longestUnused_11 ?_
          refine lv_iload_n hx hb d_Shelf_longestUnused_14 rfl (lv_at hl 2 rfl) ?_
          refine ps_aald hx hb hK hP (k := 5) (by omega) 2 ps_E_5 rfl (i := i) (by omega) (by decide) (a := g (9 + i)) rfl d_Shelf_longestUnused_15 ?_
          refine lv_astore_n (lv' := [(3, .ref (g (9 + i))), (0, .ref (g 0)), (1, .ref (g (9 + o1))), (2, .int (nI i))]) hx hb d_Shelf_longestUnused_16 rfl hl (by decide) rfl (fun ls hl => ?_)
          refine lv_aload_n hx hb d_Shelf_longestUnused_17 rfl (lv_at hl 0 rfl) ?_
          refine ps_get (v := .ref (g (15 + i))) hx hb hT i_Thing hown hK hP (k := 9 + i) (by omega) (ps_E_th (by omega)) rfl 0 (by decide) (hT _ fl_Shelf_60) (fun _ h9 => h9) rfl d_Shelf_longestUnused_18 ?_
          refine ps_roi (k := 15 + i) (As := []) (rest := []) ⟨hx, hb, hml, hown, hT⟩ (c_Places_isEmpty i (by omega)) (cwV 0 hT (ps_gV ml_Shelf_174 im_Places_isEmpty se_Places_isEmpty in_Places co_Places_isEmpty) rfl rfl rfl cd_Places_isEmpty ⟨Nat.le_of_ble_eq_true rfl, Nat.le_of_ble_eq_true rfl⟩) hK hP (by omega) (ps_E_pl (by omega)) rfl rfl hl.1 rfl (Nat.le_of_ble_eq_true rfl) d_Shelf_longestUnused_21 ⟨Nat.zero_le _, Nat.zero_le _⟩ (fun rr hrr => ?_)
          refine lv_if_ne (tgt := 45) hx hb d_Shelf_longestUnused_24 (by decide) (fun c_24 => ?_) (fun c_24 => ?_)
          · have hem : ps_nx (ps_SS σ i) true 0 = 4096 := of_decide_eq_true (ps_bI_n0.mp (by rw [← hrr]; exact c_24))
            refine lv_iinc (v := (nI (i + 1))) (lv' := [(2, .int (nI (i + 1))), (3, .ref (g (9 + i))), (0, .ref (g 0)), (1, .ref (g (9 + o1)))]) hx hb d_Shelf_longestUnused_45 hl (k := 3) rfl (nI_1 _) (by decide) rfl (fun ls hl => ?_)
            refine lv_goto (tgt := 4) hx hb d_Shelf_longestUnused_48 (by decide) ?_
            exact ih_a (i + 1) (some o1) (by omega) ((ps_oldF_e hem).trans ho) (by omega)  ls (lv_sub hl [2, 3, 0] rfl)
          · have hne : ¬ ps_nx (ps_SS σ i) true 0 = 4096 := of_decide_eq_false (ps_bI_0.mp (by rw [← hrr]; exact c_24))
            refine lv_aload_n hx hb d_Shelf_longestUnused_27 rfl (lv_at hl 2 rfl) ?_
            refine lv_ifnull hx hb d_Shelf_longestUnused_28 ?_
            refine lv_aload_n hx hb d_Shelf_longestUnused_31 rfl (lv_at hl 0 rfl) ?_
            refine ps_get (v := .long (σ.2.1 (9 + i))) hx hb hT i_Thing hown hK hP (k := 9 + i) (by omega) (ps_E_th (by omega)) rfl 3 (by decide) (hT _ fl_Shelf_161) (fun _ h9 => h9) rfl d_Shelf_longestUnused_32 ?_
            refine lv_aload_n hx hb d_Shelf_longestUnused_35 rfl (lv_at hl 2 rfl) ?_
            refine ps_get (v := .long (σ.2.1 (9 + o1))) hx hb hT i_Thing hown hK hP (k := 9 + o1) (by omega) (ps_E_th ho1) rfl 3 (by decide) (hT _ fl_Shelf_161) (fun _ h9 => h9) rfl d_Shelf_longestUnused_36 ?_
            refine W.lcmp hx hb d_Shelf_longestUnused_39 ?_
            refine lv_if_ge (tgt := 45) hx hb d_Shelf_longestUnused_40 (by decide) (fun c_40 => ?_) (fun c_40 => ?_)
            · rw [ps_lcmpge] at c_40
              refine lv_iinc (v := (nI (i + 1))) (lv' := [(2, .int (nI (i + 1))), (3, .ref (g (9 + i))), (0, .ref (g 0)), (1, .ref (g (9 + o1)))]) hx hb d_Shelf_longestUnused_45 hl (k := 3) rfl (nI_1 _) (by decide) rfl (fun ls hl => ?_)
              refine lv_goto (tgt := 4) hx hb d_Shelf_longestUnused_48 (by decide) ?_
              exact ih_a (i + 1) (some o1) (by omega) ((ps_oldF_s hne ho).trans (if_neg c_40)) (by omega)  ls (lv_sub hl [2, 3, 0] rfl)
            · rw [ps_lcmpge, Classical.not_not] at c_40
              refine lv_aload_n hx hb d_Shelf_longestUnused_43 rfl (lv_at hl 0 rfl) ?_
              refine lv_astore_n (lv' := [(1, .ref (g (9 + i))), (3, .ref (g (9 + i))), (0, .ref (g 0)), (2, .int (nI i))]) hx hb d_Shelf_longestUnused_44 rfl hl (by decide) rfl (fun ls hl => ?_)
              refine lv_iinc (v := (nI (i + 1))) (lv' := [(2, .int (nI (i + 1))), (1, .ref (g (9 + i))), (3, .ref (g (9 + i))), (0, .ref (g 0))]) hx hb d_Shelf_longestUnused_45 hl (k := 3) rfl (nI_1 _) (by decide) rfl (fun ls hl => ?_)
              refine lv_goto (tgt := 4) hx hb d_Shelf_longestUnused_48 (by decide) ?_
              exact ih_a (i + 1) (some i) (by omega) ((ps_oldF_s hne ho).trans (if_pos c_40)) (by omega)  ls (lv_sub hl [3, 1, 0] rfl)
  exact L_a (6 - 0 + 1) 0 none (by omega) rfl (by omega)  ls (lv_sub hl [2, 1, 0] rfl)

def rm_Shelf_noteUse : Room := { frames := 0, cells := 0, slots := 0, locals := 0 }
abbrev ws_Shelf_noteUse : List Cond := .code y_Shelf_noteUse b_Shelf_noteUse 2 none :: ps_tb
set_option maxHeartbeats 4000000 in
set_option maxRecDepth 100000 in
theorem c_Shelf_noteUse {l : Launch} {D : va_G} {g : Nat → Nat} {cI cJ cT : ClassId} {σ : ps_σ} (hg : ps_inj 33 g) (t : Nat) (ht6 : t < 6) : Met l y_Shelf_noteUse ws_Shelf_noteUse rm_Shelf_noteUse (ps_Pc D ps_cl (ps_tys cI cJ cT) 33 g (ps_E g cI cJ cT σ) [.ref (g 0), .ref (g (9 + t))]) (ps_Qv (S := ps_σ) D ps_cl 33 g (fun u => ps_E g cI cJ cT u) (fun u => u = ps_upU (ps_upU σ 0 (σ.2.1 0 + 1)) (9 + t) (σ.2.1 0 + 1))) 0 0 (ps_wA 33 g) := by
  refine ps_met (by decide) ?_
  intro p e s m args below meth c hx hb hr hml hts hown hlocks hname hv Q hQ
  obtain ⟨ha, hP, hK⟩ := hv
  have hT : ∀ w ∈ ps_tb, w.before args s = true := fun w h => hts w (List.mem_cons_of_mem _ h)
  have hown : s.vm.findClass R_Shelf = some m.cls := hown
  have hS : va_S (ps_wA 33 g) s.heap s.heap [] := va_S.rf
  refine ps_enter ha (Nat.le_of_ble_eq_true rfl) (fun ls hl => ?_)
  have hl : lv_has ls 2 [(0, .ref (g 0)), (1, .ref (g (9 + t)))] := hl
  refine lv_aload_n hx hb d_Shelf_noteUse_0 rfl (lv_at hl 0 rfl) ?_
  refine lv_dup hx hb d_Shelf_noteUse_1 rfl ?_
  refine ps_get (v := .long (σ.2.1 0)) hx hb hT i_Shelf hown hK hP (k := 0) (by omega) ps_E_0 rfl 5 (by decide) (hT _ fl_Shelf_37) (fun _ h9 => h9) rfl d_Shelf_noteUse_2 ?_
  refine lv_lconst (v := 1) hx hb d_Shelf_noteUse_5 (by decide) ?_
  refine lv_ladd hx hb d_Shelf_noteUse_6 ?_
  refine ps_put (v := .long ((σ.2.1 0) + (1 : Int64))) (ty := .long) hx hb hT i_Shelf t_Shelf t_Shelf_ok n_Shelf hown hK hg hP hS (k := 0) (by omega) ps_E_0 rfl 5 (by decide) (hT _ fl_Shelf_37) (fun _ h9 => h9) rfl (by decide +kernel) rfl rfl (Nat.le_of_ble_eq_true rfl) d_Shelf_noteUse_7 (ps_E g cI cJ cT (ps_upU σ 0 ((σ.2.1 0) + (1 : Int64)))) rfl (fun i _ h => by apply ps_E_ext <;> first | rfl | simp [ps_upI, ps_upU, ps_upA, ps_upB, va_up, h]) (fun H locs hP hS => ?_)
  refine lv_aload_n hx hb d_Shelf_noteUse_10 rfl (lv_at hl 1 rfl) ?_
  refine lv_aload_n hx hb d_Shelf_noteUse_11 rfl (lv_at hl 0 rfl) ?_
  refine ps_get (v := .long ((σ.2.1 0) + (1 : Int64))) hx hb hT i_Shelf hown hK hP (k := 0) (by omega) rfl rfl 5 (by decide) (hT _ fl_Shelf_37) (fun _ h9 => h9) rfl d_Shelf_noteUse_12 ?_
  refine ps_put (ci := 3) (fs := [.ref (g (15 + t)), .int (σ.1 (9 + t) 1), .int (σ.1 (9 + t) 2), .long (σ.2.1 (9 + t))]) (v := .long ((σ.2.1 0) + (1 : Int64))) (ty := .long) hx hb hT i_Thing t_Thing t_Thing_ok n_Thing hown hK hg hP hS (k := 9 + t) (by omega) (by rw [ps_E_th ht6]; simp [ps_upI, ps_upU, ps_upA, ps_upB, va_up]) rfl 3 (by decide) (hT _ fl_Shelf_161) (fun _ h9 => h9) rfl (by decide +kernel) rfl rfl (Nat.le_of_ble_eq_true rfl) d_Shelf_noteUse_15 (ps_E g cI cJ cT (ps_upU (ps_upU σ 0 ((σ.2.1 0) + (1 : Int64))) (9 + t) ((σ.2.1 0) + (1 : Int64)))) (by rw [ps_E_th ht6]; simp [ps_upI, ps_upU, ps_upA, ps_upB, va_up]) (fun i _ h => by apply ps_E_ext <;> first | rfl | simp [ps_upI, ps_upU, ps_upA, ps_upB, va_up, h]) (fun H locs hP hS => ?_)
  rw [hQ]
  exact W.vret hx hb hr (fun zt ht _ => ⟨⟨(ps_upU (ps_upU σ 0 ((σ.2.1 0) + (1 : Int64))) (9 + t) ((σ.2.1 0) + (1 : Int64))), rfl, rfl, ps_hp ht hP⟩, hS.F ht⟩) hS.2.2 d_Shelf_noteUse_18
