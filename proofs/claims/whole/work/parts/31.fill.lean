theorem fl_Shelf_110 : (.fieldLink R_Shelf 110 R_Reply "rows" "I" : Cond) ∈ ps_tb := ps_in 90 (by decide +kernel) rfl
theorem ml_Shelf_155 : (.methodLink R_Shelf 155 y_Tape_firstPlace : Cond) ∈ ps_tb := ps_in 445 (by decide +kernel) rfl
theorem co_Tape_firstPlace : (.code y_Tape_firstPlace b_Tape_firstPlace 3 (some .int) : Cond) ∈ ps_tb := ps_in 448 (by decide +kernel) rfl
theorem im_Tape_firstPlace : (.instanceMethod y_Tape_firstPlace : Cond) ∈ ps_tb := ps_in 446 (by decide +kernel) rfl
theorem se_Tape_firstPlace : (.selects R_Tape y_Tape_firstPlace y_Tape_firstPlace : Cond) ∈ ps_tb := ps_in 447 (by decide +kernel) rfl
theorem ml_Shelf_158 : (.methodLink R_Shelf 158 y_Tape_lastPlace : Cond) ∈ ps_tb := ps_in 450 (by decide +kernel) rfl
theorem co_Tape_lastPlace : (.code y_Tape_lastPlace b_Tape_lastPlace 4 (some .int) : Cond) ∈ ps_tb := ps_in 453 (by decide +kernel) rfl
theorem im_Tape_lastPlace : (.instanceMethod y_Tape_lastPlace : Cond) ∈ ps_tb := ps_in 451 (by decide +kernel) rfl
theorem se_Tape_lastPlace : (.selects R_Tape y_Tape_lastPlace y_Tape_lastPlace : Cond) ∈ ps_tb := ps_in 452 (by decide +kernel) rfl
theorem ml_Shelf_152 : (.methodLink R_Shelf 152 y_Reply_addRow : Cond) ∈ ps_tb := ps_in 440 (by decide +kernel) rfl
theorem co_Reply_addRow : (.code y_Reply_addRow b_Reply_addRow 4 none : Cond) ∈ ps_tb := ps_in 443 (by decide +kernel) rfl
theorem im_Reply_addRow : (.instanceMethod y_Reply_addRow : Cond) ∈ ps_tb := ps_in 441 (by decide +kernel) rfl
theorem se_Reply_addRow : (.selects R_Reply y_Reply_addRow y_Reply_addRow : Cond) ∈ ps_tb := ps_in 442 (by decide +kernel) rfl
theorem cd_Reply_addRow : y_Reply_addRow.cls = R_Reply ∧ y_Reply_addRow.cls ≠ "java/lang/invoke/MethodHandle" ∧ y_Reply_addRow.cls ≠ "java/lang/invoke/VarHandle" ∧ (parseMethodDescriptor y_Reply_addRow.desc).map (fun d => d.parameters.length) = some 2 := by decide +kernel
theorem cd_Tape_firstPlace : y_Tape_firstPlace.cls = R_Tape ∧ y_Tape_firstPlace.cls ≠ "java/lang/invoke/MethodHandle" ∧ y_Tape_firstPlace.cls ≠ "java/lang/invoke/VarHandle" ∧ (parseMethodDescriptor y_Tape_firstPlace.desc).map (fun d => d.parameters.length) = some 2 := by decide +kernel
theorem cd_Tape_lastPlace : y_Tape_lastPlace.cls = R_Tape ∧ y_Tape_lastPlace.cls ≠ "java/lang/invoke/MethodHandle" ∧ y_Tape_lastPlace.cls ≠ "java/lang/invoke/VarHandle" ∧ (parseMethodDescriptor y_Tape_lastPlace.desc).map (fun d => d.parameters.length) = some 2 := by decide +kernel
def rm_Shelf_fill : Room := { frames := 3, cells := 0, slots := 0, locals := 72 }
abbrev ws_Shelf_fill : List Cond := .code y_Shelf_fill b_Shelf_fill 4 (some .int) :: ps_tb
set_option maxHeartbeats 4000000 in
set_option maxRecDepth 100000 in
theorem c_Shelf_fill {l : Launch} {D : va_G} {g : Nat → Nat} {cI cJ cT : ClassId} {σ : ps_σ} (hg : ps_inj 33 g) (t : Nat) (ht6 : t < 6) (Ln : Nat) (hLn4 : Ln ≤ 4095) (hLn : σ.1 (9 + t) 1 = nI Ln) (L : List (Int32 × Int32)) (hL6 : L.length ≤ 6) (hLp : ∀ q ∈ L, ps_pok q) (hLv : ∀ i, (hi : i < L.length) → σ.2.2.1 3 i = L[i].1 ∧ σ.2.2.1 4 i = L[i].2) (hR0 : ps_rowsOK σ []) : Met l y_Shelf_fill ws_Shelf_fill rm_Shelf_fill (ps_Pc D ps_cl (ps_tys cI cJ cT) 33 g (ps_E g cI cJ cT σ) [.ref (g 0), .ref (g (9 + t)), .int (nI L.length)]) (ps_Qi (S := ps_σ) D ps_cl 33 g (fun u => ps_E g cI cJ cT u) (fun r u => ps_fi σ u (ps_rws Ln L) ∧ r = ps_kd L (ps_rws Ln L))) 0 0 (ps_wA 33 g) := by
  refine ps_met (by decide) ?_
  intro p e s m args below meth c hx hb hr hml hts hown hlocks hname hv Q hQ
  obtain ⟨ha, hP, hK⟩ := hv
  have hT : ∀ w ∈ ps_tb, w.before args s = true := fun w h => hts w (List.mem_cons_of_mem _ h)
  have hown : s.vm.findClass R_Shelf = some m.cls := hown
  have hS : va_S (ps_wA 33 g) s.heap s.heap [] := va_S.rf
  refine ps_enter ha (Nat.le_of_ble_eq_true rfl) (fun ls hl => ?_)
  have hl : lv_has ls 4 [(0, .ref (g 0)), (1, .ref (g (9 + t))), (2, .int (nI L.length))] := hl
  refine lv_iload_n hx hb d_Shelf_fill_0 rfl (lv_at hl 2 rfl) ?_
  refine lv_if_ne (tgt := 20) hx hb d_Shelf_fill_1 (by decide) (fun c_1 => ?_) (fun c_1 => ?_)
  · have hne : ¬ L = [] := fun h => c_1 (by rw [h]; rfl)
    refine lv_iconst (v := nI 0) hx hb d_Shelf_fill_20 (by decide) ?_
    refine lv_istore_n (lv' := [(3, .int (nI 0)), (0, .ref (g 0)), (1, .ref (g (9 + t))), (2, .int (nI L.length))]) hx hb d_Shelf_fill_21 rfl hl (by decide) rfl (fun ls hl => ?_)
    have L_a : ∀ (n_a : Nat) (k : Nat) (τ : ps_σ), (k ≤ L.length) → (ps_fi σ τ ((L.take k).filterMap (ps_row Ln))) → L.length - k < n_a → ∀ (H : Heap) (locs : List Loc), va_P D ps_cl (ps_wl 33 g (ps_E g cI cJ cT (τ))) H → va_S (ps_wA 33 g) s.heap H locs → ∀ (ls : Array Slot), lv_has ls 4 [(0, .ref (g 0)), (1, .ref (g (9 + t))), (2, .int (nI L.length)), (3, .int (nI k))] → W p l e rm_Shelf_fill s m args below meth c H locs 0 0 Q (F0 m 22 ls []) := by
      intro n_a
      induction n_a with
      | zero => intro k τ hk hfi hf_a; exact absurd hf_a (Nat.not_lt_zero _)
      | succ n_a ih_a =>
        intro k τ hk hfi hf_a H locs hP hS ls hl
        refine lv_iload_n hx hb d_Shelf_fill_22 rfl (lv_at hl 3 rfl) ?_
        refine lv_iload_n hx hb d_Shelf_fill_23 rfl (lv_at hl 2 rfl) ?_
        refine lv_icmp_ge (tgt := 64) hx hb d_Shelf_fill_24 (by decide) (fun c_24 => ?_) (fun c_24 => ?_)
        · have hkL : k = L.length := by have := ps_leT c_24 (by omega) (by omega); omega
          have hfi3 : ps_fi σ τ (ps_rws Ln L) := by
            rw [hkL, List.take_length] at hfi
            unfold ps_rws; rw [if_neg hne]; exact hfi
          refine lv_aload_n hx hb d_Shelf_fill_64 rfl (lv_at hl 0 rfl) ?_
          refine ps_get (v := .ref (g 6)) hx hb hT i_Shelf hown hK hP (k := 0) (by omega) ps_E_0 rfl 2 (by decide) (hT _ fl_Shelf_26) (fun _ h9 => h9) rfl d_Shelf_fill_65 ?_
          refine ps_get (v := .int (τ.1 6 1)) hx hb hT i_Reply hown hK hP (k := 6) (by omega) ps_E_6 rfl 1 (by decide) (hT _ fl_Shelf_110) (fun _ h9 => h9) rfl d_Shelf_fill_68 ?_
          refine lv_if_ne (tgt := 78) hx hb d_Shelf_fill_71 (by decide) (fun c_71 => ?_) (fun c_71 => ?_)
          · have hkd : ps_kd L (ps_rws Ln L) = nI 1 := by
              unfold ps_kd; rw [if_neg hne, if_neg (fun h => c_71 (by rw [hfi3.2.1.cnt, h]; rfl))]
            refine lv_iconst (v := nI 1) hx hb d_Shelf_fill_78 (by decide) ?_
            rw [hQ]
            exact W.iret (v := nI 1) hx hb hr (fun zt ht _ => ⟨⟨_, τ, rfl, ⟨hfi3, hkd.symm⟩, ps_hp ht hP⟩, hS.F ht⟩) hS.2.2 d_Shelf_fill_79
          · have hkd : ps_kd L (ps_rws Ln L) = nI 2 := by
              have h0 := c_71
              rw [hfi3.2.1.cnt] at h0
              unfold ps_kd; rw [if_neg hne, if_pos (ps_len0 h0 (by have := ps_rws_len (n := Ln) hL6; omega))]
            refine lv_iconst (v := nI 2) hx hb d_Shelf_fill_74 (by decide) ?_
            refine lv_goto (tgt := 79) hx hb d_Shelf_fill_75 (by decide) ?_
            rw [hQ]
            exact W.iret (v := nI 2) hx hb hr (fun zt ht _ => ⟨⟨_, τ, rfl, ⟨hfi3, hkd.symm⟩, ps_hp ht hP⟩, hS.F ht⟩) hS.2.2 d_Shelf_fill_79
        · have hkL : k < L.length := ps_ltOf c_24 (by omega) (by omega)
          obtain ⟨q0, hq0⟩ : ∃ z, z = L[k] := ⟨_, rfl⟩
          have hpk : ps_pok q0 := by rw [hq0]; exact hLp _ (List.getElem_mem hkL)
          have hlt : τ.1 (9 + t) 1 = nI Ln := by rw [hfi.1.1 (9 + t) (by omega)]; exact hLn
          have hq1 : τ.2.2.1 3 k = q0.1 := by rw [hfi.1.2.2.1 3 (by decide) (by decide), hq0]; exact (hLv k hkL).1
          have hq2 : τ.2.2.1 4 k = q0.2 := by rw [hfi.1.2.2.1 4 (by decide) (by decide), hq0]; exact (hLv k hkL).2
          refine lv_aload_n hx hb d_Shelf_fill_27 rfl (lv_at hl 0 rfl) ?_
          refine ps_get (v := .ref (g 6)) hx hb hT i_Shelf hown hK hP (k := 0) (by omega) ps_E_0 rfl 2 (by decide) (hT _ fl_Shelf_26) (fun _ h9 => h9) rfl d_Shelf_fill_28 ?_
          refine lv_aload_n hx hb d_Shelf_fill_31 rfl (lv_at hl 0 rfl) ?_
          refine ps_get (v := .ref (g 1)) hx hb hT i_Shelf hown hK hP (k := 0) (by omega) ps_E_0 rfl 0 (by decide) (hT _ fl_Shelf_10) (fun _ h9 => h9) rfl d_Shelf_fill_32 ?_
          refine lv_iload_n hx hb d_Shelf_fill_35 rfl (lv_at hl 3 rfl) ?_
          refine lv_aload_n hx hb d_Shelf_fill_36 rfl (lv_at hl 1 rfl) ?_
          refine ps_get (v := .int (τ.1 (9 + t) 1)) hx hb hT i_Thing hown hK hP (k := 9 + t) (by omega) (ps_E_th ht6) rfl 1 (by decide) (hT _ fl_Shelf_84) (fun _ h9 => h9) rfl d_Shelf_fill_37 ?_
          refine ps_seti (y := nI Ln) hlt ?_
          refine ps_roi (k := 1) (As := [.int (nI k), .int (nI Ln)]) (rest := [.ref (g 6)]) ⟨hx, hb, hml, hown, hT⟩ (c_Tape_firstPlace (σ := τ) k (by omega) (nI Ln)) (cwV 2 hT (ps_gV ml_Shelf_155 im_Tape_firstPlace se_Tape_firstPlace in_Tape co_Tape_firstPlace) rfl rfl rfl cd_Tape_firstPlace ⟨Nat.le_of_ble_eq_true rfl, Nat.le_of_ble_eq_true rfl⟩) hK hP (by omega) ps_E_1 rfl rfl hl.1 rfl (Nat.le_of_ble_eq_true rfl) d_Shelf_fill_40 ⟨Nat.zero_le _, Nat.zero_le _⟩ (fun rr hrr => ?_)
          have hrr : rr = ps_fp (nI Ln) q0 := by rw [hrr, hq1, hq2]; rfl
          subst hrr
          refine lv_aload_n hx hb d_Shelf_fill_43 rfl (lv_at hl 0 rfl) ?_
          refine ps_get (v := .ref (g 1)) hx hb hT i_Shelf hown hK hP (k := 0) (by omega) ps_E_0 rfl 0 (by decide) (hT _ fl_Shelf_10) (fun _ h9 => h9) rfl d_Shelf_fill_44 ?_
          refine lv_iload_n hx hb d_Shelf_fill_47 rfl (lv_at hl 3 rfl) ?_
          refine lv_aload_n hx hb d_Shelf_fill_48 rfl (lv_at hl 1 rfl) ?_
          refine ps_get (v := .int (τ.1 (9 + t) 1)) hx hb hT i_Thing hown hK hP (k := 9 + t) (by omega) (ps_E_th ht6) rfl 1 (by decide) (hT _ fl_Shelf_84) (fun _ h9 => h9) rfl d_Shelf_fill_49 ?_
          refine ps_seti (y := nI Ln) hlt ?_
          refine ps_roi (k := 1) (As := [.int (nI k), .int (nI Ln)]) (rest := [.int (ps_fp (nI Ln) q0), .ref (g 6)]) ⟨hx, hb, hml, hown, hT⟩ (c_Tape_lastPlace (σ := τ) k (by omega) (nI Ln)) (cwV 2 hT (ps_gV ml_Shelf_158 im_Tape_lastPlace se_Tape_lastPlace in_Tape co_Tape_lastPlace) rfl rfl rfl cd_Tape_lastPlace ⟨Nat.le_of_ble_eq_true rfl, Nat.le_of_ble_eq_true rfl⟩) hK hP (by omega) ps_E_1 rfl rfl hl.1 rfl (Nat.le_of_ble_eq_true rfl) d_Shelf_fill_52 ⟨Nat.zero_le _, Nat.zero_le _⟩ (fun rr hrr => ?_)
          have hrr : rr = ps_lp (nI Ln) q0 := by rw [hrr, hq1, hq2]; rfl
          subst hrr
          refine ps_wrv (k := 6) (As := [.int (ps_fp (nI Ln) q0), .int (ps_lp (nI Ln) q0)]) (rest := []) ⟨hx, hb, hml, hown, hT⟩ (c_Reply_addRow (σ := τ) hg (ps_fp (nI Ln) q0) (ps_lp (nI Ln) q0) ((L.take k).filterMap (ps_row Ln)).length hfi.2.1.cnt (by have := ps_rk_len (n := Ln) (k := k) (L := L); omega) (ps_row_xy hLn4 hpk)) (cwV 2 hT (ps_gV ml_Shelf_152 im_Reply_addRow se_Reply_addRow in_Reply co_Reply_addRow) rfl rfl rfl cd_Reply_addRow ⟨Nat.le_of_ble_eq_true rfl, Nat.le_of_ble_eq_true rfl⟩) hK hP hS (fun _ h => h) (by omega) ps_E_6 rfl rfl hl.1 rfl (Nat.le_of_ble_eq_true rfl) d_Shelf_fill_55 ⟨Nat.zero_le _, Nat.zero_le _⟩ (fun u1 H locs hz hP hS _ => ?_)
          have hfi2 : ps_fi σ u1 ((L.take (k + 1)).filterMap (ps_row Ln)) := by
            rw [ps_rk hkL, ← hq0]
            exact ps_fi_step hfi (ps_row_o hLn4 hpk) hz
          refine lv_iinc (v := (nI (k + 1))) (lv' := [(3, .int (nI (k + 1))), (0, .ref (g 0)), (1, .ref (g (9 + t))), (2, .int (nI L.length))]) hx hb d_Shelf_fill_58 hl (k := 3) rfl (nI_1 _) (by decide) rfl (fun ls hl => ?_)
          refine lv_goto (tgt := 22) hx hb d_Shelf_fill_61 (by decide) ?_
          exact ih_a (k + 1) u1 (by omega) hfi2 (by omega) _ _ hP hS ls (lv_sub hl [1, 2, 3, 0] rfl)
    exact L_a (L.length - 0 + 1) 0 (σ) (by omega) (⟨ps_s6_rf σ, hR0, ps_kp_rf σ⟩) (by omega) _ _ hP hS ls (lv_sub hl [1, 2, 3, 0] rfl)
  · have hL0 : L = [] := ps_len0 c_1 (by omega)
    subst hL0
    refine lv_aload_n hx hb d_Shelf_fill_4 rfl (lv_at hl 0 rfl) ?_
    refine ps_get (v := .ref (g 6)) hx hb hT i_Shelf hown hK hP (k := 0) (by omega) ps_E_0 rfl 2 (by decide) (hT _ fl_Shelf_26) (fun _ h9 => h9) rfl d_Shelf_fill_5 ?_
    refine lv_iconst (v := nI 0) hx hb d_Shelf_fill_8 (by decide) ?_
    refine lv_aload_n hx hb d_Shelf_fill_9 rfl (lv_at hl 1 rfl) ?_
    refine ps_get (v := .int (σ.1 (9 + t) 1)) hx hb hT i_Thing hown hK hP (k := 9 + t) (by omega) (ps_E_th ht6) rfl 1 (by decide) (hT _ fl_Shelf_84) (fun _ h9 => h9) rfl d_Shelf_fill_10 ?_
    refine ps_seti (y := nI Ln) hLn ?_
    refine lv_iconst (v := nI 1) hx hb d_Shelf_fill_13 (by decide) ?_
    refine lv_isub hx hb d_Shelf_fill_14 ?_
    refine ps_wrv (k := 6) (As := [.int (nI 0), .int ((nI Ln) - (nI 1))]) (rest := []) ⟨hx, hb, hml, hown, hT⟩ (c_Reply_addRow (σ := σ) hg (nI 0) (nI Ln - nI 1) 0 hR0.cnt (by decide) (ps_w_xy hLn4)) (cwV 2 hT (ps_gV ml_Shelf_152 im_Reply_addRow se_Reply_addRow in_Reply co_Reply_addRow) rfl rfl rfl cd_Reply_addRow ⟨Nat.le_of_ble_eq_true rfl, Nat.le_of_ble_eq_true rfl⟩) hK hP hS (fun _ h => h) (by omega) ps_E_6 rfl rfl hl.1 rfl (Nat.le_of_ble_eq_true rfl) d_Shelf_fill_15 ⟨Nat.zero_le _, Nat.zero_le _⟩ (fun u1 H locs hz hP hS _ => ?_)
    have hfi2 := ps_fi_step (R := []) ⟨ps_s6_rf σ, hR0, ps_kp_rf σ⟩ (ps_w_o hLn4) hz
    rw [ps_w_e] at hfi2
    refine lv_iconst (v := nI 0) hx hb d_Shelf_fill_18 (by decide) ?_
    rw [hQ]
    exact W.iret (v := nI 0) hx hb hr (fun zt ht _ => ⟨⟨_, u1, rfl, ⟨hfi2, rfl⟩, ps_hp ht hP⟩, hS.F ht⟩) hS.2.2 d_Shelf_fill_19
