theorem fl_Reply_9 : (.fieldLink R_Reply 9 R_Reply "thing" "I" : Cond) ∈ ps_tb := ps_in 88 (by decide +kernel) rfl
theorem fl_Reply_37 : (.fieldLink R_Reply 37 R_Reply "rows" "I" : Cond) ∈ ps_tb := ps_in 89 (by decide +kernel) rfl
theorem fl_Reply_40 : (.fieldLink R_Reply 40 R_Reply "overlap" "Z" : Cond) ∈ ps_tb := ps_in 95 (by decide +kernel) rfl
theorem fl_Reply_44 : (.fieldLink R_Reply 44 R_Reply "fetches" "I" : Cond) ∈ ps_tb := ps_in 98 (by decide +kernel) rfl
theorem fl_Reply_47 : (.fieldLink R_Reply 47 R_Reply "price" "I" : Cond) ∈ ps_tb := ps_in 100 (by decide +kernel) rfl
theorem fl_Reply_27 : (.fieldLink R_Reply 27 R_Reply "wanted" "LPieceShelf$Places;" : Cond) ∈ ps_tb := ps_in 101 (by decide +kernel) rfl
theorem ml_Reply_50 : (.methodLink R_Reply 50 y_Places_clear : Cond) ∈ ps_tb := ps_in 435 (by decide +kernel) rfl
theorem co_Places_clear : (.code y_Places_clear b_Places_clear 2 none : Cond) ∈ ps_tb := ps_in 177 (by decide +kernel) rfl
theorem im_Places_clear : (.instanceMethod y_Places_clear : Cond) ∈ ps_tb := ps_in 175 (by decide +kernel) rfl
theorem se_Places_clear : (.selects R_Places y_Places_clear y_Places_clear : Cond) ∈ ps_tb := ps_in 176 (by decide +kernel) rfl
theorem fl_Reply_31 : (.fieldLink R_Reply 31 R_Reply "fetchFirsts" "LPieceShelf$Places;" : Cond) ∈ ps_tb := ps_in 102 (by decide +kernel) rfl
theorem fl_Reply_34 : (.fieldLink R_Reply 34 R_Reply "fetchLasts" "LPieceShelf$Places;" : Cond) ∈ ps_tb := ps_in 104 (by decide +kernel) rfl
theorem fl_Reply_17 : (.fieldLink R_Reply 17 R_Reply "firsts" "[I" : Cond) ∈ ps_tb := ps_in 91 (by decide +kernel) rfl
theorem fl_Reply_21 : (.fieldLink R_Reply 21 R_Reply "lasts" "[I" : Cond) ∈ ps_tb := ps_in 93 (by decide +kernel) rfl
theorem ml_Reply_53 : (.methodLink R_Reply 53 y_Places_add : Cond) ∈ ps_tb := ps_in 444 (by decide +kernel) rfl
theorem co_Places_add : (.code y_Places_add b_Places_add 9 (some .int) : Cond) ∈ ps_tb := ps_in 197 (by decide +kernel) rfl
theorem im_Places_add : (.instanceMethod y_Places_add : Cond) ∈ ps_tb := ps_in 195 (by decide +kernel) rfl
theorem se_Places_add : (.selects R_Places y_Places_add y_Places_add : Cond) ∈ ps_tb := ps_in 196 (by decide +kernel) rfl
theorem fl_Reply_64 : (.fieldLink R_Reply 64 R_Reply "places" "I" : Cond) ∈ ps_tb := ps_in 96 (by decide +kernel) rfl
theorem fl_Reply_71 : (.fieldLink R_Reply 71 R_Reply "kept" "I" : Cond) ∈ ps_tb := ps_in 97 (by decide +kernel) rfl
theorem ml_Reply_78 : (.methodLink R_Reply 78 y_Places_next : Cond) ∈ ps_tb := ps_in 463 (by decide +kernel) rfl
theorem ml_Reply_82 : (.methodLink R_Reply 82 y_Reply_lastOfFetch : Cond) ∈ ps_tb := ps_in 473 (by decide +kernel) rfl
theorem co_Reply_lastOfFetch : (.code y_Reply_lastOfFetch b_Reply_lastOfFetch 6 (some .int) : Cond) ∈ ps_tb := ps_in 476 (by decide +kernel) rfl
theorem in_Reply : (.initialized R_Reply : Cond) ∈ ps_tb := ps_in 5 (by decide +kernel) rfl
theorem im_Reply_lastOfFetch : (.instanceMethod y_Reply_lastOfFetch : Cond) ∈ ps_tb := ps_in 475 (by decide +kernel) rfl
theorem se_Reply_lastOfFetch : (.selects R_Reply y_Reply_lastOfFetch y_Reply_lastOfFetch : Cond) ∈ ps_tb := ps_inS 14 (by decide +kernel) rfl
theorem ml_Reply_57 : (.methodLink R_Reply 57 y_Reply_joinRows : Cond) ∈ ps_tb := ps_in 459 (by decide +kernel) rfl
theorem co_Reply_joinRows : (.code y_Reply_joinRows b_Reply_joinRows 3 none : Cond) ∈ ps_tb := ps_in 462 (by decide +kernel) rfl
theorem im_Reply_joinRows : (.instanceMethod y_Reply_joinRows : Cond) ∈ ps_tb := ps_in 461 (by decide +kernel) rfl
theorem se_Reply_joinRows : (.selects R_Reply y_Reply_joinRows y_Reply_joinRows : Cond) ∈ ps_tb := ps_inS 12 (by decide +kernel) rfl
theorem ml_Reply_60 : (.methodLink R_Reply 60 y_Places_size : Cond) ∈ ps_tb := ps_in 464 (by decide +kernel) rfl
theorem co_Places_size : (.code y_Places_size b_Places_size 3 (some .int) : Cond) ∈ ps_tb := ps_in 226 (by decide +kernel) rfl
theorem im_Places_size : (.instanceMethod y_Places_size : Cond) ∈ ps_tb := ps_in 224 (by decide +kernel) rfl
theorem se_Places_size : (.selects R_Places y_Places_size y_Places_size : Cond) ∈ ps_tb := ps_in 225 (by decide +kernel) rfl
theorem ml_Reply_67 : (.methodLink R_Reply 67 y_Places_removeAll : Cond) ∈ ps_tb := ps_in 465 (by decide +kernel) rfl
theorem co_Places_removeAll : (.code y_Places_removeAll b_Places_removeAll 3 none : Cond) ∈ ps_tb := ps_in 468 (by decide +kernel) rfl
theorem im_Places_removeAll : (.instanceMethod y_Places_removeAll : Cond) ∈ ps_tb := ps_in 466 (by decide +kernel) rfl
theorem se_Places_removeAll : (.selects R_Places y_Places_removeAll y_Places_removeAll : Cond) ∈ ps_tb := ps_in 467 (by decide +kernel) rfl
theorem ml_Reply_74 : (.methodLink R_Reply 74 y_Reply_plan : Cond) ∈ ps_tb := ps_in 469 (by decide +kernel) rfl
theorem co_Reply_plan : (.code y_Reply_plan b_Reply_plan 4 none : Cond) ∈ ps_tb := ps_in 472 (by decide +kernel) rfl
theorem im_Reply_plan : (.instanceMethod y_Reply_plan : Cond) ∈ ps_tb := ps_in 471 (by decide +kernel) rfl
theorem se_Reply_plan : (.selects R_Reply y_Reply_plan y_Reply_plan : Cond) ∈ ps_tb := ps_inS 13 (by decide +kernel) rfl
theorem cd_Places_add : y_Places_add.cls = R_Places ∧ y_Places_add.cls ≠ "java/lang/invoke/MethodHandle" ∧ y_Places_add.cls ≠ "java/lang/invoke/VarHandle" ∧ (parseMethodDescriptor y_Places_add.desc).map (fun d => d.parameters.length) = some 2 := by decide +kernel
theorem cd_Places_clear : y_Places_clear.cls = R_Places ∧ y_Places_clear.cls ≠ "java/lang/invoke/MethodHandle" ∧ y_Places_clear.cls ≠ "java/lang/invoke/VarHandle" ∧ (parseMethodDescriptor y_Places_clear.desc).map (fun d => d.parameters.length) = some 0 := by decide +kernel
theorem cd_Places_removeAll : y_Places_removeAll.cls = R_Places ∧ y_Places_removeAll.cls ≠ "java/lang/invoke/MethodHandle" ∧ y_Places_removeAll.cls ≠ "java/lang/invoke/VarHandle" ∧ (parseMethodDescriptor y_Places_removeAll.desc).map (fun d => d.parameters.length) = some 1 := by decide +kernel
theorem cd_Places_size : y_Places_size.cls = R_Places ∧ y_Places_size.cls ≠ "java/lang/invoke/MethodHandle" ∧ y_Places_size.cls ≠ "java/lang/invoke/VarHandle" ∧ (parseMethodDescriptor y_Places_size.desc).map (fun d => d.parameters.length) = some 0 := by decide +kernel
theorem cd_Reply_joinRows : y_Reply_joinRows.cls = R_Reply ∧ y_Reply_joinRows.cls ≠ "java/lang/invoke/MethodHandle" ∧ y_Reply_joinRows.cls ≠ "java/lang/invoke/VarHandle" ∧ (parseMethodDescriptor y_Reply_joinRows.desc).map (fun d => d.parameters.length) = some 0 := by decide +kernel
theorem cd_Reply_lastOfFetch : y_Reply_lastOfFetch.cls = R_Reply ∧ y_Reply_lastOfFetch.cls ≠ "java/lang/invoke/MethodHandle" ∧ y_Reply_lastOfFetch.cls ≠ "java/lang/invoke/VarHandle" ∧ (parseMethodDescriptor y_Reply_lastOfFetch.desc).map (fun d => d.parameters.length) = some 2 := by decide +kernel
theorem cd_Reply_plan : y_Reply_plan.cls = R_Reply ∧ y_Reply_plan.cls ≠ "java/lang/invoke/MethodHandle" ∧ y_Reply_plan.cls ≠ "java/lang/invoke/VarHandle" ∧ (parseMethodDescriptor y_Reply_plan.desc).map (fun d => d.parameters.length) = some 1 := by decide +kernel
def rm_Reply_begin : Room := { frames := 1, cells := 0, slots := 0, locals := 21 }
abbrev ws_Reply_begin : List Cond := .code y_Reply_begin b_Reply_begin 2 none :: ps_tb
set_option maxHeartbeats 4000000 in
set_option maxRecDepth 100000 in
theorem c_Reply_begin {l : Launch} {D : va_G} {g : Nat → Nat} {cI cJ cT : ClassId} {σ : ps_σ} (hg : ps_inj 33 g) (tx : Int32) : Met l y_Reply_begin ws_Reply_begin rm_Reply_begin (ps_Pc D ps_cl (ps_tys cI cJ cT) 33 g (ps_E g cI cJ cT σ) [.ref (g 6), .int tx]) (ps_Qv (S := ps_σ) D ps_cl 33 g (fun u => ps_E g cI cJ cT u) (fun u => ps_s6 σ u ∧ u.1 6 0 = tx ∧ u.1 6 1 = nI 0 ∧ u.1 6 4 = nI 0 ∧ u.1 6 7 = nI 0 ∧ u.1 6 8 = nI 0 ∧ (∀ q, q < 4096 → ps_hs (u.2.2.2 30) q = false) ∧ (∀ q, q < 4096 → ps_hs (u.2.2.2 31) q = false) ∧ ∀ q, q < 4096 → ps_hs (u.2.2.2 32) q = false)) 0 0 (ps_wA 33 g) := by
  refine ps_met (by decide) ?_
  intro p e s m args below meth c hx hb hr hml hts hown hlocks hname hv Q hQ
  obtain ⟨ha, hP, hK⟩ := hv
  have hT : ∀ w ∈ ps_tb, w.before args s = true := fun w h => hts w (List.mem_cons_of_mem _ h)
  have hown : s.vm.findClass R_Reply = some m.cls := hown
  have hS : va_S (ps_wA 33 g) s.heap s.heap [] := va_S.rf
  refine ps_enter ha (Nat.le_of_ble_eq_true rfl) (fun ls hl => ?_)
  have hl : lv_has ls 2 [(0, .ref (g 6)), (1, .int tx)] := hl
  refine lv_aload_n hx hb d_Reply_begin_0 rfl (lv_at hl 0 rfl) ?_
  refine lv_iload_n hx hb d_Reply_begin_1 rfl (lv_at hl 1 rfl) ?_
  refine ps_put (v := .int tx) (ty := .int) hx hb hT i_Reply t_Reply t_Reply_ok n_Reply hown hK hg hP hS (k := 6) (by omega) ps_E_6 rfl 0 (by decide) (hT _ fl_Reply_9) (fun _ h9 => h9) rfl (by decide +kernel) rfl rfl (Nat.le_of_ble_eq_true rfl) d_Reply_begin_2 (ps_E g cI cJ cT (ps_upI σ 6 0 tx)) rfl (fun i _ h => by apply ps_E_ext <;> first | rfl | simp [ps_upI, ps_upU, ps_upA, ps_upB, va_up, h]) (fun H locs hP hS => ?_)
  refine lv_aload_n hx hb d_Reply_begin_5 rfl (lv_at hl 0 rfl) ?_
  refine lv_iconst (v := nI 0) hx hb d_Reply_begin_6 (by decide) ?_
  refine ps_put (v := .int (nI 0)) (ty := .int) hx hb hT i_Reply t_Reply t_Reply_ok n_Reply hown hK hg hP hS (k := 6) (by omega) rfl rfl 1 (by decide) (hT _ fl_Reply_37) (fun _ h9 => h9) rfl (by decide +kernel) rfl rfl (Nat.le_of_ble_eq_true rfl) d_Reply_begin_7 (ps_E g cI cJ cT (ps_upI (ps_upI σ 6 0 tx) 6 1 (nI 0))) rfl (fun i _ h => by apply ps_E_ext <;> first | rfl | simp [ps_upI, ps_upU, ps_upA, ps_upB, va_up, h]) (fun H locs hP hS => ?_)
  refine lv_aload_n hx hb d_Reply_begin_10 rfl (lv_at hl 0 rfl) ?_
  refine lv_iconst (v := nI 0) hx hb d_Reply_begin_11 (by decide) ?_
  refine ps_put (v := .int (nI 0)) (ty := .boolean) hx hb hT i_Reply t_Reply t_Reply_ok n_Reply hown hK hg hP hS (k := 6) (by omega) rfl rfl 4 (by decide) (hT _ fl_Reply_40) (fun _ h9 => h9) rfl (by decide +kernel) (by decide +kernel) (by decide +kernel) (Nat.le_of_ble_eq_true rfl) d_Reply_begin_12 (ps_E g cI cJ cT (ps_upI (ps_upI (ps_upI σ 6 0 tx) 6 1 (nI 0)) 6 4 (nI 0))) rfl (fun i _ h => by apply ps_E_ext <;> first | rfl | simp [ps_upI, ps_upU, ps_upA, ps_upB, va_up, h]) (fun H locs hP hS => ?_)
  refine lv_aload_n hx hb d_Reply_begin_15 rfl (lv_at hl 0 rfl) ?_
  refine lv_iconst (v := nI 0) hx hb d_Reply_begin_16 (by decide) ?_
  refine ps_put (v := .int (nI 0)) (ty := .int) hx hb hT i_Reply t_Reply t_Reply_ok n_Reply hown hK hg hP hS (k := 6) (by omega) rfl rfl 7 (by decide) (hT _ fl_Reply_44) (fun _ h9 => h9) rfl (by decide +kernel) rfl rfl (Nat.le_of_ble_eq_true rfl) d_Reply_begin_17 (ps_E g cI cJ cT (ps_upI (ps_upI (ps_upI (ps_upI σ 6 0 tx) 6 1 (nI 0)) 6 4 (nI 0)) 6 7 (nI 0))) rfl (fun i _ h => by apply ps_E_ext <;> first | rfl | simp [ps_upI, ps_upU, ps_upA, ps_upB, va_up, h]) (fun H locs hP hS => ?_)
  refine lv_aload_n hx hb d_Reply_begin_20 rfl (lv_at hl 0 rfl) ?_
  refine lv_iconst (v := nI 0) hx hb d_Reply_begin_21 (by decide) ?_
  refine ps_put (v := .int (nI 0)) (ty := .int) hx hb hT i_Reply t_Reply t_Reply_ok n_Reply hown hK hg hP hS (k := 6) (by omega) rfl rfl 8 (by decide) (hT _ fl_Reply_47) (fun _ h9 => h9) rfl (by decide +kernel) rfl rfl (Nat.le_of_ble_eq_true rfl) d_Reply_begin_22 (ps_E g cI cJ cT (ps_upI (ps_upI (ps_upI (ps_upI (ps_upI σ 6 0 tx) 6 1 (nI 0)) 6 4 (nI 0)) 6 7 (nI 0)) 6 8 (nI 0))) rfl (fun i _ h => by apply ps_E_ext <;> first | rfl | simp [ps_upI, ps_upU, ps_upA, ps_upB, va_up, h]) (fun H locs hP hS => ?_)
  refine lv_aload_n hx hb d_Reply_begin_25 rfl (lv_at hl 0 rfl) ?_
  refine ps_get (v := .ref (g 21)) hx hb hT i_Reply hown hK hP (k := 6) (by omega) rfl rfl 9 (by decide) (hT _ fl_Reply_27) (fun _ h9 => h9) rfl d_Reply_begin_26 ?_
  refine ps_wrv (k := 15 + 6) (As := []) (rest := []) ⟨hx, hb, hml, hown, hT⟩ (c_Places_clear (σ := (ps_upI (ps_upI (ps_upI (ps_upI (ps_upI σ 6 0 tx) 6 1 (nI 0)) 6 4 (nI 0)) 6 7 (nI 0)) 6 8 (nI 0))) hg 6 (by decide)) (cwV 0 hT (ps_gV ml_Reply_50 im_Places_clear se_Places_clear in_Places co_Places_clear) rfl rfl rfl cd_Places_clear ⟨Nat.le_of_ble_eq_true rfl, Nat.le_of_ble_eq_true rfl⟩) hK hP hS (fun _ h => h) (by omega) rfl rfl rfl hl.1 rfl (Nat.le_of_ble_eq_true rfl) d_Reply_begin_29 ⟨Nat.zero_le _, Nat.zero_le _⟩ (fun f6 H locs hf6 hP hS _ => ?_)
  refine lv_aload_n hx hb d_Reply_begin_32 rfl (lv_at hl 0 rfl) ?_
  refine ps_get (v := .ref (g 22)) hx hb hT i_Reply hown hK hP (k := 6) (by omega) rfl rfl 10 (by decide) (hT _ fl_Reply_31) (fun _ h9 => h9) rfl d_Reply_begin_33 ?_
  refine ps_wrv (k := 15 + 7) (As := []) (rest := []) ⟨hx, hb, hml, hown, hT⟩ (c_Places_clear (σ := (ps_upB (ps_upI (ps_upI (ps_upI (ps_upI (ps_upI σ 6 0 tx) 6 1 (nI 0)) 6 4 (nI 0)) 6 7 (nI 0)) 6 8 (nI 0)) 30 f6)) hg 7 (by decide)) (cwV 0 hT (ps_gV ml_Reply_50 im_Places_clear se_Places_clear in_Places co_Places_clear) rfl rfl rfl cd_Places_clear ⟨Nat.le_of_ble_eq_true rfl, Nat.le_of_ble_eq_true rfl⟩) hK hP hS (fun _ h => h) (by omega) rfl rfl rfl hl.1 rfl (Nat.le_of_ble_eq_true rfl) d_Reply_begin_36 ⟨Nat.zero_le _, Nat.zero_le _⟩ (fun f7 H locs hf7 hP hS _ => ?_)
  refine lv_aload_n hx hb d_Reply_begin_39 rfl (lv_at hl 0 rfl) ?_
  refine ps_get (v := .ref (g 23)) hx hb hT i_Reply hown hK hP (k := 6) (by omega) rfl rfl 11 (by decide) (hT _ fl_Reply_34) (fun _ h9 => h9) rfl d_Reply_begin_40 ?_
  refine ps_wrv (k := 15 + 8) (As := []) (rest := []) ⟨hx, hb, hml, hown, hT⟩ (c_Places_clear (σ := (ps_upB (ps_upB (ps_upI (ps_upI (ps_upI (ps_upI (ps_upI σ 6 0 tx) 6 1 (nI 0)) 6 4 (nI 0)) 6 7 (nI 0)) 6 8 (nI 0)) 30 f6) 31 f7)) hg 8 (by decide)) (cwV 0 hT (ps_gV ml_Reply_50 im_Places_clear se_Places_clear in_Places co_Places_clear) rfl rfl rfl cd_Places_clear ⟨Nat.le_of_ble_eq_true rfl, Nat.le_of_ble_eq_true rfl⟩) hK hP hS (fun _ h => h) (by omega) rfl rfl rfl hl.1 rfl (Nat.le_of_ble_eq_true rfl) d_Reply_begin_43 ⟨Nat.zero_le _, Nat.zero_le _⟩ (fun f8 H locs hf8 hP hS _ => ?_)
  rw [hQ]
  exact W.vret hx hb hr (fun zt ht _ => ⟨⟨(ps_upB (ps_upB (ps_upB (ps_upI (ps_upI (ps_upI (ps_upI (ps_upI σ 6 0 tx) 6 1 (nI 0)) 6 4 (nI 0)) 6 7 (nI 0)) 6 8 (nI 0)) 30 f6) 31 f7) 32 f8), rfl, ⟨(ps_s6B (by omega) (ps_s6B (by omega) (ps_s6B (by omega) (ps_s6I (ps_s6I (ps_s6I (ps_s6I (ps_s6I (ps_s6_rf σ))))))))), rfl, rfl, rfl, rfl, rfl, ps_hs_zero hf6, ps_hs_zero hf7, ps_hs_zero hf8⟩, ps_hp ht hP⟩, hS.F ht⟩) hS.2.2 d_Reply_begin_46

def rm_Reply_addRow : Room := { frames := 2, cells := 0, slots := 0, locals := 49 }
abbrev ws_Reply_addRow : List Cond := .code y_Reply_addRow b_Reply_addRow 4 none :: ps_tb
set_option maxHeartbeats 4000000 in
set_option maxRecDepth 100000 in
theorem c_Reply_addRow {l : Launch} {D : va_G} {g : Nat → Nat} {cI cJ cT : ClassId} {σ : ps_σ} (hg : ps_inj 33 g) (x y : Int32) (r : Nat) (hr6 : σ.1 6 1 = nI r) (hr5 : r < 6) (hxy : y < x ∨ ∃ a b : Nat, x = nI a ∧ y = nI b ∧ a ≤ b ∧ b < 4096) : Met l y_Reply_addRow ws_Reply_addRow rm_Reply_addRow (ps_Pc D ps_cl (ps_tys cI cJ cT) 33 g (ps_E g cI cJ cT σ) [.ref (g 6), .int x, .int y]) (ps_Qv (S := ps_σ) D ps_cl 33 g (fun u => ps_E g cI cJ cT u) (fun u => (y < x ∧ u = σ) ∨ (∃ a b : Nat, x = nI a ∧ y = nI b ∧ a ≤ b ∧ b < 4096 ∧ ps_s6 σ u ∧ u.1 6 1 = nI (r + 1) ∧ u.2.2.1 7 = va_up (σ.2.2.1 7) r x ∧ u.2.2.1 8 = va_up (σ.2.2.1 8) r y ∧ (∀ q, q < 4096 → ps_hs (u.2.2.2 30) q = (ps_hs (σ.2.2.2 30) q || (decide (a ≤ q) && decide (q ≤ b)))) ∧ (((∃ q, a ≤ q ∧ q ≤ b ∧ ps_hs (σ.2.2.2 30) q = true) ∧ u.1 6 4 = nI 1) ∨ ((¬ ∃ q, a ≤ q ∧ q ≤ b ∧ ps_hs (σ.2.2.2 30) q = true) ∧ u.1 6 4 = σ.1 6 4)) ∧ u.1 6 0 = σ.1 6 0 ∧ u.1 6 7 = σ.1 6 7 ∧ u.1 6 8 = σ.1 6 8 ∧ u.2.2.2 31 = σ.2.2.2 31 ∧ u.2.2.2 32 = σ.2.2.2 32))) 0 0 (ps_wA 33 g) := by
  refine ps_met (by decide) ?_
  intro p e s m args below meth c hx hb hr hml hts hown hlocks hname hv Q hQ
  obtain ⟨ha, hP, hK⟩ := hv
  have hT : ∀ w ∈ ps_tb, w.before args s = true := fun w h => hts w (List.mem_cons_of_mem _ h)
  have hown : s.vm.findClass R_Reply = some m.cls := hown
  have hS : va_S (ps_wA 33 g) s.heap s.heap [] := va_S.rf
  refine ps_enter ha (Nat.le_of_ble_eq_true rfl) (fun ls hl => ?_)
  have hl : lv_has ls 4 [(0, .ref (g 6)), (1, .int x), (2, .int y)] := hl
  rcases hxy with hlt | ⟨a, b, rfl, rfl, hab, hb4⟩
  · refine lv_iload_n hx hb d_Reply_addRow_0 rfl (lv_at hl 1 rfl) ?_
    refine lv_iload_n hx hb d_Reply_addRow_1 rfl (lv_at hl 2 rfl) ?_
    refine lv_icmp_gt (tgt := 14) hx hb d_Reply_addRow_2 (by decide) (fun c_2 => ?_) (fun c_2 => ?_)
    · rw [hQ]
      exact W.vret hx hb hr (fun zt ht _ => ⟨⟨_, rfl, Or.inl ⟨hlt, rfl⟩, ps_hp ht hP⟩, hS.F ht⟩) hS.2.2 d_Reply_addRow_14
    · exact absurd hlt c_2
  · refine lv_iload_n hx hb d_Reply_addRow_0 rfl (lv_at hl 1 rfl) ?_
    refine lv_iload_n hx hb d_Reply_addRow_1 rfl (lv_at hl 2 rfl) ?_
    refine lv_icmp_gt (tgt := 14) hx hb d_Reply_addRow_2 (by decide) (fun c_2 => ?_) (fun c_2 => ?_)
    · exact absurd c_2 (nI_nlt hab (by omega))
    · refine lv_aload_n hx hb d_Reply_addRow_5 rfl (lv_at hl 0 rfl) ?_
      refine ps_get (v := .int (σ.1 6 1)) hx hb hT i_Reply hown hK hP (k := 6) (by omega) ps_E_6 rfl 1 (by decide) (hT _ fl_Reply_37) (fun _ h9 => h9) rfl d_Reply_addRow_6 ?_
      refine ps_seti (y := nI r) hr6 ?_
      refine lv_bipush (v := nI 6) hx hb d_Reply_addRow_9 (by decide) ?_
      refine lv_icmp_lt (tgt := 15) hx hb d_Reply_addRow_11 (by decide) (fun c_11 => ?_) (fun c_11 => ?_)
      · refine lv_aload_n hx hb d_Reply_addRow_15 rfl (lv_at hl 0 rfl) ?_
        refine ps_get (v := .ref (g 7)) hx hb hT i_Reply hown hK hP (k := 6) (by omega) ps_E_6 rfl 2 (by decide) (hT _ fl_Reply_17) (fun _ h9 => h9) rfl d_Reply_addRow_16 ?_
        refine lv_aload_n hx hb d_Reply_addRow_19 rfl (lv_at hl 0 rfl) ?_
        refine ps_get (v := .int (σ.1 6 1)) hx hb hT i_Reply hown hK hP (k := 6) (by omega) ps_E_6 rfl 1 (by decide) (hT _ fl_Reply_37) (fun _ h9 => h9) rfl d_Reply_addRow_20 ?_
        refine ps_seti (y := nI r) hr6 ?_
        refine lv_iload_n hx hb d_Reply_addRow_23 rfl (lv_at hl 1 rfl) ?_
        refine ps_iast (f := σ.2.2.1 7) hx hb hK hg hP hS (k := 7) (by omega) 0 ps_E_7 rfl (i := r) (by omega) (by decide) d_Reply_addRow_24 (ps_E g cI cJ cT (ps_upA σ 7 (va_up (σ.2.2.1 7) r (nI a)))) rfl (fun i _ h => by apply ps_E_ext <;> first | rfl | simp [ps_upI, ps_upU, ps_upA, ps_upB, va_up, h]) (fun H locs hP hS => ?_)
        refine lv_aload_n hx hb d_Reply_addRow_25 rfl (lv_at hl 0 rfl) ?_
        refine ps_get (v := .ref (g 8)) hx hb hT i_Reply hown hK hP (k := 6) (by omega) rfl rfl 3 (by decide) (hT _ fl_Reply_21) (fun _ h9 => h9) rfl d_Reply_addRow_26 ?_
        refine lv_aload_n hx hb d_Reply_addRow_29 rfl (lv_at hl 0 rfl) ?_
        refine ps_get (v := .int (σ.1 6 1)) hx hb hT i_Reply hown hK hP (k := 6) (by omega) rfl rfl 1 (by decide) (hT _ fl_Reply_37) (fun _ h9 => h9) rfl d_Reply_addRow_30 ?_
        refine ps_seti (y := nI r) hr6 ?_
        refine lv_iload_n hx hb d_Reply_addRow_33 rfl (lv_at hl 2 rfl) ?_
        refine ps_iast (f := σ.2.2.1 8) hx hb hK hg hP hS (k := 8) (by omega) 0 rfl rfl (i := r) (by omega) (by decide) d_Reply_addRow_34 (ps_E g cI cJ cT (ps_upA (ps_upA σ 7 (va_up (σ.2.2.1 7) r (nI a))) 8 (va_up (σ.2.2.1 8) r (nI b)))) rfl (fun i _ h => by apply ps_E_ext <;> first | rfl | simp [ps_upI, ps_upU, ps_upA, ps_upB, va_up, h]) (fun H locs hP hS => ?_)
        refine lv_aload_n hx hb d_Reply_addRow_35 rfl (lv_at hl 0 rfl) ?_
        refine lv_dup hx hb d_Reply_addRow_36 rfl ?_
        refine ps_get (v := .int (σ.1 6 1)) hx hb hT i_Reply hown hK hP (k := 6) (by omega) rfl rfl 1 (by decide) (hT _ fl_Reply_37) (fun _ h9 => h9) rfl d_Reply_addRow_37 ?_
        refine ps_seti (y := nI r) hr6 ?_
        refine lv_iconst (v := nI 1) hx hb d_Reply_addRow_40 (by decide) ?_
        refine lv_iadd hx hb d_Reply_addRow_41 ?_
        refine ps_seti (y := nI (r + 1)) (nI_1 r) ?_
        refine ps_put (v := .int (nI (r + 1))) (ty := .int) hx hb hT i_Reply t_Reply t_Reply_ok n_Reply hown hK hg hP hS (k := 6) (by omega) rfl rfl 1 (by decide) (hT _ fl_Reply_37) (fun _ h9 => h9) rfl (by decide +kernel) rfl rfl (Nat.le_of_ble_eq_true rfl) d_Reply_addRow_42 (ps_E g cI cJ cT (ps_upI (ps_upA (ps_upA σ 7 (va_up (σ.2.2.1 7) r (nI a))) 8 (va_up (σ.2.2.1 8) r (nI b))) 6 1 (nI (r + 1)))) rfl (fun i _ h => by apply ps_E_ext <;> first | rfl | simp [ps_upI, ps_upU, ps_upA, ps_upB, va_up, h]) (fun H locs hP hS => ?_)
        refine lv_aload_n hx hb d_Reply_addRow_45 rfl (lv_at hl 0 rfl) ?_
        refine ps_get (v := .ref (g 21)) hx hb hT i_Reply hown hK hP (k := 6) (by omega) rfl rfl 9 (by decide) (hT _ fl_Reply_27) (fun _ h9 => h9) rfl d_Reply_addRow_46 ?_
        refine lv_iload_n hx hb d_Reply_addRow_49 rfl (lv_at hl 1 rfl) ?_
        refine lv_iload_n hx hb d_Reply_addRow_50 rfl (lv_at hl 2 rfl) ?_
        refine ps_wri (k := 15 + 6) (As := [.int (nI a), .int (nI b)]) (rest := []) ⟨hx, hb, hml, hown, hT⟩ (c_Places_add (σ := (ps_upI (ps_upA (ps_upA σ 7 (va_up (σ.2.2.1 7) r (nI a))) 8 (va_up (σ.2.2.1 8) r (nI b))) 6 1 (nI (r + 1)))) hg 6 (by decide) a b hab hb4) (cwV 2 hT (ps_gV ml_Reply_53 im_Places_add se_Places_add in_Places co_Places_add) rfl rfl rfl cd_Places_add ⟨Nat.le_of_ble_eq_true rfl, Nat.le_of_ble_eq_true rfl⟩) hK hP hS (fun _ h => h) (by omega) rfl rfl rfl hl.1 rfl (Nat.le_of_ble_eq_true rfl) d_Reply_addRow_51 ⟨Nat.zero_le _, Nat.zero_le _⟩ (fun rr f6 H locs hz hP hS _ => ?_)
        obtain ⟨hz1, hz2⟩ := hz
        have hz1 : rr = nI (ps_cn (ps_ad (ps_hs (σ.2.2.2 30)) a b) 4096) := hz1
        subst hz1
        have hz2 : ∀ q, q < 4096 → ps_hs f6 q = (ps_hs (σ.2.2.2 30) q || (decide (a ≤ q) && decide (q ≤ b))) := hz2
        refine lv_istore_n (lv' := [(3, .int (nI (ps_cn (ps_ad (ps_hs (σ.2.2.2 30)) a b) 4096))), (0, .ref (g 6)), (1, .int (nI a)), (2, .int (nI b))]) hx hb d_Reply_addRow_54 rfl hl (by decide) rfl (fun ls hl => ?_)
        refine lv_iload_n hx hb d_Reply_addRow_55 rfl (lv_at hl 0 rfl) ?_
        refine lv_iload_n hx hb d_Reply_addRow_56 rfl (lv_at hl 3 rfl) ?_
        refine lv_iload_n hx hb d_Reply_addRow_57 rfl (lv_at hl 2 rfl) ?_
        refine lv_isub hx hb d_Reply_addRow_58 ?_
        refine ps_seti (y := nI (b - a)) (pk_sub hab) ?_
        refine lv_iconst (v := nI 1) hx hb d_Reply_addRow_59 (by decide) ?_
        refine lv_iadd hx hb d_Reply_addRow_60 ?_
        refine ps_seti (y := nI (b - a + 1)) (nI_1 _) ?_
        refine lv_icmp_ge (tgt := 69) hx hb d_Reply_addRow_61 (by decide) (fun c_61 => ?_) (fun c_61 => ?_)
        · have hno : ¬ ∃ q, a ≤ q ∧ q ≤ b ∧ ps_hs (σ.2.2.2 30) q = true := fun h => by have h1 := (ps_ad_lt hab hb4).mpr h; have := ps_leT c_61 (by omega) (by omega); omega
          rw [hQ]
          exact W.vret hx hb hr (fun zt ht _ => ⟨⟨(ps_upB (ps_upI (ps_upA (ps_upA σ 7 (va_up (σ.2.2.1 7) r (nI a))) 8 (va_up (σ.2.2.1 8) r (nI b))) 6 1 (nI (r + 1))) 30 f6), rfl, Or.inr ⟨a, b, rfl, rfl, hab, hb4, (ps_s6B (by omega) (ps_s6I (ps_s6A8 (ps_s6A7 (ps_s6_rf σ))))), rfl, rfl, rfl, hz2, Or.inr ⟨hno, rfl⟩, rfl, rfl, rfl, rfl, rfl⟩, ps_hp ht hP⟩, hS.F ht⟩) hS.2.2 d_Reply_addRow_69
        · have hno : ∃ q, a ≤ q ∧ q ≤ b ∧ ps_hs (σ.2.2.2 30) q = true := (ps_ad_lt hab hb4).mp (ps_ltOf c_61 (by have := ps_cn_le (ps_ad (ps_hs (σ.2.2.2 30)) a b) 4096; omega) (by omega))
          refine lv_aload_n hx hb d_Reply_addRow_64 rfl (lv_at hl 1 rfl) ?_
          refine lv_iconst (v := nI 1) hx hb d_Reply_addRow_65 (by decide) ?_
          refine ps_put (v := .int (nI 1)) (ty := .boolean) hx hb hT i_Reply t_Reply t_Reply_ok n_Reply hown hK hg hP hS (k := 6) (by omega) rfl rfl 4 (by decide) (hT _ fl_Reply_40) (fun _ h9 => h9) rfl (by decide +kernel) (by decide +kernel) (by decide +kernel) (Nat.le_of_ble_eq_true rfl) d_Reply_addRow_66 (ps_E g cI cJ cT (ps_upI (ps_upB (ps_upI (ps_upA (ps_upA σ 7 (va_up (σ.2.2.1 7) r (nI a))) 8 (va_up (σ.2.2.1 8) r (nI b))) 6 1 (nI (r + 1))) 30 f6) 6 4 (nI 1))) rfl (fun i _ h => by apply ps_E_ext <;> first | rfl | simp [ps_upI, ps_upU, ps_upA, ps_upB, va_up, h]) (fun H locs hP hS => ?_)
          rw [hQ]
          exact W.vret hx hb hr (fun zt ht _ => ⟨⟨(ps_upI (ps_upB (ps_upI (ps_upA (ps_upA σ 7 (va_up (σ.2.2.1 7) r (nI a))) 8 (va_up (σ.2.2.1 8) r (nI b))) 6 1 (nI (r + 1))) 30 f6) 6 4 (nI 1)), rfl, Or.inr ⟨a, b, rfl, rfl, hab, hb4, (ps_s6I (ps_s6B (by omega) (ps_s6I (ps_s6A8 (ps_s6A7 (ps_s6_rf σ)))))), rfl, rfl, rfl, hz2, Or.inl ⟨hno, rfl⟩, rfl, rfl, rfl, rfl, rfl⟩, ps_hp ht hP⟩, hS.F ht⟩) hS.2.2 d_Reply_addRow_69
      · exact absurd (nI_lt hr5 (by decide)) c_11

def rm_Reply_number : Room := { frames := 0, cells := 0, slots := 0, locals := 0 }
abbrev ws_Reply_number : List Cond := .code y_Reply_number b_Reply_number 2 (some .int) :: ps_tb
set_option maxHeartbeats 4000000 in
set_option maxRecDepth 100000 in
theorem c_Reply_number {l : Launch} {D : va_G} {g : Nat → Nat} {cI cJ cT : ClassId} {σ : ps_σ} (x : Int32) : Met l y_Reply_number ws_Reply_number rm_Reply_number (ps_Pc D ps_cl (ps_tys cI cJ cT) 33 g (ps_E g cI cJ cT σ) [.ref (g 6), .int x]) (vp_Si (fun r => r = ps_num σ x)) 0 0 (fun _ => False) := by
  refine ps_met (by decide) ?_
  intro p e s m args below meth c hx hb hr hml hts hown hlocks hname hv Q hQ
  obtain ⟨ha, hP, hK⟩ := hv
  have hT : ∀ w ∈ ps_tb, w.before args s = true := fun w h => hts w (List.mem_cons_of_mem _ h)
  have hown : s.vm.findClass R_Reply = some m.cls := hown
  refine ps_enter ha (Nat.le_of_ble_eq_true rfl) (fun ls hl => ?_)
  have hl : lv_has ls 2 [(0, .ref (g 6)), (1, .int x)] := hl
  refine lv_aload_n hx hb d_Reply_number_0 rfl (lv_at hl 0 rfl) ?_
  refine ps_get (v := .int (σ.1 6 0)) hx hb hT i_Reply hown hK hP (k := 6) (by omega) ps_E_6 rfl 0 (by decide) (hT _ fl_Reply_9) (fun _ h9 => h9) rfl d_Reply_number_1 ?_
  refine lv_iconst (v := -1) hx hb d_Reply_number_4 (by decide) ?_
  refine lv_icmp_ne (tgt := 10) hx hb d_Reply_number_5 (by decide) (fun c_5 => ?_) (fun c_5 => ?_)
  · rcases ps_sw6 x with h | rfl | rfl | rfl | rfl | rfl | rfl
    · refine lv_iload_n hx hb d_Reply_number_10 rfl (lv_at hl 1 rfl) ?_
      refine lv_tableOut (tgt := 78) hx hb d_Reply_number_11 h (by decide) ?_
      refine lv_iconst (v := -1) hx hb d_Reply_number_78 (by decide) ?_
      rw [hQ]
      exact W.iret (v := -1) hx hb hr (fun zt ht _ => ⟨_, rfl, (ps_num_out h).symm, ht⟩) (fun q h => absurd h List.not_mem_nil) d_Reply_number_79
    · refine lv_iload_n hx hb d_Reply_number_10 rfl (lv_at hl 1 rfl) ?_
      refine lv_tableIn (tgt := 48) (off := 37) hx hb d_Reply_number_11 (by decide) (by decide) (by decide) (by decide) ?_
      refine lv_aload_n hx hb d_Reply_number_48 rfl (lv_at hl 0 rfl) ?_
      refine ps_get (v := .int (σ.1 6 1)) hx hb hT i_Reply hown hK hP (k := 6) (by omega) ps_E_6 rfl 1 (by decide) (hT _ fl_Reply_37) (fun _ h9 => h9) rfl d_Reply_number_49 ?_
      rw [hQ]
      exact W.iret (v := σ.1 6 1) hx hb hr (fun zt ht _ => ⟨_, rfl, by unfold ps_num; rw [if_neg c_5]; rfl, ht⟩) (fun q h => absurd h List.not_mem_nil) d_Reply_number_52
    · refine lv_iload_n hx hb d_Reply_number_10 rfl (lv_at hl 1 rfl) ?_
      refine lv_tableIn (tgt := 53) (off := 42) hx hb d_Reply_number_11 (by decide) (by decide) (by decide) (by decide) ?_
      refine lv_aload_n hx hb d_Reply_number_53 rfl (lv_at hl 0 rfl) ?_
      refine ps_get (v := .int (σ.1 6 5)) hx hb hT i_Reply hown hK hP (k := 6) (by omega) ps_E_6 rfl 5 (by decide) (hT _ fl_Reply_64) (fun _ h9 => h9) rfl d_Reply_number_54 ?_
      rw [hQ]
      exact W.iret (v := σ.1 6 5) hx hb hr (fun zt ht _ => ⟨_, rfl, by unfold ps_num; rw [if_neg c_5]; rfl, ht⟩) (fun q h => absurd h List.not_mem_nil) d_Reply_number_57
    · refine lv_iload_n hx hb d_Reply_number_10 rfl (lv_at hl 1 rfl) ?_
      refine lv_tableIn (tgt := 58) (off := 47) hx hb d_Reply_number_11 (by decide) (by decide) (by decide) (by decide) ?_
      refine lv_aload_n hx hb d_Reply_number_58 rfl (lv_at hl 0 rfl) ?_
      refine ps_get (v := .int (σ.1 6 6)) hx hb hT i_Reply hown hK hP (k := 6) (by omega) ps_E_6 rfl 6 (by decide) (hT _ fl_Reply_71) (fun _ h9 => h9) rfl d_Reply_number_59 ?_
      rw [hQ]
      exact W.iret (v := σ.1 6 6) hx hb hr (fun zt ht _ => ⟨_, rfl, by unfold ps_num; rw [if_neg c_5]; rfl, ht⟩) (fun q h => absurd h List.not_mem_nil) d_Reply_number_62
    · refine lv_iload_n hx hb d_Reply_number_10 rfl (lv_at hl 1 rfl) ?_
      refine lv_tableIn (tgt := 63) (off := 52) hx hb d_Reply_number_11 (by decide) (by decide) (by decide) (by decide) ?_
      refine lv_aload_n hx hb d_Reply_number_63 rfl (lv_at hl 0 rfl) ?_
      refine ps_get (v := .int (σ.1 6 7)) hx hb hT i_Reply hown hK hP (k := 6) (by omega) ps_E_6 rfl 7 (by decide) (hT _ fl_Reply_44) (fun _ h9 => h9) rfl d_Reply_number_64 ?_
      rw [hQ]
      exact W.iret (v := σ.1 6 7) hx hb hr (fun zt ht _ => ⟨_, rfl, by unfold ps_num; rw [if_neg c_5]; rfl, ht⟩) (fun q h => absurd h List.not_mem_nil) d_Reply_number_67
    · refine lv_iload_n hx hb d_Reply_number_10 rfl (lv_at hl 1 rfl) ?_
      refine lv_tableIn (tgt := 68) (off := 57) hx hb d_Reply_number_11 (by decide) (by decide) (by decide) (by decide) ?_
      refine lv_aload_n hx hb d_Reply_number_68 rfl (lv_at hl 0 rfl) ?_
      refine ps_get (v := .int (σ.1 6 8)) hx hb hT i_Reply hown hK hP (k := 6) (by omega) ps_E_6 rfl 8 (by decide) (hT _ fl_Reply_47) (fun _ h9 => h9) rfl d_Reply_number_69 ?_
      rw [hQ]
      exact W.iret (v := σ.1 6 8) hx hb hr (fun zt ht _ => ⟨_, rfl, by unfold ps_num; rw [if_neg c_5]; rfl, ht⟩) (fun q h => absurd h List.not_mem_nil) d_Reply_number_72
    · refine lv_iload_n hx hb d_Reply_number_10 rfl (lv_at hl 1 rfl) ?_
      refine lv_tableIn (tgt := 73) (off := 62) hx hb d_Reply_number_11 (by decide) (by decide) (by decide) (by decide) ?_
      refine lv_aload_n hx hb d_Reply_number_73 rfl (lv_at hl 0 rfl) ?_
      refine ps_get (v := .int (σ.1 6 0)) hx hb hT i_Reply hown hK hP (k := 6) (by omega) ps_E_6 rfl 0 (by decide) (hT _ fl_Reply_9) (fun _ h9 => h9) rfl d_Reply_number_74 ?_
      rw [hQ]
      exact W.iret (v := σ.1 6 0) hx hb hr (fun zt ht _ => ⟨_, rfl, by unfold ps_num; rw [if_neg c_5]; rfl, ht⟩) (fun q h => absurd h List.not_mem_nil) d_Reply_number_77
  · refine lv_iconst (v := -1) hx hb d_Reply_number_8 (by decide) ?_
    rw [hQ]
    exact W.iret (v := -1) hx hb hr (fun zt ht _ => ⟨_, rfl, by unfold ps_num; rw [if_pos c_5], ht⟩) (fun q h => absurd h List.not_mem_nil) d_Reply_number_9

def rm_Reply_lastOfFetch : Room := { frames := 3, cells := 0, slots := 0, locals := 69 }
abbrev ws_Reply_lastOfFetch : List Cond := .code y_Reply_lastOfFetch b_Reply_lastOfFetch 6 (some .int) :: ps_tb
set_option maxHeartbeats 4000000 in
set_option maxRecDepth 100000 in
theorem c_Reply_lastOfFetch {l : Launch} {D : va_G} {g : Nat → Nat} {cI cJ cT : ClassId} {σ : ps_σ} (a cc1 : Nat) (ha4 : a < 4096) (hc1 : cc1 < 2 ^ 30) (hma : ps_hs (σ.2.2.2 30) a = true) : Met l y_Reply_lastOfFetch ws_Reply_lastOfFetch rm_Reply_lastOfFetch (ps_Pc D ps_cl (ps_tys cI cJ cT) 33 g (ps_E g cI cJ cT σ) [.ref (g 6), .int (nI a), .int (nI cc1)]) (vp_Si (fun r => r = nI (ps_lof (ps_hs (σ.2.2.2 30)) cc1 4096 a))) 0 0 (fun _ => False) := by
  refine ps_met (by decide) ?_
  intro p e s m args below meth c hx hb hr hml hts hown hlocks hname hv Q hQ
  obtain ⟨ha, hP, hK⟩ := hv
  have hT : ∀ w ∈ ps_tb, w.before args s = true := fun w h => hts w (List.mem_cons_of_mem _ h)
  have hown : s.vm.findClass R_Reply = some m.cls := hown
  refine ps_enter ha (Nat.le_of_ble_eq_true rfl) (fun ls hl => ?_)
  have hl : lv_has ls 6 [(0, .ref (g 6)), (1, .int (nI a)), (2, .int (nI cc1))] := hl
  refine lv_iload_n hx hb d_Reply_lastOfFetch_0 rfl (lv_at hl 1 rfl) ?_
  refine lv_istore_n (lv' := [(3, .int (nI a)), (0, .ref (g 6)), (1, .int (nI a)), (2, .int (nI cc1))]) hx hb d_Reply_lastOfFetch_1 rfl hl (by decide) rfl (fun ls hl => ?_)
  refine lv_iconst (v := nI 0) hx hb d_Reply_lastOfFetch_2 (by decide) ?_
  refine lv_istore (lv' := [(4, .int (nI 0)), (3, .int (nI a)), (0, .ref (g 6)), (1, .int (nI a)), (2, .int (nI cc1))]) hx hb d_Reply_lastOfFetch_3 hl (by decide) rfl (fun ls hl => ?_)
  have L_a : ∀ (n_a : Nat) (j z : Nat), (j ≤ 4096) → (z < 4096) → (ps_hs (σ.2.2.2 30) z = true) → (ps_lof (ps_hs (σ.2.2.2 30)) cc1 4096 a = ps_lof (ps_hs (σ.2.2.2 30)) cc1 (4096 - j) z) → 4096 - j < n_a → ∀ (ls : Array Slot), lv_has ls 6 [(0, .ref (g 6)), (2, .int (nI cc1)), (3, .int (nI z)), (4, .int (nI j))] → W p l e rm_Reply_lastOfFetch s m args below meth c s.heap [] 0 0 Q (F0 m 5 ls []) := by
    intro n_a
    induction n_a with
    | zero => intro j z hj hz4 hmz he hf_a; exact absurd hf_a (Nat.not_lt_zero _)
    | succ n_a ih_a =>
      intro j z hj hz4 hmz he hf_a ls hl
      refine lv_iload hx hb d_Reply_lastOfFetch_5 (lv_at hl 3 rfl) ?_
      refine lv_sipush (v := nI 4096) hx hb d_Reply_lastOfFetch_7 (by decide) ?_
      refine lv_icmp_ge (tgt := 65) hx hb d_Reply_lastOfFetch_10 (by decide) (fun c_10 => ?_) (fun c_10 => ?_)
      · have hj4 : j = 4096 := by have := ps_leT c_10 (by omega) (by omega); omega
        have hp : ps_lof (ps_hs (σ.2.2.2 30)) cc1 4096 a = z := by rw [he, hj4]; rfl
        refine lv_iload_n hx hb d_Reply_lastOfFetch_65 rfl (lv_at hl 2 rfl) ?_
        rw [hQ]
        exact W.iret (v := nI z) hx hb hr (fun zt ht _ => ⟨_, rfl, by rw [hp], ht⟩) (fun q h => absurd h List.not_mem_nil) d_Reply_lastOfFetch_66
      · have hj4 : j < 4096 := by have := ps_ltOf c_10 (by omega) (by omega); omega
        refine lv_aload_n hx hb d_Reply_lastOfFetch_13 rfl (lv_at hl 0 rfl) ?_
        refine ps_get (v := .ref (g 21)) hx hb hT i_Reply hown hK hP (k := 6) (by omega) ps_E_6 rfl 9 (by decide) (hT _ fl_Reply_27) (fun _ h9 => h9) rfl d_Reply_lastOfFetch_14 ?_
        refine lv_iload_n hx hb d_Reply_lastOfFetch_17 rfl (lv_at hl 2 rfl) ?_
        refine lv_iconst (v := nI 1) hx hb d_Reply_lastOfFetch_18 (by decide) ?_
        refine lv_iadd hx hb d_Reply_lastOfFetch_19 ?_
        refine ps_seti (y := nI (z + 1)) (nI_1 z) ?_
        refine lv_iconst (v := nI 1) hx hb d_Reply_lastOfFetch_20 (by decide) ?_
        refine ps_roi (k := 15 + 6) (As := [.int (nI (z + 1)), .int (nI 1)]) (rest := []) ⟨hx, hb, hml, hown, hT⟩ (c_Places_next 6 (by decide) (z + 1) (by omega) true) (cwV 2 hT (ps_gV ml_Reply_78 im_Places_next se_Places_next in_Places co_Places_next) rfl rfl rfl cd_Places_next ⟨Nat.le_of_ble_eq_true rfl, Nat.le_of_ble_eq_true rfl⟩) hK hP (by omega) (ps_E_pl (by decide)) rfl rfl hl.1 rfl (Nat.le_of_ble_eq_true rfl) d_Reply_lastOfFetch_21 ⟨Nat.zero_le _, Nat.zero_le _⟩ (fun rr hrr => ?_)
        have hrr : rr = nI (ps_nx (ps_hs (σ.2.2.2 30)) true (z + 1)) := hrr
        subst hrr
        refine lv_istore (lv' := [(5, .int (nI (ps_nx (ps_hs (σ.2.2.2 30)) true (z + 1)))), (0, .ref (g 6)), (2, .int (nI cc1)), (3, .int (nI z)), (4, .int (nI j))]) hx hb d_Reply_lastOfFetch_24 hl (by decide) rfl (fun ls hl => ?_)
        refine lv_iload hx hb d_Reply_lastOfFetch_26 (lv_at hl 0 rfl) ?_
        refine lv_sipush (v := nI 4096) hx hb d_Reply_lastOfFetch_28 (by decide) ?_
        refine lv_icmp_eq (tgt := 44) hx hb d_Reply_lastOfFetch_31 (by decide) (fun c_31 => ?_) (fun c_31 => ?_)
        · have hn4 : ps_nx (ps_hs (σ.2.2.2 30)) true (z + 1) = 4096 := (nI_eq (by have := (ps_nx_spec (ps_hs (σ.2.2.2 30)) true (p := z + 1) (by omega)).2.1; omega) (by decide)).mp c_31
          have hp : ps_lof (ps_hs (σ.2.2.2 30)) cc1 4096 a = z := by rw [he]; exact ps_lof_stop (Or.inl hn4)
          refine lv_iload_n hx hb d_Reply_lastOfFetch_44 rfl (lv_at hl 3 rfl) ?_
          rw [hQ]
          exact W.iret (v := nI z) hx hb hr (fun zt ht _ => ⟨_, rfl, by rw [hp], ht⟩) (fun q h => absurd h List.not_mem_nil) d_Reply_lastOfFetch_45
        · have hn4 : ¬ ps_nx (ps_hs (σ.2.2.2 30)) true (z + 1) = 4096 := fun h => c_31 (by rw [h])
          have hst := ps_lof_st hz4 hn4
          refine lv_iload hx hb d_Reply_lastOfFetch_34 (lv_at hl 0 rfl) ?_
          refine lv_iload_n hx hb d_Reply_lastOfFetch_36 rfl (lv_at hl 3 rfl) ?_
          refine lv_isub hx hb d_Reply_lastOfFetch_37 ?_
          refine ps_seti (y := nI (ps_nx (ps_hs (σ.2.2.2 30)) true (z + 1) - z)) (pk_sub (by omega)) ?_
          refine lv_iconst (v := nI 1) hx hb d_Reply_lastOfFetch_38 (by decide) ?_
          refine lv_isub hx hb d_Reply_lastOfFetch_39 ?_
          refine ps_seti (y := nI (ps_nx (ps_hs (σ.2.2.2 30)) true (z + 1) - z - 1)) (pk_sub (by omega)) ?_
          refine lv_iload_n hx hb d_Reply_lastOfFetch_40 rfl (lv_at hl 2 rfl) ?_
          refine lv_icmp_le (tgt := 46) hx hb d_Reply_lastOfFetch_41 (by decide) (fun c_41 => ?_) (fun c_41 => ?_)
          · have hgo : ¬ (ps_nx (ps_hs (σ.2.2.2 30)) true (z + 1) = 4096 ∨ cc1 < ps_nx (ps_hs (σ.2.2.2 30)) true (z + 1) - z - 1) := by have := ps_leT c_41 (by omega) (by omega); omega
            refine lv_aload_n hx hb d_Reply_lastOfFetch_46 rfl (lv_at hl 1 rfl) ?_
            refine ps_get (v := .ref (g 21)) hx hb hT i_Reply hown hK hP (k := 6) (by omega) ps_E_6 rfl 9 (by decide) (hT _ fl_Reply_27) (fun _ h9 => h9) rfl d_Reply_lastOfFetch_47 ?_
            refine lv_iload hx hb d_Reply_lastOfFetch_50 (lv_at hl 0 rfl) ?_
            refine lv_iconst (v := nI 0) hx hb d_Reply_lastOfFetch_52 (by decide) ?_
            refine ps_roi (k := 15 + 6) (As := [.int (nI (ps_nx (ps_hs (σ.2.2.2 30)) true (z + 1))), .int (nI 0)]) (rest := []) ⟨hx, hb, hml, hown, hT⟩ (c_Places_next 6 (by decide) (ps_nx (ps_hs (σ.2.2.2 30)) true (z + 1)) (by omega) false) (cwV 2 hT (ps_gV ml_Reply_78 im_Places_next se_Places_next in_Places co_Places_next) rfl rfl rfl cd_Places_next ⟨Nat.le_of_ble_eq_true rfl, Nat.le_of_ble_eq_true rfl⟩) hK hP (by omega) (ps_E_pl (by decide)) rfl rfl hl.1 rfl (Nat.le_of_ble_eq_true rfl) d_Reply_lastOfFetch_53 ⟨Nat.zero_le _, Nat.zero_le _⟩ (fun rr hrr => ?_)
            have hrr : rr = nI (ps_nx (ps_hs (σ.2.2.2 30)) false (ps_nx (ps_hs (σ.2.2.2 30)) true (z + 1))) := hrr
            subst hrr
            refine lv_iconst (v := nI 1) hx hb d_Reply_lastOfFetch_56 (by decide) ?_
            refine lv_isub hx hb d_Reply_lastOfFetch_57 ?_
            refine ps_seti (y := nI (ps_nx (ps_hs (σ.2.2.2 30)) false (ps_nx (ps_hs (σ.2.2.2 30)) true (z + 1)) - 1)) (pk_sub (by omega)) ?_
            refine lv_istore_n (lv' := [(3, .int (nI (ps_nx (ps_hs (σ.2.2.2 30)) false (ps_nx (ps_hs (σ.2.2.2 30)) true (z + 1)) - 1))), (5, .int (nI (ps_nx (ps_hs (σ.2.2.2 30)) true (z + 1)))), (0, .ref (g 6)), (2, .int (nI cc1)), (4, .int (nI j))]) hx hb d_Reply_lastOfFetch_58 rfl hl (by decide) rfl (fun ls hl => ?_)
            refine lv_iinc (v := (nI (j + 1))) (lv' := [(4, .int (nI (j + 1))), (3, .int (nI (ps_nx (ps_hs (σ.2.2.2 30)) false (ps_nx (ps_hs (σ.2.2.2 30)) true (z + 1)) - 1))), (5, .int (nI (ps_nx (ps_hs (σ.2.2.2 30)) true (z + 1)))), (0, .ref (g 6)), (2, .int (nI cc1))]) hx hb d_Reply_lastOfFetch_59 hl (k := 4) rfl (nI_1 _) (by decide) rfl (fun ls hl => ?_)
            refine lv_goto (tgt := 5) hx hb d_Reply_lastOfFetch_62 (by decide) ?_
            exact ih_a (j + 1) (ps_nx (ps_hs (σ.2.2.2 30)) false (ps_nx (ps_hs (σ.2.2.2 30)) true (z + 1)) - 1) (by omega) (by omega) hst.2.2.2.2 (by rw [he, ps_lof_go (by omega) hgo]; rfl) (by omega)  ls (lv_sub hl [3, 4, 1, 0] rfl)
          · have hp : ps_lof (ps_hs (σ.2.2.2 30)) cc1 4096 a = z := by rw [he]; exact ps_lof_stop (Or.inr (ps_ltOf c_41 (by omega) (by omega)))
            refine lv_iload_n hx hb d_Reply_lastOfFetch_44 rfl (lv_at hl 3 rfl) ?_
            rw [hQ]
            exact W.iret (v := nI z) hx hb hr (fun zt ht _ => ⟨_, rfl, by rw [hp], ht⟩) (fun q h => absurd h List.not_mem_nil) d_Reply_lastOfFetch_45
  exact L_a (4096 - 0 + 1) 0 a (by omega) ha4 hma rfl (by omega)  ls (lv_sub hl [2, 4, 1, 0] rfl)

def rm_Reply_joinRows : Room := { frames := 3, cells := 0, slots := 0, locals := 69 }
abbrev ws_Reply_joinRows : List Cond := .code y_Reply_joinRows b_Reply_joinRows 3 none :: ps_tb
set_option maxHeartbeats 4000000 in
set_option maxRecDepth 100000 in
theorem c_Reply_joinRows {l : Launch} {D : va_G} {g : Nat → Nat} {cI cJ cT : ClassId} {σ : ps_σ} (hg : ps_inj 33 g)  : Met l y_Reply_joinRows ws_Reply_joinRows rm_Reply_joinRows (ps_Pc D ps_cl (ps_tys cI cJ cT) 33 g (ps_E g cI cJ cT σ) [.ref (g 6)]) (ps_Qv (S := ps_σ) D ps_cl 33 g (fun u => ps_E g cI cJ cT u) (fun u => ps_s6 σ u ∧ u.1 6 1 = nI (ps_spF (ps_hs (σ.2.2.2 30)) 6 0).length ∧ (∀ i, (hi : i < (ps_spF (ps_hs (σ.2.2.2 30)) 6 0).length) → u.2.2.1 7 i = nI (ps_spF (ps_hs (σ.2.2.2 30)) 6 0)[i].1 ∧ u.2.2.1 8 i = nI (ps_spF (ps_hs (σ.2.2.2 30)) 6 0)[i].2) ∧ u.1 6 0 = σ.1 6 0 ∧ u.1 6 7 = σ.1 6 7 ∧ u.1 6 8 = σ.1 6 8 ∧ u.2.2.2 = σ.2.2.2)) 0 0 (ps_wA 33 g) := by
  refine ps_met (by decide) ?_
  intro p e s m args below meth c hx hb hr hml hts hown hlocks hname hv Q hQ
  obtain ⟨ha, hP, hK⟩ := hv
  have hT : ∀ w ∈ ps_tb, w.before args s = true := fun w h => hts w (List.mem_cons_of_mem _ h)
  have hown : s.vm.findClass R_Reply = some m.cls := hown
  have hS : va_S (ps_wA 33 g) s.heap s.heap [] := va_S.rf
  refine ps_enter ha (Nat.le_of_ble_eq_true rfl) (fun ls hl => ?_)
  have hl : lv_has ls 3 [(0, .ref (g 6))] := hl
  refine lv_aload_n hx hb d_Reply_joinRows_0 rfl (lv_at hl 0 rfl) ?_
  refine lv_iconst (v := nI 0) hx hb d_Reply_joinRows_1 (by decide) ?_
  refine ps_put (v := .int (nI 0)) (ty := .int) hx hb hT i_Reply t_Reply t_Reply_ok n_Reply hown hK hg hP hS (k := 6) (by omega) ps_E_6 rfl 1 (by decide) (hT _ fl_Reply_37) (fun _ h9 => h9) rfl (by decide +kernel) rfl rfl (Nat.le_of_ble_eq_true rfl) d_Reply_joinRows_2 (ps_E g cI cJ cT (ps_upI σ 6 1 (nI 0))) rfl (fun i _ h => by apply ps_E_ext <;> first | rfl | simp [ps_upI, ps_upU, ps_upA, ps_upB, va_up, h]) (fun H locs hP hS => ?_)
  refine lv_aload_n hx hb d_Reply_joinRows_5 rfl (lv_at hl 0 rfl) ?_
  refine ps_get (v := .ref (g 21)) hx hb hT i_Reply hown hK hP (k := 6) (by omega) rfl rfl 9 (by decide) (hT _ fl_Reply_27) (fun _ h9 => h9) rfl d_Reply_joinRows_6 ?_
  refine lv_iconst (v := nI 0) hx hb d_Reply_joinRows_9 (by decide) ?_
  refine lv_iconst (v := nI 1) hx hb d_Reply_joinRows_10 (by decide) ?_
  refine ps_roi (k := 15 + 6) (As := [.int (nI 0), .int (nI 1)]) (rest := []) ⟨hx, hb, hml, hown, hT⟩ (c_Places_next (σ := (ps_upI σ 6 1 (nI 0))) 6 (by decide) 0 (by omega) true) (cwV 2 hT (ps_gV ml_Reply_78 im_Places_next se_Places_next in_Places co_Places_next) rfl rfl rfl cd_Places_next ⟨Nat.le_of_ble_eq_true rfl, Nat.le_of_ble_eq_true rfl⟩) hK hP (by omega) rfl rfl rfl hl.1 rfl (Nat.le_of_ble_eq_true rfl) d_Reply_joinRows_11 ⟨Nat.zero_le _, Nat.zero_le _⟩ (fun rr hrr => ?_)
  have hrr : rr = nI (ps_nx (ps_hs (σ.2.2.2 30)) true 0) := hrr
  subst hrr
  refine lv_istore_n (lv' := [(1, .int (nI (ps_nx (ps_hs (σ.2.2.2 30)) true 0))), (0, .ref (g 6))]) hx hb d_Reply_joinRows_14 rfl hl (by decide) rfl (fun ls hl => ?_)
  have L_a : ∀ (n_a : Nat) (k p1 : Nat) (P : List (Nat × Nat)) (fb fh : Nat → Int32), (k ≤ 6) → (p1 ≤ 4096) → (ps_spF (ps_hs (σ.2.2.2 30)) 6 0 = P ++ ps_spF (ps_hs (σ.2.2.2 30)) (6 - k) p1) → (P.length = k) → (∀ i, (hi : i < P.length) → fb i = nI P[i].1 ∧ fh i = nI P[i].2) → 6 - k < n_a → ∀ (H : Heap) (locs : List Loc), va_P D ps_cl (ps_wl 33 g (ps_E g cI cJ cT (ps_upI (ps_upA (ps_upA σ 7 fb) 8 fh) 6 1 (nI k)))) H → va_S (ps_wA 33 g) s.heap H locs → ∀ (ls : Array Slot), lv_has ls 3 [(0, .ref (g 6)), (1, .int (nI (ps_nx (ps_hs (σ.2.2.2 30)) true p1)))] → W p l e rm_Reply_joinRows s m args below meth c H locs 0 0 Q (F0 m 15 ls []) := by
    intro n_a
    induction n_a with
    | zero => intro k p1 P fb fh hk hp4 hsp hpl hpt hf_a; exact absurd hf_a (Nat.not_lt_zero _)
    | succ n_a ih_a =>
      intro k p1 P fb fh hk hp4 hsp hpl hpt hf_a H locs hP hS ls hl
      refine lv_aload_n hx hb d_Reply_joinRows_15 rfl (lv_at hl 0 rfl) ?_
      refine ps_get (v := .int (nI k)) hx hb hT i_Reply hown hK hP (k := 6) (by omega) rfl rfl 1 (by decide) (hT _ fl_Reply_37) (fun _ h9 => h9) rfl d_Reply_joinRows_16 ?_
      refine lv_bipush (v := nI 6) hx hb d_Reply_joinRows_19 (by decide) ?_
      refine lv_icmp_ge (tgt := 86) hx hb d_Reply_joinRows_21 (by decide) (fun c_21 => ?_) (fun c_21 => ?_)
      · have hk6 : k = 6 := by have := ps_leT c_21 (by omega) (by omega); omega
        have hL : ps_spF (ps_hs (σ.2.2.2 30)) 6 0 = P := by rw [hsp, hk6]; simp [ps_spF]
        rw [hQ]
        exact W.vret hx hb hr (fun zt ht _ => ⟨⟨(ps_upI (ps_upA (ps_upA σ 7 fb) 8 fh) 6 1 (nI k)), rfl, ⟨(ps_s6I (ps_s6A8 (ps_s6A7 (ps_s6_rf σ)))), by rw [hL, hpl]; rfl, by rw [hL]; exact hpt, rfl, rfl, rfl, rfl⟩, ps_hp ht hP⟩, hS.F ht⟩) hS.2.2 d_Reply_joinRows_86
      · have hk6 : k < 6 := by have := ps_ltOf c_21 (by omega) (by omega); omega
        have hnx := ps_nx_spec (ps_hs (σ.2.2.2 30)) true hp4
        refine lv_iload_n hx hb d_Reply_joinRows_24 rfl (lv_at hl 1 rfl) ?_
        refine lv_sipush (v := nI 4096) hx hb d_Reply_joinRows_25 (by decide) ?_
        refine lv_icmp_ge (tgt := 86) hx hb d_Reply_joinRows_28 (by decide) (fun c_28 => ?_) (fun c_28 => ?_)
        · have hL : ps_spF (ps_hs (σ.2.2.2 30)) 6 0 = P := by rw [hsp, ps_spF_no _ (ps_leT c_28 (by decide) (by omega))]; simp
          rw [hQ]
          exact W.vret hx hb hr (fun zt ht _ => ⟨⟨(ps_upI (ps_upA (ps_upA σ 7 fb) 8 fh) 6 1 (nI k)), rfl, ⟨(ps_s6I (ps_s6A8 (ps_s6A7 (ps_s6_rf σ)))), by rw [hL, hpl]; rfl, by rw [hL]; exact hpt, rfl, rfl, rfl, rfl⟩, ps_hp ht hP⟩, hS.F ht⟩) hS.2.2 d_Reply_joinRows_86
        · have ha4 : ps_nx (ps_hs (σ.2.2.2 30)) true p1 < 4096 := ps_ltOf c_28 (by omega) (by decide)
          have hgt := ps_nx_false_gt ha4 (hnx.2.2.2 ha4)
          refine lv_aload_n hx hb d_Reply_joinRows_31 rfl (lv_at hl 0 rfl) ?_
          refine ps_get (v := .ref (g 21)) hx hb hT i_Reply hown hK hP (k := 6) (by omega) rfl rfl 9 (by decide) (hT _ fl_Reply_27) (fun _ h9 => h9) rfl d_Reply_joinRows_32 ?_
          refine lv_iload_n hx hb d_Reply_joinRows_35 rfl (lv_at hl 1 rfl) ?_
          refine lv_iconst (v := nI 0) hx hb d_Reply_joinRows_36 (by decide) ?_
          refine ps_roi (k := 15 + 6) (As := [.int (nI (ps_nx (ps_hs (σ.2.2.2 30)) true p1)), .int (nI 0)]) (rest := []) ⟨hx, hb, hml, hown, hT⟩ (c_Places_next (σ := (ps_upI (ps_upA (ps_upA σ 7 fb) 8 fh) 6 1 (nI k))) 6 (by decide) (ps_nx (ps_hs (σ.2.2.2 30)) true p1) (by omega) false) (cwV 2 hT (ps_gV ml_Reply_78 im_Places_next se_Places_next in_Places co_Places_next) rfl rfl rfl cd_Places_next ⟨Nat.le_of_ble_eq_true rfl, Nat.le_of_ble_eq_true rfl⟩) hK hP (by omega) rfl rfl rfl hl.1 rfl (Nat.le_of_ble_eq_true rfl) d_Reply_joinRows_37 ⟨Nat.zero_le _, Nat.zero_le _⟩ (fun rr hrr => ?_)
          have hrr : rr = nI (ps_nx (ps_hs (σ.2.2.2 30)) false (ps_nx (ps_hs (σ.2.2.2 30)) true p1)) := hrr
          subst hrr
          refine lv_istore_n (lv' := [(2, .int (nI (ps_nx (ps_hs (σ.2.2.2 30)) false (ps_nx (ps_hs (σ.2.2.2 30)) true p1)))), (0, .ref (g 6)), (1, .int (nI (ps_nx (ps_hs (σ.2.2.2 30)) true p1)))]) hx hb d_Reply_joinRows_40 rfl hl (by decide) rfl (fun ls hl => ?_)
          refine lv_aload_n hx hb d_Reply_joinRows_41 rfl (lv_at hl 1 rfl) ?_
          refine ps_get (v := .ref (g 7)) hx hb hT i_Reply hown hK hP (k := 6) (by omega) rfl rfl 2 (by decide) (hT _ fl_Reply_17) (fun _ h9 => h9) rfl d_Reply_joinRows_42 ?_
          refine lv_aload_n hx hb d_Reply_joinRows_45 rfl (lv_at hl 1 rfl) ?_
          refine ps_get (v := .int (nI k)) hx hb hT i_Reply hown hK hP (k := 6) (by omega) rfl rfl 1 (by decide) (hT _ fl_Reply_37) (fun _ h9 => h9) rfl d_Reply_joinRows_46 ?_
          refine lv_iload_n hx hb d_Reply_joinRows_49 rfl (lv_at hl 2 rfl) ?_
          refine ps_iast (f := fb) hx hb hK hg hP hS (k := 7) (by omega) 0 rfl rfl (i := k) (by omega) (by decide) d_Reply_joinRows_50 (ps_E g cI cJ cT (ps_upA (ps_upI (ps_upA (ps_upA σ 7 fb) 8 fh) 6 1 (nI k)) 7 (va_up fb k (nI (ps_nx (ps_hs (σ.2.2.2 30)) true p1))))) rfl (fun i _ h => by apply ps_E_ext <;> first | rfl | simp [ps_upI, ps_upU, ps_upA, ps_upB, va_up, h]) (fun H locs hP hS => ?_)
          refine lv_aload_n hx hb d_Reply_joinRows_51 rfl (lv_at hl 1 rfl) ?_
          refine ps_get (v := .ref (g 8)) hx hb hT i_Reply hown hK hP (k := 6) (by omega) rfl rfl 3 (by decide) (hT _ fl_Reply_21) (fun _ h9 => h9) rfl d_Reply_joinRows_52 ?_
          refine lv_aload_n hx hb d_Reply_joinRows_55 rfl (lv_at hl 1 rfl) ?_
          refine ps_get (v := .int (nI k)) hx hb hT i_Reply hown hK hP (k := 6) (by omega) rfl rfl 1 (by decide) (hT _ fl_Reply_37) (fun _ h9 => h9) rfl d_Reply_joinRows_56 ?_
          refine lv_iload_n hx hb d_Reply_joinRows_59 rfl (lv_at hl 0 rfl) ?_
          refine lv_iconst (v := nI 1) hx hb d_Reply_joinRows_60 (by decide) ?_
          refine lv_isub hx hb d_Reply_joinRows_61 ?_
          refine ps_seti (y := nI (ps_nx (ps_hs (σ.2.2.2 30)) false (ps_nx (ps_hs (σ.2.2.2 30)) true p1) - 1)) (pk_sub (by omega)) ?_
          refine ps_iast (f := fh) hx hb hK hg hP hS (k := 8) (by omega) 0 rfl rfl (i := k) (by omega) (by decide) d_Reply_joinRows_62 (ps_E g cI cJ cT (ps_upA (ps_upA (ps_upI (ps_upA (ps_upA σ 7 fb) 8 fh) 6 1 (nI k)) 7 (va_up fb k (nI (ps_nx (ps_hs (σ.2.2.2 30)) true p1)))) 8 (va_up fh k (nI (ps_nx (ps_hs (σ.2.2.2 30)) false (ps_nx (ps_hs (σ.2.2.2 30)) true p1) - 1))))) rfl (fun i _ h => by apply ps_E_ext <;> first | rfl | simp [ps_upI, ps_upU, ps_upA, ps_upB, va_up, h]) (fun H locs hP hS => ?_)
          refine lv_aload_n hx hb d_Reply_joinRows_63 rfl (lv_at hl 1 rfl) ?_
          refine lv_dup hx hb d_Reply_joinRows_64 rfl ?_
          refine ps_get (v := .int (nI k)) hx hb hT i_Reply hown hK hP (k := 6) (by omega) rfl rfl 1 (by decide) (hT _ fl_Reply_37) (fun _ h9 => h9) rfl d_Reply_joinRows_65 ?_
          refine lv_iconst (v := nI 1) hx hb d_Reply_joinRows_68 (by decide) ?_
          refine lv_iadd hx hb d_Reply_joinRows_69 ?_
          refine ps_seti (y := nI (k + 1)) (nI_1 k) ?_
          refine ps_put (v := .int (nI (k + 1))) (ty := .int) hx hb hT i_Reply t_Reply t_Reply_ok n_Reply hown hK hg hP hS (k := 6) (by omega) rfl rfl 1 (by decide) (hT _ fl_Reply_37) (fun _ h9 => h9) rfl (by decide +kernel) rfl rfl (Nat.le_of_ble_eq_true rfl) d_Reply_joinRows_70 (ps_E g cI cJ cT (ps_upI (ps_upA (ps_upA (ps_upI (ps_upA (ps_upA σ 7 fb) 8 fh) 6 1 (nI k)) 7 (va_up fb k (nI (ps_nx (ps_hs (σ.2.2.2 30)) true p1)))) 8 (va_up fh k (nI (ps_nx (ps_hs (σ.2.2.2 30)) false (ps_nx (ps_hs (σ.2.2.2 30)) true p1) - 1)))) 6 1 (nI (k + 1)))) rfl (fun i _ h => by apply ps_E_ext <;> first | rfl | simp [ps_upI, ps_upU, ps_upA, ps_upB, va_up, h]) (fun H locs hP hS => ?_)
          refine lv_aload_n hx hb d_Reply_joinRows_73 rfl (lv_at hl 1 rfl) ?_
          refine ps_get (v := .ref (g 21)) hx hb hT i_Reply hown hK hP (k := 6) (by omega) rfl rfl 9 (by decide) (hT _ fl_Reply_27) (fun _ h9 => h9) rfl d_Reply_joinRows_74 ?_
          refine lv_iload_n hx hb d_Reply_joinRows_77 rfl (lv_at hl 0 rfl) ?_
          refine lv_iconst (v := nI 1) hx hb d_Reply_joinRows_78 (by decide) ?_
          refine ps_roi (k := 15 + 6) (As := [.int (nI (ps_nx (ps_hs (σ.2.2.2 30)) false (ps_nx (ps_hs (σ.2.2.2 30)) true p1))), .int (nI 1)]) (rest := []) ⟨hx, hb, hml, hown, hT⟩ (c_Places_next (σ := (ps_upI (ps_upA (ps_upA (ps_upI (ps_upA (ps_upA σ 7 fb) 8 fh) 6 1 (nI k)) 7 (va_up fb k (nI (ps_nx (ps_hs (σ.2.2.2 30)) true p1)))) 8 (va_up fh k (nI (ps_nx (ps_hs (σ.2.2.2 30)) false (ps_nx (ps_hs (σ.2.2.2 30)) true p1) - 1)))) 6 1 (nI (k + 1)))) 6 (by decide) (ps_nx (ps_hs (σ.2.2.2 30)) false (ps_nx (ps_hs (σ.2.2.2 30)) true p1)) hgt.2 true) (cwV 2 hT (ps_gV ml_Reply_78 im_Places_next se_Places_next in_Places co_Places_next) rfl rfl rfl cd_Places_next ⟨Nat.le_of_ble_eq_true rfl, Nat.le_of_ble_eq_true rfl⟩) hK hP (by omega) rfl rfl rfl hl.1 rfl (Nat.le_of_ble_eq_true rfl) d_Reply_joinRows_79 ⟨Nat.zero_le _, Nat.zero_le _⟩ (fun rr hrr => ?_)
          have hrr : rr = nI (ps_nx (ps_hs (σ.2.2.2 30)) true (ps_nx (ps_hs (σ.2.2.2 30)) false (ps_nx (ps_hs (σ.2.2.2 30)) true p1))) := hrr
          subst hrr
          refine lv_istore_n (lv' := [(1, .int (nI (ps_nx (ps_hs (σ.2.2.2 30)) true (ps_nx (ps_hs (σ.2.2.2 30)) false (ps_nx (ps_hs (σ.2.2.2 30)) true p1))))), (2, .int (nI (ps_nx (ps_hs (σ.2.2.2 30)) false (ps_nx (ps_hs (σ.2.2.2 30)) true p1)))), (0, .ref (g 6))]) hx hb d_Reply_joinRows_82 rfl hl (by decide) rfl (fun ls hl => ?_)
          refine lv_goto (tgt := 15) hx hb d_Reply_joinRows_83 (by decide) ?_
          exact ih_a (k + 1) (ps_nx (ps_hs (σ.2.2.2 30)) false (ps_nx (ps_hs (σ.2.2.2 30)) true p1)) (P ++ [(ps_nx (ps_hs (σ.2.2.2 30)) true p1, ps_nx (ps_hs (σ.2.2.2 30)) false (ps_nx (ps_hs (σ.2.2.2 30)) true p1) - 1)]) (va_up fb k (nI (ps_nx (ps_hs (σ.2.2.2 30)) true p1))) (va_up fh k (nI (ps_nx (ps_hs (σ.2.2.2 30)) false (ps_nx (ps_hs (σ.2.2.2 30)) true p1) - 1))) (by omega) hgt.2 (by rw [hsp, ps_spF_yes (by omega) ha4, show 6 - k - 1 = 6 - (k + 1) by omega]; simp) (by simp [hpl]) (ps_ptN hpl hpt) (by omega) _ _ (by simp only [ps_AI, ps_A87, ps_AA, ps_II] at hP; exact hP) hS ls (lv_sub hl [2, 0] rfl)
  exact L_a (6 - 0 + 1) 0 0 ([]) (σ.2.2.1 7) (σ.2.2.1 8) (by omega) (by omega) rfl rfl (fun i hi => absurd hi (Nat.not_lt_zero i)) (by omega) _ _ (by rw [ps_upA_self, ps_upA_self]; exact hP) hS ls (lv_sub hl [1, 0] rfl)

def rm_Reply_plan : Room := { frames := 4, cells := 0, slots := 0, locals := 94 }
abbrev ws_Reply_plan : List Cond := .code y_Reply_plan b_Reply_plan 4 none :: ps_tb
set_option maxHeartbeats 4000000 in
set_option maxRecDepth 100000 in
theorem c_Reply_plan {l : Launch} {D : va_G} {g : Nat → Nat} {cI cJ cT : ClassId} {σ : ps_σ} (hg : ps_inj 33 g) (cc1 : Nat) (hc1 : cc1 ≤ 1000) (h67 : σ.1 6 7 = nI 0) (h68 : σ.1 6 8 = nI 0) (he7 : ∀ q, q < 4096 → ps_hs (σ.2.2.2 31) q = false) (he8 : ∀ q, q < 4096 → ps_hs (σ.2.2.2 32) q = false) : Met l y_Reply_plan ws_Reply_plan rm_Reply_plan (ps_Pc D ps_cl (ps_tys cI cJ cT) 33 g (ps_E g cI cJ cT σ) [.ref (g 6), .int (nI cc1)]) (ps_Qv (S := ps_σ) D ps_cl 33 g (fun u => ps_E g cI cJ cT u) (fun u => ps_s6 σ u ∧ u.1 6 7 = nI (ps_plF (ps_hs (σ.2.2.2 30)) cc1 4096 0).length ∧ u.1 6 8 = nI (ps_pr1 cc1 (ps_plF (ps_hs (σ.2.2.2 30)) cc1 4096 0)) ∧ (∀ q, q < 4096 → ps_hs (u.2.2.2 31) q = decide (q ∈ (ps_plF (ps_hs (σ.2.2.2 30)) cc1 4096 0).map (fun r => r.1))) ∧ (∀ q, q < 4096 → ps_hs (u.2.2.2 32) q = decide (q ∈ (ps_plF (ps_hs (σ.2.2.2 30)) cc1 4096 0).map (fun r => r.2))) ∧ u.1 6 0 = σ.1 6 0 ∧ u.1 6 1 = σ.1 6 1 ∧ u.1 6 5 = σ.1 6 5 ∧ u.1 6 6 = σ.1 6 6 ∧ u.2.2.1 = σ.2.2.1)) 0 0 (ps_wA 33 g) := by
  refine ps_met (by decide) ?_
  intro p e s m args below meth c hx hb hr hml hts hown hlocks hname hv Q hQ
  obtain ⟨ha, hP, hK⟩ := hv
  have hT : ∀ w ∈ ps_tb, w.before args s = true := fun w h => hts w (List.mem_cons_of_mem _ h)
  have hown : s.vm.findClass R_Reply = some m.cls := hown
  have hS : va_S (ps_wA 33 g) s.heap s.heap [] := va_S.rf
  refine ps_enter ha (Nat.le_of_ble_eq_true rfl) (fun ls hl => ?_)
  have hl : lv_has ls 4 [(0, .ref (g 6)), (1, .int (nI cc1))] := hl
  refine lv_aload_n hx hb d_Reply_plan_0 rfl (lv_at hl 0 rfl) ?_
  refine ps_get (v := .ref (g 21)) hx hb hT i_Reply hown hK hP (k := 6) (by omega) ps_E_6 rfl 9 (by decide) (hT _ fl_Reply_27) (fun _ h9 => h9) rfl d_Reply_plan_1 ?_
  refine lv_iconst (v := nI 0) hx hb d_Reply_plan_4 (by decide) ?_
  refine lv_iconst (v := nI 1) hx hb d_Reply_plan_5 (by decide) ?_
  refine ps_roi (k := 15 + 6) (As := [.int (nI 0), .int (nI 1)]) (rest := []) ⟨hx, hb, hml, hown, hT⟩ (c_Places_next 6 (by decide) 0 (by omega) true) (cwV 2 hT (ps_gV ml_Reply_78 im_Places_next se_Places_next in_Places co_Places_next) rfl rfl rfl cd_Places_next ⟨Nat.le_of_ble_eq_true rfl, Nat.le_of_ble_eq_true rfl⟩) hK hP (by omega) (ps_E_pl (by decide)) rfl rfl hl.1 rfl (Nat.le_of_ble_eq_true rfl) d_Reply_plan_6 ⟨Nat.zero_le _, Nat.zero_le _⟩ (fun rr hrr => ?_)
  have hrr : rr = nI (ps_nx (ps_hs (σ.2.2.2 30)) true 0) := hrr
  subst hrr
  refine lv_istore_n (lv' := [(2, .int (nI (ps_nx (ps_hs (σ.2.2.2 30)) true 0))), (0, .ref (g 6)), (1, .int (nI cc1))]) hx hb d_Reply_plan_9 rfl hl (by decide) rfl (fun ls hl => ?_)
  have L_a : ∀ (n_a : Nat) (k p1 : Nat) (P : List (Nat × Nat)) (f7 f8 : Nat → Int64), (k ≤ p1) → (p1 ≤ 4096) → (ps_plF (ps_hs (σ.2.2.2 30)) cc1 4096 0 = P ++ ps_plF (ps_hs (σ.2.2.2 30)) cc1 (4096 - k) p1) → (P.length = k) → (ps_pr1 cc1 P ≤ 2002 * k + p1) → (∀ q, q < 4096 → ps_hs f7 q = decide (q ∈ P.map (fun r => r.1))) → (∀ q, q < 4096 → ps_hs f8 q = decide (q ∈ P.map (fun r => r.2))) → 4096 - k < n_a → ∀ (H : Heap) (locs : List Loc), va_P D ps_cl (ps_wl 33 g (ps_E g cI cJ cT (ps_upI (ps_upI (ps_upB (ps_upB σ 31 f7) 32 f8) 6 7 (nI k)) 6 8 (nI (ps_pr1 cc1 P))))) H → va_S (ps_wA 33 g) s.heap H locs → ∀ (ls : Array Slot), lv_has ls 4 [(0, .ref (g 6)), (1, .int (nI cc1)), (2, .int (nI (ps_nx (ps_hs (σ.2.2.2 30)) true p1)))] → W p l e rm_Reply_plan s m args below meth c H locs 0 0 Q (F0 m 10 ls []) := by
    intro n_a
    induction n_a with
    | zero => intro k p1 P f7 f8 hkp hp4 hpn hpl hpr hf7 hf8 hf_a; exact absurd hf_a (Nat.not_lt_zero _)
    | succ n_a ih_a =>
      intro k p1 P f7 f8 hkp hp4 hpn hpl hpr hf7 hf8 hf_a H locs hP hS ls hl
      refine lv_aload_n hx hb d_Reply_plan_10 rfl (lv_at hl 0 rfl) ?_
      refine ps_get (v := .int (nI k)) hx hb hT i_Reply hown hK hP (k := 6) (by omega) rfl rfl 7 (by decide) (hT _ fl_Reply_44) (fun _ h9 => h9) rfl d_Reply_plan_11 ?_
      refine lv_sipush (v := nI 4096) hx hb d_Reply_plan_14 (by decide) ?_
      refine lv_icmp_ge (tgt := 95) hx hb d_Reply_plan_17 (by decide) (fun c_17 => ?_) (fun c_17 => ?_)
      · have hk6 : 4096 ≤ k := ps_leT c_17 (by decide) (by omega)
        have hL : ps_plF (ps_hs (σ.2.2.2 30)) cc1 4096 0 = P := by rw [hpn, show 4096 - k = 0 by omega]; simp [ps_plF]
        rw [hQ]
        exact W.vret hx hb hr (fun zt ht _ => ⟨⟨(ps_upI (ps_upI (ps_upB (ps_upB σ 31 f7) 32 f8) 6 7 (nI k)) 6 8 (nI (ps_pr1 cc1 P))), rfl, ⟨(ps_s6I (ps_s6I (ps_s6B (by omega) (ps_s6B (by omega) (ps_s6_rf σ))))), by rw [hL, hpl]; rfl, by rw [hL]; rfl, by rw [hL]; exact hf7, by rw [hL]; exact hf8, rfl, rfl, rfl, rfl, rfl⟩, ps_hp ht hP⟩, hS.F ht⟩) hS.2.2 d_Reply_plan_95
      · have hk6 : k < 4096 := ps_ltOf c_17 (by omega) (by omega)
        have hnx := ps_nx_spec (ps_hs (σ.2.2.2 30)) true hp4
        refine lv_iload_n hx hb d_Reply_plan_20 rfl (lv_at hl 2 rfl) ?_
        refine lv_sipush (v := nI 4096) hx hb d_Reply_plan_21 (by decide) ?_
        refine lv_icmp_ge (tgt := 95) hx hb d_Reply_plan_24 (by decide) (fun c_24 => ?_) (fun c_24 => ?_)
        · have hL : ps_plF (ps_hs (σ.2.2.2 30)) cc1 4096 0 = P := by rw [hpn, ps_plF_no _ (ps_leT c_24 (by decide) (by omega))]; simp
          rw [hQ]
          exact W.vret hx hb hr (fun zt ht _ => ⟨⟨(ps_upI (ps_upI (ps_upB (ps_upB σ 31 f7) 32 f8) 6 7 (nI k)) 6 8 (nI (ps_pr1 cc1 P))), rfl, ⟨(ps_s6I (ps_s6I (ps_s6B (by omega) (ps_s6B (by omega) (ps_s6_rf σ))))), by rw [hL, hpl]; rfl, by rw [hL]; rfl, by rw [hL]; exact hf7, by rw [hL]; exact hf8, rfl, rfl, rfl, rfl, rfl⟩, ps_hp ht hP⟩, hS.F ht⟩) hS.2.2 d_Reply_plan_95
        · have ha4 : ps_nx (ps_hs (σ.2.2.2 30)) true p1 < 4096 := ps_ltOf c_24 (by omega) (by decide)
          have hlo := ps_lof_spec (M := ps_hs (σ.2.2.2 30)) (c := cc1) 4096 _ ha4 (hnx.2.2.2 ha4)
          refine lv_aload_n hx hb d_Reply_plan_27 rfl (lv_at hl 0 rfl) ?_
          refine lv_iload_n hx hb d_Reply_plan_28 rfl (lv_at hl 2 rfl) ?_
          refine lv_iload_n hx hb d_Reply_plan_29 rfl (lv_at hl 1 rfl) ?_
          refine ps_roi (k := 6) (As := [.int (nI (ps_nx (ps_hs (σ.2.2.2 30)) true p1)), .int (nI cc1)]) (rest := []) ⟨hx, hb, hml, hown, hT⟩ (c_Reply_lastOfFetch (σ := (ps_upI (ps_upI (ps_upB (ps_upB σ 31 f7) 32 f8) 6 7 (nI k)) 6 8 (nI (ps_pr1 cc1 P)))) (ps_nx (ps_hs (σ.2.2.2 30)) true p1) cc1 ha4 (by omega) (hnx.2.2.2 ha4)) (cwV 2 hT (ps_gV ml_Reply_82 im_Reply_lastOfFetch se_Reply_lastOfFetch in_Reply co_Reply_lastOfFetch) rfl rfl rfl cd_Reply_lastOfFetch ⟨Nat.le_of_ble_eq_true rfl, Nat.le_of_ble_eq_true rfl⟩) hK hP (by omega) rfl rfl rfl hl.1 rfl (Nat.le_of_ble_eq_true rfl) d_Reply_plan_30 ⟨Nat.zero_le _, Nat.zero_le _⟩ (fun rr hrr => ?_)
          have hrr : rr = nI (ps_lof (ps_hs (σ.2.2.2 30)) cc1 4096 (ps_nx (ps_hs (σ.2.2.2 30)) true p1)) := hrr
          subst hrr
          refine lv_istore_n (lv' := [(3, .int (nI (ps_lof (ps_hs (σ.2.2.2 30)) cc1 4096 (ps_nx (ps_hs (σ.2.2.2 30)) true p1)))), (0, .ref (g 6)), (1, .int (nI cc1)), (2, .int (nI (ps_nx (ps_hs (σ.2.2.2 30)) true p1)))]) hx hb d_Reply_plan_33 rfl hl (by decide) rfl (fun ls hl => ?_)
          refine lv_aload_n hx hb d_Reply_plan_34 rfl (lv_at hl 1 rfl) ?_
          refine ps_get (v := .ref (g 22)) hx hb hT i_Reply hown hK hP (k := 6) (by omega) rfl rfl 10 (by decide) (hT _ fl_Reply_31) (fun _ h9 => h9) rfl d_Reply_plan_35 ?_
          refine lv_iload_n hx hb d_Reply_plan_38 rfl (lv_at hl 3 rfl) ?_
          refine lv_iload_n hx hb d_Reply_plan_39 rfl (lv_at hl 3 rfl) ?_
          refine ps_wri (k := 15 + 7) (As := [.int (nI (ps_nx (ps_hs (σ.2.2.2 30)) true p1)), .int (nI (ps_nx (ps_hs (σ.2.2.2 30)) true p1))]) (rest := []) ⟨hx, hb, hml, hown, hT⟩ (c_Places_add (σ := (ps_upI (ps_upI (ps_upB (ps_upB σ 31 f7) 32 f8) 6 7 (nI k)) 6 8 (nI (ps_pr1 cc1 P)))) hg 7 (by decide) (ps_nx (ps_hs (σ.2.2.2 30)) true p1) (ps_nx (ps_hs (σ.2.2.2 30)) true p1) (Nat.le_refl _) (by omega)) (cwV 2 hT (ps_gV ml_Reply_53 im_Places_add se_Places_add in_Places co_Places_add) rfl rfl rfl cd_Places_add ⟨Nat.le_of_ble_eq_true rfl, Nat.le_of_ble_eq_true rfl⟩) hK hP hS (fun _ h => h) (by omega) rfl rfl rfl hl.1 rfl (Nat.le_of_ble_eq_true rfl) d_Reply_plan_40 ⟨Nat.zero_le _, Nat.zero_le _⟩ (fun rr f7b H locs hz hP hS _ => ?_)
          have hf7b := ps_mem_add (f2 := f7b) hf7 (a := ps_nx (ps_hs (σ.2.2.2 30)) true p1) hz.2
          clear hz
          refine lv_pop hx hb d_Reply_plan_43 rfl ?_
          refine lv_aload_n hx hb d_Reply_plan_44 rfl (lv_at hl 1 rfl) ?_
          refine ps_get (v := .ref (g 23)) hx hb hT i_Reply hown hK hP (k := 6) (by omega) rfl rfl 11 (by decide) (hT _ fl_Reply_34) (fun _ h9 => h9) rfl d_Reply_plan_45 ?_
          refine lv_iload_n hx hb d_Reply_plan_48 rfl (lv_at hl 0 rfl) ?_
          refine lv_iload_n hx hb d_Reply_plan_49 rfl (lv_at hl 0 rfl) ?_
          refine ps_wri (k := 15 + 8) (As := [.int (nI (ps_lof (ps_hs (σ.2.2.2 30)) cc1 4096 (ps_nx (ps_hs (σ.2.2.2 30)) true p1))), .int (nI (ps_lof (ps_hs (σ.2.2.2 30)) cc1 4096 (ps_nx (ps_hs (σ.2.2.2 30)) true p1)))]) (rest := []) ⟨hx, hb, hml, hown, hT⟩ (c_Places_add (σ := (ps_upB (ps_upI (ps_upI (ps_upB (ps_upB σ 31 f7) 32 f8) 6 7 (nI k)) 6 8 (nI (ps_pr1 cc1 P))) 31 f7b)) hg 8 (by decide) (ps_lof (ps_hs (σ.2.2.2 30)) cc1 4096 (ps_nx (ps_hs (σ.2.2.2 30)) true p1)) (ps_lof (ps_hs (σ.2.2.2 30)) cc1 4096 (ps_nx (ps_hs (σ.2.2.2 30)) true p1)) (Nat.le_refl _) (by omega)) (cwV 2 hT (ps_gV ml_Reply_53 im_Places_add se_Places_add in_Places co_Places_add) rfl rfl rfl cd_Places_add ⟨Nat.le_of_ble_eq_true rfl, Nat.le_of_ble_eq_true rfl⟩) hK hP hS (fun _ h => h) (by omega) rfl rfl rfl hl.1 rfl (Nat.le_of_ble_eq_true rfl) d_Reply_plan_50 ⟨Nat.zero_le _, Nat.zero_le _⟩ (fun rr f8b H locs hz hP hS _ => ?_)
          have hf8b := ps_mem_add (f2 := f8b) hf8 (a := ps_lof (ps_hs (σ.2.2.2 30)) cc1 4096 (ps_nx (ps_hs (σ.2.2.2 30)) true p1)) hz.2
          clear hz
          refine lv_pop hx hb d_Reply_plan_53 rfl ?_
          refine lv_aload_n hx hb d_Reply_plan_54 rfl (lv_at hl 1 rfl) ?_
          refine lv_dup hx hb d_Reply_plan_55 rfl ?_
          refine ps_get (v := .int (nI k)) hx hb hT i_Reply hown hK hP (k := 6) (by omega) rfl rfl 7 (by decide) (hT _ fl_Reply_44) (fun _ h9 => h9) rfl d_Reply_plan_56 ?_
          refine lv_iconst (v := nI 1) hx hb d_Reply_plan_59 (by decide) ?_
          refine lv_iadd hx hb d_Reply_plan_60 ?_
          refine ps_seti (y := nI (k + 1)) (nI_1 k) ?_
          refine ps_put (v := .int (nI (k + 1))) (ty := .int) hx hb hT i_Reply t_Reply t_Reply_ok n_Reply hown hK hg hP hS (k := 6) (by omega) rfl rfl 7 (by decide) (hT _ fl_Reply_44) (fun _ h9 => h9) rfl (by decide +kernel) rfl rfl (Nat.le_of_ble_eq_true rfl) d_Reply_plan_61 (ps_E g cI cJ cT (ps_upI (ps_upB (ps_upB (ps_upI (ps_upI (ps_upB (ps_upB σ 31 f7) 32 f8) 6 7 (nI k)) 6 8 (nI (ps_pr1 cc1 P))) 31 f7b) 32 f8b) 6 7 (nI (k + 1)))) rfl (fun i _ h => by apply ps_E_ext <;> first | rfl | simp [ps_upI, ps_upU, ps_upA, ps_upB, va_up, h]) (fun H locs hP hS => ?_)
          refine lv_aload_n hx hb d_Reply_plan_64 rfl (lv_at hl 1 rfl) ?_
          refine lv_dup hx hb d_Reply_plan_65 rfl ?_
          refine ps_get (v := .int (nI (ps_pr1 cc1 P))) hx hb hT i_Reply hown hK hP (k := 6) (by omega) rfl rfl 8 (by decide) (hT _ fl_Reply_47) (fun _ h9 => h9) rfl d_Reply_plan_66 ?_
          refine lv_iload_n hx hb d_Reply_plan_69 rfl (lv_at hl 2 rfl) ?_
          refine lv_iload_n hx hb d_Reply_plan_70 rfl (lv_at hl 0 rfl) ?_
          refine lv_iadd hx hb d_Reply_plan_71 ?_
          refine ps_seti (y := nI (cc1 + ps_lof (ps_hs (σ.2.2.2 30)) cc1 4096 (ps_nx (ps_hs (σ.2.2.2 30)) true p1))) (nI_add _ _) ?_
          refine lv_iload_n hx hb d_Reply_plan_72 rfl (lv_at hl 3 rfl) ?_
          refine lv_isub hx hb d_Reply_plan_73 ?_
          refine ps_seti (y := nI (cc1 + ps_lof (ps_hs (σ.2.2.2 30)) cc1 4096 (ps_nx (ps_hs (σ.2.2.2 30)) true p1) - ps_nx (ps_hs (σ.2.2.2 30)) true p1)) (pk_sub (by omega)) ?_
          refine lv_iconst (v := nI 1) hx hb d_Reply_plan_74 (by decide) ?_
          refine lv_iadd hx hb d_Reply_plan_75 ?_
          refine ps_seti (y := nI (cc1 + ps_lof (ps_hs (σ.2.2.2 30)) cc1 4096 (ps_nx (ps_hs (σ.2.2.2 30)) true p1) - ps_nx (ps_hs (σ.2.2.2 30)) true p1 + 1)) (nI_1 _) ?_
          refine lv_iadd hx hb d_Reply_plan_76 ?_
          refine ps_seti (y := nI (ps_pr1 cc1 P + (cc1 + ps_lof (ps_hs (σ.2.2.2 30)) cc1 4096 (ps_nx (ps_hs (σ.2.2.2 30)) true p1) - ps_nx (ps_hs (σ.2.2.2 30)) true p1 + 1))) (nI_add _ _) ?_
          refine ps_put (v := .int (nI (ps_pr1 cc1 P + (cc1 + ps_lof (ps_hs (σ.2.2.2 30)) cc1 4096 (ps_nx (ps_hs (σ.2.2.2 30)) true p1) - ps_nx (ps_hs (σ.2.2.2 30)) true p1 + 1)))) (ty := .int) hx hb hT i_Reply t_Reply t_Reply_ok n_Reply hown hK hg hP hS (k := 6) (by omega) rfl rfl 8 (by decide) (hT _ fl_Reply_47) (fun _ h9 => h9) rfl (by decide +kernel) rfl rfl (Nat.le_of_ble_eq_true rfl) d_Reply_plan_77 (ps_E g cI cJ cT (ps_upI (ps_upI (ps_upB (ps_upB (ps_upI (ps_upI (ps_upB (ps_upB σ 31 f7) 32 f8) 6 7 (nI k)) 6 8 (nI (ps_pr1 cc1 P))) 31 f7b) 32 f8b) 6 7 (nI (k + 1))) 6 8 (nI (ps_pr1 cc1 P + (cc1 + ps_lof (ps_hs (σ.2.2.2 30)) cc1 4096 (ps_nx (ps_hs (σ.2.2.2 30)) true p1) - ps_nx (ps_hs (σ.2.2.2 30)) true p1 + 1))))) rfl (fun i _ h => by apply ps_E_ext <;> first | rfl | simp [ps_upI, ps_upU, ps_upA, ps_upB, va_up, h]) (fun H locs hP hS => ?_)
          refine lv_aload_n hx hb d_Reply_plan_80 rfl (lv_at hl 1 rfl) ?_
          refine ps_get (v := .ref (g 21)) hx hb hT i_Reply hown hK hP (k := 6) (by omega) rfl rfl 9 (by decide) (hT _ fl_Reply_27) (fun _ h9 => h9) rfl d_Reply_plan_81 ?_
          refine lv_iload_n hx hb d_Reply_plan_84 rfl (lv_at hl 0 rfl) ?_
          refine lv_iconst (v := nI 1) hx hb d_Reply_plan_85 (by decide) ?_
          refine lv_iadd hx hb d_Reply_plan_86 ?_
          refine ps_seti (y := nI (ps_lof (ps_hs (σ.2.2.2 30)) cc1 4096 (ps_nx (ps_hs (σ.2.2.2 30)) true p1) + 1)) (nI_1 _) ?_
          refine lv_iconst (v := nI 1) hx hb d_Reply_plan_87 (by decide) ?_
          refine ps_roi (k := 15 + 6) (As := [.int (nI (ps_lof (ps_hs (σ.2.2.2 30)) cc1 4096 (ps_nx (ps_hs (σ.2.2.2 30)) true p1) + 1)), .int (nI 1)]) (rest := []) ⟨hx, hb, hml, hown, hT⟩ (c_Places_next (σ := (ps_upI (ps_upI (ps_upB (ps_upB (ps_upI (ps_upI (ps_upB (ps_upB σ 31 f7) 32 f8) 6 7 (nI k)) 6 8 (nI (ps_pr1 cc1 P))) 31 f7b) 32 f8b) 6 7 (nI (k + 1))) 6 8 (nI (ps_pr1 cc1 P + (cc1 + ps_lof (ps_hs (σ.2.2.2 30)) cc1 4096 (ps_nx (ps_hs (σ.2.2.2 30)) true p1) - ps_nx (ps_hs (σ.2.2.2 30)) true p1 + 1))))) 6 (by decide) (ps_lof (ps_hs (σ.2.2.2 30)) cc1 4096 (ps_nx (ps_hs (σ.2.2.2 30)) true p1) + 1) (by omega) true) (cwV 2 hT (ps_gV ml_Reply_78 im_Places_next se_Places_next in_Places co_Places_next) rfl rfl rfl cd_Places_next ⟨Nat.le_of_ble_eq_true rfl, Nat.le_of_ble_eq_true rfl⟩) hK hP (by omega) rfl rfl rfl hl.1 rfl (Nat.le_of_ble_eq_true rfl) d_Reply_plan_88 ⟨Nat.zero_le _, Nat.zero_le _⟩ (fun rr hrr => ?_)
          have hrr : rr = nI (ps_nx (ps_hs (σ.2.2.2 30)) true (ps_lof (ps_hs (σ.2.2.2 30)) cc1 4096 (ps_nx (ps_hs (σ.2.2.2 30)) true p1) + 1)) := hrr
          subst hrr
          refine lv_istore_n (lv' := [(2, .int (nI (ps_nx (ps_hs (σ.2.2.2 30)) true (ps_lof (ps_hs (σ.2.2.2 30)) cc1 4096 (ps_nx (ps_hs (σ.2.2.2 30)) true p1) + 1)))), (3, .int (nI (ps_lof (ps_hs (σ.2.2.2 30)) cc1 4096 (ps_nx (ps_hs (σ.2.2.2 30)) true p1)))), (0, .ref (g 6)), (1, .int (nI cc1))]) hx hb d_Reply_plan_91 rfl hl (by decide) rfl (fun ls hl => ?_)
          refine lv_goto (tgt := 10) hx hb d_Reply_plan_92 (by decide) ?_
          exact ih_a (k + 1) (ps_lof (ps_hs (σ.2.2.2 30)) cc1 4096 (ps_nx (ps_hs (σ.2.2.2 30)) true p1) + 1) (P ++ [(ps_nx (ps_hs (σ.2.2.2 30)) true p1, ps_lof (ps_hs (σ.2.2.2 30)) cc1 4096 (ps_nx (ps_hs (σ.2.2.2 30)) true p1))]) f7b f8b (by omega) (by omega) (by rw [hpn, ps_plF_yes (by omega) ha4, show 4096 - k - 1 = 4096 - (k + 1) by omega]; simp) (by simp [hpl]) (by rw [ps_pr1_add]; omega) (by rw [List.map_append]; exact hf7b) (by rw [List.map_append]; exact hf8b) (by omega) _ _ (by simp only [Nat.reduceAdd, ps_BI, ps_B3231, ps_upB_upB, ps_I87, ps_II] at hP; rw [ps_pr1_add]; exact hP) hS ls (lv_sub hl [2, 3, 0] rfl)
  exact L_a (4096 - 0 + 1) 0 0 ([]) (σ.2.2.2 31) (σ.2.2.2 32) (by omega) (by omega) rfl rfl (by simp [ps_pr1]) (fun q hq => by rw [he7 q hq]; rfl) (fun q hq => by rw [he8 q hq]; rfl) (by omega) _ _ (by rw [ps_upB_self, ps_upB_self, ps_upI_self h67, ps_upI_self (show σ.1 6 8 = nI (ps_pr1 cc1 []) from h68)]; exact hP) hS ls (lv_sub hl [1, 2, 0] rfl)

def rm_Reply_finish : Room := { frames := 5, cells := 0, slots := 0, locals := 117 }
abbrev ws_Reply_finish : List Cond := .code y_Reply_finish b_Reply_finish 3 none :: ps_tb
set_option maxHeartbeats 4000000 in
set_option maxRecDepth 100000 in
theorem c_Reply_finish {l : Launch} {D : va_G} {g : Nat → Nat} {cI cJ cT : ClassId} {σ : ps_σ} (hg : ps_inj 33 g) (t : Nat) (ht6 : t < 6) (cc1 : Nat) (hc1 : cc1 ≤ 1000) (r0 : Nat) (hr6 : σ.1 6 1 = nI r0) (hr5 : r0 ≤ 6) (h67 : σ.1 6 7 = nI 0) (h68 : σ.1 6 8 = nI 0) (he7 : ∀ q, q < 4096 → ps_hs (σ.2.2.2 31) q = false) (he8 : ∀ q, q < 4096 → ps_hs (σ.2.2.2 32) q = false) : Met l y_Reply_finish ws_Reply_finish rm_Reply_finish (ps_Pc D ps_cl (ps_tys cI cJ cT) 33 g (ps_E g cI cJ cT σ) [.ref (g 6), .ref (g (15 + t)), .int (nI cc1)]) (ps_Qv (S := ps_σ) D ps_cl 33 g (fun u => ps_E g cI cJ cT u) (fun u => ps_s6 σ u ∧ u.1 6 0 = σ.1 6 0 ∧ (((¬ σ.1 6 4 = 0 ∨ 3 < r0) ∧ u.1 6 1 = nI (ps_spF (ps_hs (σ.2.2.2 30)) 6 0).length ∧ ∀ i, (hi : i < (ps_spF (ps_hs (σ.2.2.2 30)) 6 0).length) → u.2.2.1 7 i = nI (ps_spF (ps_hs (σ.2.2.2 30)) 6 0)[i].1 ∧ u.2.2.1 8 i = nI (ps_spF (ps_hs (σ.2.2.2 30)) 6 0)[i].2) ∨ (σ.1 6 4 = 0 ∧ r0 ≤ 3 ∧ u.1 6 1 = nI r0 ∧ u.2.2.1 = σ.2.2.1)) ∧ u.1 6 5 = nI (ps_cn (ps_hs (σ.2.2.2 30)) 4096) ∧ ∃ Mf : Nat → Bool, (∀ q, q < 4096 → Mf q = (ps_hs (σ.2.2.2 30) q && !ps_hs (σ.2.2.2 (24 + t)) q)) ∧ u.1 6 6 = nI (ps_cn (ps_hs (σ.2.2.2 30)) 4096 - ps_cn Mf 4096) ∧ u.1 6 7 = nI (ps_plF Mf cc1 4096 0).length ∧ u.1 6 8 = nI (ps_pr1 cc1 (ps_plF Mf cc1 4096 0)) ∧ (∀ q, q < 4096 → ps_hs (u.2.2.2 31) q = decide (q ∈ (ps_plF Mf cc1 4096 0).map (fun r => r.1))) ∧ ∀ q, q < 4096 → ps_hs (u.2.2.2 32) q = decide (q ∈ (ps_plF Mf cc1 4096 0).map (fun r => r.2)))) 0 0 (ps_wA 33 g) := by
  refine ps_met (by decide) ?_
  intro p e s m args below meth c hx hb hr hml hts hown hlocks hname hv Q hQ
  obtain ⟨ha, hP, hK⟩ := hv
  have hT : ∀ w ∈ ps_tb, w.before args s = true := fun w h => hts w (List.mem_cons_of_mem _ h)
  have hown : s.vm.findClass R_Reply = some m.cls := hown
  have hS : va_S (ps_wA 33 g) s.heap s.heap [] := va_S.rf
  refine ps_enter ha (Nat.le_of_ble_eq_true rfl) (fun ls hl => ?_)
  have hl : lv_has ls 3 [(0, .ref (g 6)), (1, .ref (g (15 + t))), (2, .int (nI cc1))] := hl
  refine lv_aload_n hx hb d_Reply_finish_0 rfl (lv_at hl 0 rfl) ?_
  refine ps_get (v := .int (σ.1 6 4)) hx hb hT i_Reply hown hK hP (k := 6) (by omega) ps_E_6 rfl 4 (by decide) (hT _ fl_Reply_40) (fun _ h9 => h9) rfl d_Reply_finish_1 ?_
  refine lv_if_ne (tgt := 15) hx hb d_Reply_finish_4 (by decide) (fun c_4 => ?_) (fun c_4 => ?_)
  · have hov : ¬ σ.1 6 4 = 0 ∨ 3 < r0 := Or.inl c_4
    refine lv_aload_n hx hb d_Reply_finish_15 rfl (lv_at hl 0 rfl) ?_
    refine ps_wrv (k := 6) (As := []) (rest := []) ⟨hx, hb, hml, hown, hT⟩ (c_Reply_joinRows (σ := σ) hg) (cwV 0 hT (ps_gV ml_Reply_57 im_Reply_joinRows se_Reply_joinRows in_Reply co_Reply_joinRows) rfl rfl rfl cd_Reply_joinRows ⟨Nat.le_of_ble_eq_true rfl, Nat.le_of_ble_eq_true rfl⟩) hK hP hS (fun _ h => h) (by omega) ps_E_6 rfl rfl hl.1 rfl (Nat.le_of_ble_eq_true rfl) d_Reply_finish_16 ⟨Nat.zero_le _, Nat.zero_le _⟩ (fun u1 H locs hj hP hS _ => ?_)
    obtain ⟨hj1, hj2, hj3, hj4, hj5, hj6, hj7⟩ := hj
    refine lv_aload_n hx hb d_Reply_finish_19 rfl (lv_at hl 0 rfl) ?_
    refine lv_aload_n hx hb d_Reply_finish_20 rfl (lv_at hl 0 rfl) ?_
    refine ps_get (v := .ref (g 21)) hx hb hT i_Reply hown hK hP (k := 6) (by omega) ps_E_6 rfl 9 (by decide) (hT _ fl_Reply_27) (fun _ h9 => h9) rfl d_Reply_finish_21 ?_
    refine ps_roi (k := 15 + 6) (As := []) (rest := [.ref (g 6)]) ⟨hx, hb, hml, hown, hT⟩ (c_Places_size (σ := u1) 6 (by decide)) (cwV 0 hT (ps_gV ml_Reply_60 im_Places_size se_Places_size in_Places co_Places_size) rfl rfl rfl cd_Places_size ⟨Nat.le_of_ble_eq_true rfl, Nat.le_of_ble_eq_true rfl⟩) hK hP (by omega) (ps_E_pl (by decide)) rfl rfl hl.1 rfl (Nat.le_of_ble_eq_true rfl) d_Reply_finish_24 ⟨Nat.zero_le _, Nat.zero_le _⟩ (fun rr hrr => ?_)
    obtain ⟨n1, en1⟩ : ∃ z, z = ps_cn (ps_hs (σ.2.2.2 30)) 4096 := ⟨_, rfl⟩
    have hrr : rr = nI n1 := by rw [hrr, en1]; show nI (ps_cn (ps_hs (u1.2.2.2 30)) 4096) = _; rw [hj7]
    subst hrr
    refine ps_put (v := .int (nI n1)) (ty := .int) hx hb hT i_Reply t_Reply t_Reply_ok n_Reply hown hK hg hP hS (k := 6) (by omega) ps_E_6 rfl 5 (by decide) (hT _ fl_Reply_64) (fun _ h9 => h9) rfl (by decide +kernel) rfl rfl (Nat.le_of_ble_eq_true rfl) d_Reply_finish_27 (ps_E g cI cJ cT (ps_upI u1 6 5 (nI n1))) rfl (fun i _ h => by apply ps_E_ext <;> first | rfl | simp [ps_upI, ps_upU, ps_upA, ps_upB, va_up, h]) (fun H locs hP hS => ?_)
    refine lv_aload_n hx hb d_Reply_finish_30 rfl (lv_at hl 0 rfl) ?_
    refine ps_get (v := .ref (g 21)) hx hb hT i_Reply hown hK hP (k := 6) (by omega) rfl rfl 9 (by decide) (hT _ fl_Reply_27) (fun _ h9 => h9) rfl d_Reply_finish_31 ?_
    refine lv_aload_n hx hb d_Reply_finish_34 rfl (lv_at hl 1 rfl) ?_
    refine ps_wrv (k := 15 + 6) (As := [.ref (g (15 + t))]) (rest := []) ⟨hx, hb, hml, hown, hT⟩ (c_Places_removeAll (σ := (ps_upI u1 6 5 (nI n1))) hg 6 (by decide) t (by omega) (by omega)) (cwV 1 hT (ps_gV ml_Reply_67 im_Places_removeAll se_Places_removeAll in_Places co_Places_removeAll) rfl rfl rfl cd_Places_removeAll ⟨Nat.le_of_ble_eq_true rfl, Nat.le_of_ble_eq_true rfl⟩) hK hP hS (fun _ h => h) (by omega) rfl rfl rfl hl.1 rfl (Nat.le_of_ble_eq_true rfl) d_Reply_finish_35 ⟨Nat.zero_le _, Nat.zero_le _⟩ (fun f6 H locs hz hP hS _ => ?_)
    have hm6 : ∀ q, q < 4096 → ps_hs f6 q = (ps_hs (σ.2.2.2 30) q && !ps_hs (σ.2.2.2 (24 + t)) q) := fun q hq => by have := hz q hq; change _ = (ps_hs (u1.2.2.2 30) q && !ps_hs (u1.2.2.2 (24 + t)) q) at this; rw [hj7] at this; exact this
    clear hz
    refine lv_aload_n hx hb d_Reply_finish_38 rfl (lv_at hl 0 rfl) ?_
    refine lv_aload_n hx hb d_Reply_finish_39 rfl (lv_at hl 0 rfl) ?_
    refine ps_get (v := .int (nI n1)) hx hb hT i_Reply hown hK hP (k := 6) (by omega) rfl rfl 5 (by decide) (hT _ fl_Reply_64) (fun _ h9 => h9) rfl d_Reply_finish_40 ?_
    refine lv_aload_n hx hb d_Reply_finish_43 rfl (lv_at hl 0 rfl) ?_
    refine ps_get (v := .ref (g 21)) hx hb hT i_Reply hown hK hP (k := 6) (by omega) rfl rfl 9 (by decide) (hT _ fl_Reply_27) (fun _ h9 => h9) rfl d_Reply_finish_44 ?_
    refine ps_roi (k := 15 + 6) (As := []) (rest := [.int (nI n1), .ref (g 6)]) ⟨hx, hb, hml, hown, hT⟩ (c_Places_size (σ := (ps_upB (ps_upI u1 6 5 (nI n1)) 30 f6)) 6 (by decide)) (cwV 0 hT (ps_gV ml_Reply_60 im_Places_size se_Places_size in_Places co_Places_size) rfl rfl rfl cd_Places_size ⟨Nat.le_of_ble_eq_true rfl, Nat.le_of_ble_eq_true rfl⟩) hK hP (by omega) rfl rfl rfl hl.1 rfl (Nat.le_of_ble_eq_true rfl) d_Reply_finish_47 ⟨Nat.zero_le _, Nat.zero_le _⟩ (fun rr hrr => ?_)
    obtain ⟨n2, en2⟩ : ∃ z, z = ps_cn (ps_hs f6) 4096 := ⟨_, rfl⟩
    have hrr : rr = nI n2 := by rw [en2]; exact hrr
    subst hrr
    refine lv_isub hx hb d_Reply_finish_50 ?_
    refine ps_seti (y := nI (n1 - n2)) (pk_sub (by rw [en1, en2]; exact ps_cn_subA hm6)) ?_
    refine ps_put (v := .int (nI (n1 - n2))) (ty := .int) hx hb hT i_Reply t_Reply t_Reply_ok n_Reply hown hK hg hP hS (k := 6) (by omega) rfl rfl 6 (by decide) (hT _ fl_Reply_71) (fun _ h9 => h9) rfl (by decide +kernel) rfl rfl (Nat.le_of_ble_eq_true rfl) d_Reply_finish_51 (ps_E g cI cJ cT (ps_upI (ps_upB (ps_upI u1 6 5 (nI n1)) 30 f6) 6 6 (nI (n1 - n2)))) rfl (fun i _ h => by apply ps_E_ext <;> first | rfl | simp [ps_upI, ps_upU, ps_upA, ps_upB, va_up, h]) (fun H locs hP hS => ?_)
    refine lv_aload_n hx hb d_Reply_finish_54 rfl (lv_at hl 0 rfl) ?_
    refine lv_iload_n hx hb d_Reply_finish_55 rfl (lv_at hl 2 rfl) ?_
    refine ps_wrv (k := 6) (As := [.int (nI cc1)]) (rest := []) ⟨hx, hb, hml, hown, hT⟩ (c_Reply_plan (σ := (ps_upI (ps_upB (ps_upI u1 6 5 (nI n1)) 30 f6) 6 6 (nI (n1 - n2)))) hg cc1 hc1 (hj5.trans h67) (hj6.trans h68) (fun q hq => (congrArg (fun z => ps_hs (z 31) q) hj7).trans (he7 q hq)) (fun q hq => (congrArg (fun z => ps_hs (z 32) q) hj7).trans (he8 q hq))) (cwV 1 hT (ps_gV ml_Reply_74 im_Reply_plan se_Reply_plan in_Reply co_Reply_plan) rfl rfl rfl cd_Reply_plan ⟨Nat.le_of_ble_eq_true rfl, Nat.le_of_ble_eq_true rfl⟩) hK hP hS (fun _ h => h) (by omega) rfl rfl rfl hl.1 rfl (Nat.le_of_ble_eq_true rfl) d_Reply_finish_56 ⟨Nat.zero_le _, Nat.zero_le _⟩ (fun u2 H locs hq hP hS _ => ?_)
    obtain ⟨q1, q2, q3, q4, q5, q6, q7, q8, q9, q10⟩ := hq
    rw [hQ]
    exact W.vret hx hb hr (fun zt ht _ => ⟨⟨u2, rfl, ⟨(((ps_s6I (ps_s6B (by omega) (ps_s6I (hj1))))).trans q1), q6.trans hj4, Or.inl ⟨hov, q7.trans hj2, fun i hi => by rw [q10]; exact hj3 i hi⟩, q8.trans (by rw [ps_upI_nj (by decide), ps_upB_1, ps_upI_eq, en1]), ps_hs f6, hm6, q9.trans (by rw [ps_upI_eq, en1, en2]), q2, q3, q4, q5⟩, ps_hp ht hP⟩, hS.F ht⟩) hS.2.2 d_Reply_finish_59
  · refine lv_aload_n hx hb d_Reply_finish_7 rfl (lv_at hl 0 rfl) ?_
    refine ps_get (v := .int (σ.1 6 1)) hx hb hT i_Reply hown hK hP (k := 6) (by omega) ps_E_6 rfl 1 (by decide) (hT _ fl_Reply_37) (fun _ h9 => h9) rfl d_Reply_finish_8 ?_
    refine ps_seti (y := nI r0) hr6 ?_
    refine lv_iconst (v := nI 3) hx hb d_Reply_finish_11 (by decide) ?_
    refine lv_icmp_le (tgt := 19) hx hb d_Reply_finish_12 (by decide) (fun c_12 => ?_) (fun c_12 => ?_)
    · have hov : σ.1 6 4 = 0 := c_4
      have hr3 : r0 ≤ 3 := ps_leT c_12 (by omega) (by decide)
      refine lv_aload_n hx hb d_Reply_finish_19 rfl (lv_at hl 0 rfl) ?_
      refine lv_aload_n hx hb d_Reply_finish_20 rfl (lv_at hl 0 rfl) ?_
      refine ps_get (v := .ref (g 21)) hx hb hT i_Reply hown hK hP (k := 6) (by omega) ps_E_6 rfl 9 (by decide) (hT _ fl_Reply_27) (fun _ h9 => h9) rfl d_Reply_finish_21 ?_
      refine ps_roi (k := 15 + 6) (As := []) (rest := [.ref (g 6)]) ⟨hx, hb, hml, hown, hT⟩ (c_Places_size (σ := σ) 6 (by decide)) (cwV 0 hT (ps_gV ml_Reply_60 im_Places_size se_Places_size in_Places co_Places_size) rfl rfl rfl cd_Places_size ⟨Nat.le_of_ble_eq_true rfl, Nat.le_of_ble_eq_true rfl⟩) hK hP (by omega) (ps_E_pl (by decide)) rfl rfl hl.1 rfl (Nat.le_of_ble_eq_true rfl) d_Reply_finish_24 ⟨Nat.zero_le _, Nat.zero_le _⟩ (fun rr hrr => ?_)
      obtain ⟨n1, en1⟩ : ∃ z, z = ps_cn (ps_hs (σ.2.2.2 30)) 4096 := ⟨_, rfl⟩
      have hrr : rr = nI n1 := by rw [hrr, en1]
      subst hrr
      refine ps_put (v := .int (nI n1)) (ty := .int) hx hb hT i_Reply t_Reply t_Reply_ok n_Reply hown hK hg hP hS (k := 6) (by omega) ps_E_6 rfl 5 (by decide) (hT _ fl_Reply_64) (fun _ h9 => h9) rfl (by decide +kernel) rfl rfl (Nat.le_of_ble_eq_true rfl) d_Reply_finish_27 (ps_E g cI cJ cT (ps_upI σ 6 5 (nI n1))) rfl (fun i _ h => by apply ps_E_ext <;> first | rfl | simp [ps_upI, ps_upU, ps_upA, ps_upB, va_up, h]) (fun H locs hP hS => ?_)
      refine lv_aload_n hx hb d_Reply_finish_30 rfl (lv_at hl 0 rfl) ?_
      refine ps_get (v := .ref (g 21)) hx hb hT i_Reply hown hK hP (k := 6) (by omega) rfl rfl 9 (by decide) (hT _ fl_Reply_27) (fun _ h9 => h9) rfl d_Reply_finish_31 ?_
      refine lv_aload_n hx hb d_Reply_finish_34 rfl (lv_at hl 1 rfl) ?_
      refine ps_wrv (k := 15 + 6) (As := [.ref (g (15 + t))]) (rest := []) ⟨hx, hb, hml, hown, hT⟩ (c_Places_removeAll (σ := (ps_upI σ 6 5 (nI n1))) hg 6 (by decide) t (by omega) (by omega)) (cwV 1 hT (ps_gV ml_Reply_67 im_Places_removeAll se_Places_removeAll in_Places co_Places_removeAll) rfl rfl rfl cd_Places_removeAll ⟨Nat.le_of_ble_eq_true rfl, Nat.le_of_ble_eq_true rfl⟩) hK hP hS (fun _ h => h) (by omega) rfl rfl rfl hl.1 rfl (Nat.le_of_ble_eq_true rfl) d_Reply_finish_35 ⟨Nat.zero_le _, Nat.zero_le _⟩ (fun f6 H locs hz hP hS _ => ?_)
      have hm6 : ∀ q, q < 4096 → ps_hs f6 q = (ps_hs (σ.2.2.2 30) q && !ps_hs (σ.2.2.2 (24 + t)) q) := hz
      clear hz
      refine lv_aload_n hx hb d_Reply_finish_38 rfl (lv_at hl 0 rfl) ?_
      refine lv_aload_n hx hb d_Reply_finish_39 rfl (lv_at hl 0 rfl) ?_
      refine ps_get (v := .int (nI n1)) hx hb hT i_Reply hown hK hP (k := 6) (by omega) rfl rfl 5 (by decide) (hT _ fl_Reply_64) (fun _ h9 => h9) rfl d_Reply_finish_40 ?_
      refine lv_aload_n hx hb d_Reply_finish_43 rfl (lv_at hl 0 rfl) ?_
      refine ps_get (v := .ref (g 21)) hx hb hT i_Reply hown hK hP (k := 6) (by omega) rfl rfl 9 (by decide) (hT _ fl_Reply_27) (fun _ h9 => h9) rfl d_Reply_finish_44 ?_
      refine ps_roi (k := 15 + 6) (As := []) (rest := [.int (nI n1), .ref (g 6)]) ⟨hx, hb, hml, hown, hT⟩ (c_Places_size (σ := (ps_upB (ps_upI σ 6 5 (nI n1)) 30 f6)) 6 (by decide)) (cwV 0 hT (ps_gV ml_Reply_60 im_Places_size se_Places_size in_Places co_Places_size) rfl rfl rfl cd_Places_size ⟨Nat.le_of_ble_eq_true rfl, Nat.le_of_ble_eq_true rfl⟩) hK hP (by omega) rfl rfl rfl hl.1 rfl (Nat.le_of_ble_eq_true rfl) d_Reply_finish_47 ⟨Nat.zero_le _, Nat.zero_le _⟩ (fun rr hrr => ?_)
      obtain ⟨n2, en2⟩ : ∃ z, z = ps_cn (ps_hs f6) 4096 := ⟨_, rfl⟩
      have hrr : rr = nI n2 := by rw [en2]; exact hrr
      subst hrr
      refine lv_isub hx hb d_Reply_finish_50 ?_
      refine ps_seti (y := nI (n1 - n2)) (pk_sub (by rw [en1, en2]; exact ps_cn_subA hm6)) ?_
      refine ps_put (v := .int (nI (n1 - n2))) (ty := .int) hx hb hT i_Reply t_Reply t_Reply_ok n_Reply hown hK hg hP hS (k := 6) (by omega) rfl rfl 6 (by decide) (hT _ fl_Reply_71) (fun _ h9 => h9) rfl (by decide +kernel) rfl rfl (Nat.le_of_ble_eq_true rfl) d_Reply_finish_51 (ps_E g cI cJ cT (ps_upI (ps_upB (ps_upI σ 6 5 (nI n1)) 30 f6) 6 6 (nI (n1 - n2)))) rfl (fun i _ h => by apply ps_E_ext <;> first | rfl | simp [ps_upI, ps_upU, ps_upA, ps_upB, va_up, h]) (fun H locs hP hS => ?_)
      refine lv_aload_n hx hb d_Reply_finish_54 rfl (lv_at hl 0 rfl) ?_
      refine lv_iload_n hx hb d_Reply_finish_55 rfl (lv_at hl 2 rfl) ?_
      refine ps_wrv (k := 6) (As := [.int (nI cc1)]) (rest := []) ⟨hx, hb, hml, hown, hT⟩ (c_Reply_plan (σ := (ps_upI (ps_upB (ps_upI σ 6 5 (nI n1)) 30 f6) 6 6 (nI (n1 - n2)))) hg cc1 hc1 h67 h68 he7 he8) (cwV 1 hT (ps_gV ml_Reply_74 im_Reply_plan se_Reply_plan in_Reply co_Reply_plan) rfl rfl rfl cd_Reply_plan ⟨Nat.le_of_ble_eq_true rfl, Nat.le_of_ble_eq_true rfl⟩) hK hP hS (fun _ h => h) (by omega) rfl rfl rfl hl.1 rfl (Nat.le_of_ble_eq_true rfl) d_Reply_finish_56 ⟨Nat.zero_le _, Nat.zero_le _⟩ (fun u2 H locs hq hP hS _ => ?_)
      obtain ⟨q1, q2, q3, q4, q5, q6, q7, q8, q9, q10⟩ := hq
      rw [hQ]
      exact W.vret hx hb hr (fun zt ht _ => ⟨⟨u2, rfl, ⟨(((ps_s6I (ps_s6B (by omega) (ps_s6I (ps_s6_rf σ))))).trans q1), q6, Or.inr ⟨hov, hr3, q7.trans hr6, q10⟩, q8.trans (by rw [ps_upI_nj (by decide), ps_upB_1, ps_upI_eq, en1]), ps_hs f6, hm6, q9.trans (by rw [ps_upI_eq, en1, en2]), q2, q3, q4, q5⟩, ps_hp ht hP⟩, hS.F ht⟩) hS.2.2 d_Reply_finish_59
    · have hov : ¬ σ.1 6 4 = 0 ∨ 3 < r0 := Or.inr (ps_ltOf c_12 (by decide) (by omega))
      refine lv_aload_n hx hb d_Reply_finish_15 rfl (lv_at hl 0 rfl) ?_
      refine ps_wrv (k := 6) (As := []) (rest := []) ⟨hx, hb, hml, hown, hT⟩ (c_Reply_joinRows (σ := σ) hg) (cwV 0 hT (ps_gV ml_Reply_57 im_Reply_joinRows se_Reply_joinRows in_Reply co_Reply_joinRows) rfl rfl rfl cd_Reply_joinRows ⟨Nat.le_of_ble_eq_true rfl, Nat.le_of_ble_eq_true rfl⟩) hK hP hS (fun _ h => h) (by omega) ps_E_6 rfl rfl hl.1 rfl (Nat.le_of_ble_eq_true rfl) d_Reply_finish_16 ⟨Nat.zero_le _, Nat.zero_le _⟩ (fun u1 H locs hj hP hS _ => ?_)
      obtain ⟨hj1, hj2, hj3, hj4, hj5, hj6, hj7⟩ := hj
      refine lv_aload_n hx hb d_Reply_finish_19 rfl (lv_at hl 0 rfl) ?_
      refine lv_aload_n hx hb d_Reply_finish_20 rfl (lv_at hl 0 rfl) ?_
      refine ps_get (v := .ref (g 21)) hx hb hT i_Reply hown hK hP (k := 6) (by omega) ps_E_6 rfl 9 (by decide) (hT _ fl_Reply_27) (fun _ h9 => h9) rfl d_Reply_finish_21 ?_
      refine ps_roi (k := 15 + 6) (As := []) (rest := [.ref (g 6)]) ⟨hx, hb, hml, hown, hT⟩ (c_Places_size (σ := u1) 6 (by decide)) (cwV 0 hT (ps_gV ml_Reply_60 im_Places_size se_Places_size in_Places co_Places_size) rfl rfl rfl cd_Places_size ⟨Nat.le_of_ble_eq_true rfl, Nat.le_of_ble_eq_true rfl⟩) hK hP (by omega) (ps_E_pl (by decide)) rfl rfl hl.1 rfl (Nat.le_of_ble_eq_true rfl) d_Reply_finish_24 ⟨Nat.zero_le _, Nat.zero_le _⟩ (fun rr hrr => ?_)
      obtain ⟨n1, en1⟩ : ∃ z, z = ps_cn (ps_hs (σ.2.2.2 30)) 4096 := ⟨_, rfl⟩
      have hrr : rr = nI n1 := by rw [hrr, en1]; show nI (ps_cn (ps_hs (u1.2.2.2 30)) 4096) = _; rw [hj7]
      subst hrr
      refine ps_put (v := .int (nI n1)) (ty := .int) hx hb hT i_Reply t_Reply t_Reply_ok n_Reply hown hK hg hP hS (k := 6) (by omega) ps_E_6 rfl 5 (by decide) (hT _ fl_Reply_64) (fun _ h9 => h9) rfl (by decide +kernel) rfl rfl (Nat.le_of_ble_eq_true rfl) d_Reply_finish_27 (ps_E g cI cJ cT (ps_upI u1 6 5 (nI n1))) rfl (fun i _ h => by apply ps_E_ext <;> first | rfl | simp [ps_upI, ps_upU, ps_upA, ps_upB, va_up, h]) (fun H locs hP hS => ?_)
      refine lv_aload_n hx hb d_Reply_finish_30 rfl (lv_at hl 0 rfl) ?_
      refine ps_get (v := .ref (g 21)) hx hb hT i_Reply hown hK hP (k := 6) (by omega) rfl rfl 9 (by decide) (hT _ fl_Reply_27) (fun _ h9 => h9) rfl d_Reply_finish_31 ?_
      refine lv_aload_n hx hb d_Reply_finish_34 rfl (lv_at hl 1 rfl) ?_
      refine ps_wrv (k := 15 + 6) (As := [.ref (g (15 + t))]) (rest := []) ⟨hx, hb, hml, hown, hT⟩ (c_Places_removeAll (σ := (ps_upI u1 6 5 (nI n1))) hg 6 (by decide) t (by omega) (by omega)) (cwV 1 hT (ps_gV ml_Reply_67 im_Places_removeAll se_Places_removeAll in_Places co_Places_removeAll) rfl rfl rfl cd_Places_removeAll ⟨Nat.le_of_ble_eq_true rfl, Nat.le_of_ble_eq_true rfl⟩) hK hP hS (fun _ h => h) (by omega) rfl rfl rfl hl.1 rfl (Nat.le_of_ble_eq_true rfl) d_Reply_finish_35 ⟨Nat.zero_le _, Nat.zero_le _⟩ (fun f6 H locs hz hP hS _ => ?_)
      have hm6 : ∀ q, q < 4096 → ps_hs f6 q = (ps_hs (σ.2.2.2 30) q && !ps_hs (σ.2.2.2 (24 + t)) q) := fun q hq => by have := hz q hq; change _ = (ps_hs (u1.2.2.2 30) q && !ps_hs (u1.2.2.2 (24 + t)) q) at this; rw [hj7] at this; exact this
      clear hz
      refine lv_aload_n hx hb d_Reply_finish_38 rfl (lv_at hl 0 rfl) ?_
      refine lv_aload_n hx hb d_Reply_finish_39 rfl (lv_at hl 0 rfl) ?_
      refine ps_get (v := .int (nI n1)) hx hb hT i_Reply hown hK hP (k := 6) (by omega) rfl rfl 5 (by decide) (hT _ fl_Reply_64) (fun _ h9 => h9) rfl d_Reply_finish_40 ?_
      refine lv_aload_n hx hb d_Reply_finish_43 rfl (lv_at hl 0 rfl) ?_
      refine ps_get (v := .ref (g 21)) hx hb hT i_Reply hown hK hP (k := 6) (by omega) rfl rfl 9 (by decide) (hT _ fl_Reply_27) (fun _ h9 => h9) rfl d_Reply_finish_44 ?_
      refine ps_roi (k := 15 + 6) (As := []) (rest := [.int (nI n1), .ref (g 6)]) ⟨hx, hb, hml, hown, hT⟩ (c_Places_size (σ := (ps_upB (ps_upI u1 6 5 (nI n1)) 30 f6)) 6 (by decide)) (cwV 0 hT (ps_gV ml_Reply_60 im_Places_size se_Places_size in_Places co_Places_size) rfl rfl rfl cd_Places_size ⟨Nat.le_of_ble_eq_true rfl, Nat.le_of_ble_eq_true rfl⟩) hK hP (by omega) rfl rfl rfl hl.1 rfl (Nat.le_of_ble_eq_true rfl) d_Reply_finish_47 ⟨Nat.zero_le _, Nat.zero_le _⟩ (fun rr hrr => ?_)
      obtain ⟨n2, en2⟩ : ∃ z, z = ps_cn (ps_hs f6) 4096 := ⟨_, rfl⟩
      have hrr : rr = nI n2 := by rw [en2]; exact hrr
      subst hrr
      refine lv_isub hx hb d_Reply_finish_50 ?_
      refine ps_seti (y := nI (n1 - n2)) (pk_sub (by rw [en1, en2]; exact ps_cn_subA hm6)) ?_
      refine ps_put (v := .int (nI (n1 - n2))) (ty := .int) hx hb hT i_Reply t_Reply t_Reply_ok n_Reply hown hK hg hP hS (k := 6) (by omega) rfl rfl 6 (by decide) (hT _ fl_Reply_71) (fun _ h9 => h9) rfl (by decide +kernel) rfl rfl (Nat.le_of_ble_eq_true rfl) d_Reply_finish_51 (ps_E g cI cJ cT (ps_upI (ps_upB (ps_upI u1 6 5 (nI n1)) 30 f6) 6 6 (nI (n1 - n2)))) rfl (fun i _ h => by apply ps_E_ext <;> first | rfl | simp [ps_upI, ps_upU, ps_upA, ps_upB, va_up, h]) (fun H locs hP hS => ?_)
      refine lv_aload_n hx hb d_Reply_finish_54 rfl (lv_at hl 0 rfl) ?_
      refine lv_iload_n hx hb d_Reply_finish_55 rfl (lv_at hl 2 rfl) ?_
      refine ps_wrv (k := 6) (As := [.int (nI cc1)]) (rest := []) ⟨hx, hb, hml, hown, hT⟩ (c_Reply_plan (σ := (ps_upI (ps_upB (ps_upI u1 6 5 (nI n1)) 30 f6) 6 6 (nI (n1 - n2)))) hg cc1 hc1 (hj5.trans h67) (hj6.trans h68) (fun q hq => (congrArg (fun z => ps_hs (z 31) q) hj7).trans (he7 q hq)) (fun q hq => (congrArg (fun z => ps_hs (z 32) q) hj7).trans (he8 q hq))) (cwV 1 hT (ps_gV ml_Reply_74 im_Reply_plan se_Reply_plan in_Reply co_Reply_plan) rfl rfl rfl cd_Reply_plan ⟨Nat.le_of_ble_eq_true rfl, Nat.le_of_ble_eq_true rfl⟩) hK hP hS (fun _ h => h) (by omega) rfl rfl rfl hl.1 rfl (Nat.le_of_ble_eq_true rfl) d_Reply_finish_56 ⟨Nat.zero_le _, Nat.zero_le _⟩ (fun u2 H locs hq hP hS _ => ?_)
      obtain ⟨q1, q2, q3, q4, q5, q6, q7, q8, q9, q10⟩ := hq
      rw [hQ]
      exact W.vret hx hb hr (fun zt ht _ => ⟨⟨u2, rfl, ⟨(((ps_s6I (ps_s6B (by omega) (ps_s6I (hj1))))).trans q1), q6.trans hj4, Or.inl ⟨hov, q7.trans hj2, fun i hi => by rw [q10]; exact hj3 i hi⟩, q8.trans (by rw [ps_upI_nj (by decide), ps_upB_1, ps_upI_eq, en1]), ps_hs f6, hm6, q9.trans (by rw [ps_upI_eq, en1, en2]), q2, q3, q4, q5⟩, ps_hp ht hP⟩, hS.F ht⟩) hS.2.2 d_Reply_finish_59
