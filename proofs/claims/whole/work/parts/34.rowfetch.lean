theorem fl_Shelf_122 : (.fieldLink R_Shelf 122 R_Reply "firsts" "[I" : Cond) ∈ ps_tb := ps_in 92 (by decide +kernel) rfl
theorem fl_Shelf_118 : (.fieldLink R_Shelf 118 R_Reply "lasts" "[I" : Cond) ∈ ps_tb := ps_in 94 (by decide +kernel) rfl
theorem fl_Shelf_125 : (.fieldLink R_Shelf 125 R_Reply "fetches" "I" : Cond) ∈ ps_tb := ps_in 99 (by decide +kernel) rfl
theorem fl_Shelf_136 : (.fieldLink R_Shelf 136 R_Reply "fetchFirsts" "LPieceShelf$Places;" : Cond) ∈ ps_tb := ps_in 103 (by decide +kernel) rfl
theorem ml_Shelf_133 : (.methodLink R_Shelf 133 y_Places_nth : Cond) ∈ ps_tb := ps_in 509 (by decide +kernel) rfl
theorem co_Places_nth : (.code y_Places_nth b_Places_nth 8 (some .int) : Cond) ∈ ps_tb := ps_in 512 (by decide +kernel) rfl
theorem im_Places_nth : (.instanceMethod y_Places_nth : Cond) ∈ ps_tb := ps_in 510 (by decide +kernel) rfl
theorem se_Places_nth : (.selects R_Places y_Places_nth y_Places_nth : Cond) ∈ ps_tb := ps_in 511 (by decide +kernel) rfl
theorem fl_Shelf_130 : (.fieldLink R_Shelf 130 R_Reply "fetchLasts" "LPieceShelf$Places;" : Cond) ∈ ps_tb := ps_in 105 (by decide +kernel) rfl
theorem cd_Places_nth : y_Places_nth.cls = R_Places ∧ y_Places_nth.cls ≠ "java/lang/invoke/MethodHandle" ∧ y_Places_nth.cls ≠ "java/lang/invoke/VarHandle" ∧ (parseMethodDescriptor y_Places_nth.desc).map (fun d => d.parameters.length) = some 1 := by decide +kernel
def rm_Shelf_row : Room := { frames := 0, cells := 0, slots := 0, locals := 0 }
abbrev ws_Shelf_row : List Cond := .code y_Shelf_row b_Shelf_row 3 (some .int) :: ps_tb
set_option maxHeartbeats 4000000 in
set_option maxRecDepth 100000 in
theorem c_Shelf_row {l : Launch} {D : va_G} {g : Nat → Nat} {cI cJ cT : ClassId} {σ : ps_σ} (R : List (Nat × Nat)) (hR6 : R.length ≤ 6) (h61 : σ.1 6 1 = nI R.length) (hv : ∀ i, (hi : i < R.length) → σ.2.2.1 7 i = nI R[i].1 ∧ σ.2.2.1 8 i = nI R[i].2) (i : Nat) (hi : i < R.length) (en : Bool) : Met l y_Shelf_row ws_Shelf_row rm_Shelf_row (ps_Pc D ps_cl (ps_tys cI cJ cT) 33 g (ps_E g cI cJ cT σ) [.ref (g 0), .int (nI i), .int (ps_bI en)]) (vp_Si (fun r => r = nI (if en = true then R[i].2 else R[i].1))) 0 0 (fun _ => False) := by
  refine ps_met (by decide) ?_
  intro p e s m args below meth c hx hb hr hml hts hown hlocks hname hv Q hQ
  obtain ⟨ha, hP, hK⟩ := hv
  have hT : ∀ w ∈ ps_tb, w.before args s = true := fun w h => hts w (List.mem_cons_of_mem _ h)
  have hown : s.vm.findClass R_Shelf = some m.cls := hown
  refine ps_enter ha (Nat.le_of_ble_eq_true rfl) (fun ls hl => ?_)
  have hl : lv_has ls 3 [(0, .ref (g 0)), (1, .int (nI i)), (2, .int (ps_bI en))] := hl
  refine lv_iload_n hx hb d_Shelf_row_0 rfl (lv_at hl 1 rfl) ?_
  refine lv_if_lt (tgt := 15) hx hb d_Shelf_row_1 (by decide) (fun c_1 => ?_) (fun c_1 => ?_)
  · exact absurd c_1 (nI_pos (by omega))
  · refine lv_iload_n hx hb d_Shelf_row_4 rfl (lv_at hl 1 rfl) ?_
    refine lv_aload_n hx hb d_Shelf_row_5 rfl (lv_at hl 0 rfl) ?_
    refine ps_get (v := .ref (g 6)) hx hb hT i_Shelf hown hK hP (k := 0) (by omega) ps_E_0 rfl 2 (by decide) (hT _ fl_Shelf_26) (fun _ h9 => h9) rfl d_Shelf_row_6 ?_
    refine ps_get (v := .int (σ.1 6 1)) hx hb hT i_Reply hown hK hP (k := 6) (by omega) ps_E_6 rfl 1 (by decide) (hT _ fl_Shelf_110) (fun _ h9 => h9) rfl d_Shelf_row_9 ?_
    refine ps_seti (y := nI R.length) h61 ?_
    refine lv_icmp_lt (tgt := 25) hx hb d_Shelf_row_12 (by decide) (fun c_12 => ?_) (fun c_12 => ?_)
    · refine lv_iload_n hx hb d_Shelf_row_25 rfl (lv_at hl 2 rfl) ?_
      refine lv_if_eq (tgt := 41) hx hb d_Shelf_row_26 (by decide) (fun c_26 => ?_) (fun c_26 => ?_)
      · have he : en = false := by cases en with
          | false => rfl
          | true => exact absurd c_26 (by decide)
        refine lv_aload_n hx hb d_Shelf_row_41 rfl (lv_at hl 0 rfl) ?_
        refine ps_get (v := .ref (g 6)) hx hb hT i_Shelf hown hK hP (k := 0) (by omega) ps_E_0 rfl 2 (by decide) (hT _ fl_Shelf_26) (fun _ h9 => h9) rfl d_Shelf_row_42 ?_
        refine ps_get (v := .ref (g 7)) hx hb hT i_Reply hown hK hP (k := 6) (by omega) ps_E_6 rfl 2 (by decide) (hT _ fl_Shelf_122) (fun _ h9 => h9) rfl d_Shelf_row_45 ?_
        refine lv_iload_n hx hb d_Shelf_row_48 rfl (lv_at hl 1 rfl) ?_
        refine ps_iald (f := σ.2.2.1 7) hx hb hK hP (k := 7) (by omega) 0 ps_E_7 rfl (i := i) (by omega) (by decide) d_Shelf_row_49 ?_
        rw [hQ]
        exact W.iret (v := σ.2.2.1 7 i) hx hb hr (fun zt ht _ => ⟨_, rfl, by rw [he]; exact (hv i hi).1, ht⟩) (fun q h => absurd h List.not_mem_nil) d_Shelf_row_50
      · have he : en = true := by cases en with
          | true => rfl
          | false => exact absurd rfl c_26
        refine lv_aload_n hx hb d_Shelf_row_29 rfl (lv_at hl 0 rfl) ?_
        refine ps_get (v := .ref (g 6)) hx hb hT i_Shelf hown hK hP (k := 0) (by omega) ps_E_0 rfl 2 (by decide) (hT _ fl_Shelf_26) (fun _ h9 => h9) rfl d_Shelf_row_30 ?_
        refine ps_get (v := .ref (g 8)) hx hb hT i_Reply hown hK hP (k := 6) (by omega) ps_E_6 rfl 3 (by decide) (hT _ fl_Shelf_118) (fun _ h9 => h9) rfl d_Shelf_row_33 ?_
        refine lv_iload_n hx hb d_Shelf_row_36 rfl (lv_at hl 1 rfl) ?_
        refine ps_iald (f := σ.2.2.1 8) hx hb hK hP (k := 8) (by omega) 0 ps_E_8 rfl (i := i) (by omega) (by decide) d_Shelf_row_37 ?_
        refine lv_goto (tgt := 50) hx hb d_Shelf_row_38 (by decide) ?_
        rw [hQ]
        exact W.iret (v := σ.2.2.1 8 i) hx hb hr (fun zt ht _ => ⟨_, rfl, by rw [he]; exact (hv i hi).2, ht⟩) (fun q h => absurd h List.not_mem_nil) d_Shelf_row_50
    · exact absurd (nI_lt hi (by omega)) c_12

def rm_Shelf_fetch : Room := { frames := 3, cells := 0, slots := 0, locals := 69 }
abbrev ws_Shelf_fetch : List Cond := .code y_Shelf_fetch b_Shelf_fetch 3 (some .int) :: ps_tb
set_option maxHeartbeats 4000000 in
set_option maxRecDepth 100000 in
theorem c_Shelf_fetch {l : Launch} {D : va_G} {g : Nat → Nat} {cI cJ cT : ClassId} {σ : ps_σ} (P : List (Nat × Nat)) (hPk : ps_plOK P) (h67 : σ.1 6 7 = nI P.length) (hPl : P.length < 2 ^ 31) (h31 : ∀ q, q < 4096 → ps_hs (σ.2.2.2 31) q = decide (q ∈ P.map (fun r => r.1))) (h32 : ∀ q, q < 4096 → ps_hs (σ.2.2.2 32) q = decide (q ∈ P.map (fun r => r.2))) (i : Nat) (hi : i < P.length) (en : Bool) : Met l y_Shelf_fetch ws_Shelf_fetch rm_Shelf_fetch (ps_Pc D ps_cl (ps_tys cI cJ cT) 33 g (ps_E g cI cJ cT σ) [.ref (g 0), .int (nI i), .int (ps_bI en)]) (vp_Si (fun r => r = nI (if en = true then P[i].2 else P[i].1))) 0 0 (fun _ => False) := by
  refine ps_met (by decide) ?_
  intro p e s m args below meth c hx hb hr hml hts hown hlocks hname hv Q hQ
  obtain ⟨ha, hP, hK⟩ := hv
  have hT : ∀ w ∈ ps_tb, w.before args s = true := fun w h => hts w (List.mem_cons_of_mem _ h)
  have hown : s.vm.findClass R_Shelf = some m.cls := hown
  refine ps_enter ha (Nat.le_of_ble_eq_true rfl) (fun ls hl => ?_)
  have hl : lv_has ls 3 [(0, .ref (g 0)), (1, .int (nI i)), (2, .int (ps_bI en))] := hl
  refine lv_iload_n hx hb d_Shelf_fetch_0 rfl (lv_at hl 1 rfl) ?_
  refine lv_if_lt (tgt := 15) hx hb d_Shelf_fetch_1 (by decide) (fun c_1 => ?_) (fun c_1 => ?_)
  · exact absurd c_1 (nI_pos (by omega))
  · refine lv_iload_n hx hb d_Shelf_fetch_4 rfl (lv_at hl 1 rfl) ?_
    refine lv_aload_n hx hb d_Shelf_fetch_5 rfl (lv_at hl 0 rfl) ?_
    refine ps_get (v := .ref (g 6)) hx hb hT i_Shelf hown hK hP (k := 0) (by omega) ps_E_0 rfl 2 (by decide) (hT _ fl_Shelf_26) (fun _ h9 => h9) rfl d_Shelf_fetch_6 ?_
    refine ps_get (v := .int (σ.1 6 7)) hx hb hT i_Reply hown hK hP (k := 6) (by omega) ps_E_6 rfl 7 (by decide) (hT _ fl_Shelf_125) (fun _ h9 => h9) rfl d_Shelf_fetch_9 ?_
    refine ps_seti (y := nI P.length) h67 ?_
    refine lv_icmp_lt (tgt := 25) hx hb d_Shelf_fetch_12 (by decide) (fun c_12 => ?_) (fun c_12 => ?_)
    · refine lv_iload_n hx hb d_Shelf_fetch_25 rfl (lv_at hl 2 rfl) ?_
      refine lv_if_eq (tgt := 43) hx hb d_Shelf_fetch_26 (by decide) (fun c_26 => ?_) (fun c_26 => ?_)
      · have he : en = false := by cases en with
          | false => rfl
          | true => exact absurd c_26 (by decide)
        refine lv_aload_n hx hb d_Shelf_fetch_43 rfl (lv_at hl 0 rfl) ?_
        refine ps_get (v := .ref (g 6)) hx hb hT i_Shelf hown hK hP (k := 0) (by omega) ps_E_0 rfl 2 (by decide) (hT _ fl_Shelf_26) (fun _ h9 => h9) rfl d_Shelf_fetch_44 ?_
        refine ps_get (v := .ref (g 22)) hx hb hT i_Reply hown hK hP (k := 6) (by omega) ps_E_6 rfl 10 (by decide) (hT _ fl_Shelf_136) (fun _ h9 => h9) rfl d_Shelf_fetch_47 ?_
        refine lv_iload_n hx hb d_Shelf_fetch_50 rfl (lv_at hl 1 rfl) ?_
        refine ps_roi (k := 15 + 7) (As := [.int (nI i)]) (rest := []) ⟨hx, hb, hml, hown, hT⟩ (c_Places_nth 7 (by decide) i P[i].1 (ps_nth1 hPk h31 hi).1 (ps_nth1 hPk h31 hi).2.1 (ps_nth1 hPk h31 hi).2.2) (cwV 1 hT (ps_gV ml_Shelf_133 im_Places_nth se_Places_nth in_Places co_Places_nth) rfl rfl rfl cd_Places_nth ⟨Nat.le_of_ble_eq_true rfl, Nat.le_of_ble_eq_true rfl⟩) hK hP (by omega) (ps_E_pl (by decide)) rfl rfl hl.1 rfl (Nat.le_of_ble_eq_true rfl) d_Shelf_fetch_51 ⟨Nat.zero_le _, Nat.zero_le _⟩ (fun rr hrr => ?_)
        rw [hQ]
        exact W.iret (v := rr) hx hb hr (fun zt ht _ => ⟨_, rfl, by rw [he]; exact hrr, ht⟩) (fun q h => absurd h List.not_mem_nil) d_Shelf_fetch_54
      · have he : en = true := by cases en with
          | true => rfl
          | false => exact absurd rfl c_26
        refine lv_aload_n hx hb d_Shelf_fetch_29 rfl (lv_at hl 0 rfl) ?_
        refine ps_get (v := .ref (g 6)) hx hb hT i_Shelf hown hK hP (k := 0) (by omega) ps_E_0 rfl 2 (by decide) (hT _ fl_Shelf_26) (fun _ h9 => h9) rfl d_Shelf_fetch_30 ?_
        refine ps_get (v := .ref (g 23)) hx hb hT i_Reply hown hK hP (k := 6) (by omega) ps_E_6 rfl 11 (by decide) (hT _ fl_Shelf_130) (fun _ h9 => h9) rfl d_Shelf_fetch_33 ?_
        refine lv_iload_n hx hb d_Shelf_fetch_36 rfl (lv_at hl 1 rfl) ?_
        refine ps_roi (k := 15 + 8) (As := [.int (nI i)]) (rest := []) ⟨hx, hb, hml, hown, hT⟩ (c_Places_nth 8 (by decide) i P[i].2 (ps_nth2 hPk h32 hi).1 (ps_nth2 hPk h32 hi).2.1 (ps_nth2 hPk h32 hi).2.2) (cwV 1 hT (ps_gV ml_Shelf_133 im_Places_nth se_Places_nth in_Places co_Places_nth) rfl rfl rfl cd_Places_nth ⟨Nat.le_of_ble_eq_true rfl, Nat.le_of_ble_eq_true rfl⟩) hK hP (by omega) (ps_E_pl (by decide)) rfl rfl hl.1 rfl (Nat.le_of_ble_eq_true rfl) d_Shelf_fetch_37 ⟨Nat.zero_le _, Nat.zero_le _⟩ (fun rr hrr => ?_)
        refine lv_goto (tgt := 54) hx hb d_Shelf_fetch_40 (by decide) ?_
        rw [hQ]
        exact W.iret (v := rr) hx hb hr (fun zt ht _ => ⟨_, rfl, by rw [he]; exact hrr, ht⟩) (fun q h => absurd h List.not_mem_nil) d_Shelf_fetch_54
    · exact absurd (nI_lt hi (by omega)) c_12
