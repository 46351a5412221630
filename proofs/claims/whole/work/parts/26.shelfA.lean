theorem fl_Shelf_18 : (.fieldLink R_Shelf 18 R_Shelf "things" "[LPieceShelf$Thing;" : Cond) ∈ ps_tb := ps_in 132 (by decide +kernel) rfl
theorem fl_Shelf_60 : (.fieldLink R_Shelf 60 R_Thing "kept" "LPieceShelf$Places;" : Cond) ∈ ps_tb := ps_in 65 (by decide +kernel) rfl
theorem ml_Shelf_139 : (.methodLink R_Shelf 139 y_Places_size : Cond) ∈ ps_tb := ps_in 223 (by decide +kernel) rfl
def rm_Shelf_find : Room := { frames := 0, cells := 0, slots := 0, locals := 0 }
abbrev ws_Shelf_find : List Cond := .code y_Shelf_find b_Shelf_find 2 (some (.object "PieceShelf$Thing")) :: ps_tb
set_option maxHeartbeats 4000000 in
set_option maxRecDepth 100000 in
theorem c_Shelf_find {l : Launch} {D : va_G} {g : Nat → Nat} {cI cJ cT : ClassId} {σ : ps_σ} (x : Int32) : Met l y_Shelf_find ws_Shelf_find rm_Shelf_find (ps_Pc D ps_cl (ps_tys cI cJ cT) 33 g (ps_E g cI cJ cT σ) [.ref (g 0), .int x]) (va_Sq (fun r => (∃ j : Nat, j < 6 ∧ x = nI j ∧ r = some (g (9 + j))) ∨ ((x < 0 ∨ nI 6 ≤ x) ∧ r = none))) 0 0 (fun _ => False) := by
  refine ps_met (by decide) ?_
  intro p e s m args below meth c hx hb hr hml hts hown hlocks hname hv Q hQ
  obtain ⟨ha, hP, hK⟩ := hv
  have hT : ∀ w ∈ ps_tb, w.before args s = true := fun w h => hts w (List.mem_cons_of_mem _ h)
  have hown : s.vm.findClass R_Shelf = some m.cls := hown
  refine ps_enter ha (Nat.le_of_ble_eq_true rfl) (fun ls hl => ?_)
  have hl : lv_has ls 2 [(0, .ref (g 0)), (1, .int x)] := hl
  rcases pk_ix x (n := 6) (by decide) with h | h | ⟨j, hj, rfl⟩
  · refine lv_iload_n hx hb d_Shelf_find_0 rfl (lv_at hl 1 rfl) ?_
    refine lv_if_lt (tgt := 10) hx hb d_Shelf_find_1 (by decide) (fun c_1 => ?_) (fun c_1 => ?_)
    · refine lv_null hx hb d_Shelf_find_10 ?_
      refine lv_goto (tgt := 20) hx hb d_Shelf_find_11 (by decide) ?_
      rw [hQ]
      exact W.aret (v := .null) hx hb hr (Or.inl ⟨_, rfl⟩) (Or.inl rfl) (fun zt ht _ => ⟨none, rfl, Or.inr ⟨Or.inl h, rfl⟩, ht⟩) (fun q h => absurd h List.not_mem_nil) d_Shelf_find_20
    · exact absurd h c_1
  · refine lv_iload_n hx hb d_Shelf_find_0 rfl (lv_at hl 1 rfl) ?_
    refine lv_if_lt (tgt := 10) hx hb d_Shelf_find_1 (by decide) (fun c_1 => ?_) (fun c_1 => ?_)
    · exact absurd c_1 (ps_le_nlt (by decide) h)
    · refine lv_iload_n hx hb d_Shelf_find_4 rfl (lv_at hl 1 rfl) ?_
      refine lv_bipush (v := nI 6) hx hb d_Shelf_find_5 (by decide) ?_
      refine lv_icmp_lt (tgt := 14) hx hb d_Shelf_find_7 (by decide) (fun c_7 => ?_) (fun c_7 => ?_)
      · exact absurd h (Int32.not_le.mpr c_7)
      · refine lv_null hx hb d_Shelf_find_10 ?_
        refine lv_goto (tgt := 20) hx hb d_Shelf_find_11 (by decide) ?_
        rw [hQ]
        exact W.aret (v := .null) hx hb hr (Or.inl ⟨_, rfl⟩) (Or.inl rfl) (fun zt ht _ => ⟨none, rfl, Or.inr ⟨Or.inr h, rfl⟩, ht⟩) (fun q h => absurd h List.not_mem_nil) d_Shelf_find_20
  · refine lv_iload_n hx hb d_Shelf_find_0 rfl (lv_at hl 1 rfl) ?_
    refine lv_if_lt (tgt := 10) hx hb d_Shelf_find_1 (by decide) (fun c_1 => ?_) (fun c_1 => ?_)
    · exact absurd c_1 (nI_pos (by omega))
    · refine lv_iload_n hx hb d_Shelf_find_4 rfl (lv_at hl 1 rfl) ?_
      refine lv_bipush (v := nI 6) hx hb d_Shelf_find_5 (by decide) ?_
      refine lv_icmp_lt (tgt := 14) hx hb d_Shelf_find_7 (by decide) (fun c_7 => ?_) (fun c_7 => ?_)
      · refine lv_aload_n hx hb d_Shelf_find_14 rfl (lv_at hl 0 rfl) ?_
        refine ps_get (v := .ref (g 5)) hx hb hT i_Shelf hown hK hP (k := 0) (by omega) ps_E_0 rfl 1 (by decide) (hT _ fl_Shelf_18) (fun _ h9 => h9) rfl d_Shelf_find_15 ?_
        refine lv_iload_n hx hb d_Shelf_find_18 rfl (lv_at hl 1 rfl) ?_
        refine ps_aald hx hb hK hP (k := 5) (by omega) 2 ps_E_5 rfl (i := j) (by omega) (by decide) (a := g (9 + j)) rfl d_Shelf_find_19 ?_
        rw [hQ]
        exact W.aret (v := .ref (g (9 + j))) hx hb hr (Or.inl ⟨_, rfl⟩) (Or.inr ⟨_, rfl⟩) (fun zt ht _ => ⟨some (g (9 + j)), rfl, Or.inl ⟨j, hj, rfl, rfl⟩, ht⟩) (fun q h => absurd h List.not_mem_nil) d_Shelf_find_20
      · exact absurd (nI_lt hj (by decide)) c_7

def rm_Shelf_keptInAll : Room := { frames := 2, cells := 0, slots := 0, locals := 43 }
abbrev ws_Shelf_keptInAll : List Cond := .code y_Shelf_keptInAll b_Shelf_keptInAll 3 (some .int) :: ps_tb
set_option maxHeartbeats 4000000 in
set_option maxRecDepth 100000 in
theorem c_Shelf_keptInAll {l : Launch} {D : va_G} {g : Nat → Nat} {cI cJ cT : ClassId} {σ : ps_σ}  : Met l y_Shelf_keptInAll ws_Shelf_keptInAll rm_Shelf_keptInAll (ps_Pc D ps_cl (ps_tys cI cJ cT) 33 g (ps_E g cI cJ cT σ) [.ref (g 0)]) (vp_Si (fun r => r = nI (ps_totF σ 6))) 0 0 (fun _ => False) := by
  refine ps_met (by decide) ?_
  intro p e s m args below meth c hx hb hr hml hts hown hlocks hname hv Q hQ
  obtain ⟨ha, hP, hK⟩ := hv
  have hT : ∀ w ∈ ps_tb, w.before args s = true := fun w h => hts w (List.mem_cons_of_mem _ h)
  have hown : s.vm.findClass R_Shelf = some m.cls := hown
  refine ps_enter ha (Nat.le_of_ble_eq_true rfl) (fun ls hl => ?_)
  have hl : lv_has ls 3 [(0, .ref (g 0))] := hl
  refine lv_iconst (v := nI 0) hx hb d_Shelf_keptInAll_0 (by decide) ?_
  refine lv_istore_n (lv' := [(1, .int (nI 0)), (0, .ref (g 0))]) hx hb d_Shelf_keptInAll_1 rfl hl (by decide) rfl (fun ls hl => ?_)
  refine lv_iconst (v := nI 0) hx hb d_Shelf_keptInAll_2 (by decide) ?_
  refine lv_istore_n (lv' := [(2, .int (nI 0)), (1, .int (nI 0)), (0, .ref (g 0))]) hx hb d_Shelf_keptInAll_3 rfl hl (by decide) rfl (fun ls hl => ?_)
  have L_a : ∀ (n_a : Nat) (i : Nat), (i ≤ 6) → 6 - i < n_a → ∀ (ls : Array Slot), lv_has ls 3 [(0, .ref (g 0)), (1, .int (nI (ps_totF σ i))), (2, .int (nI i))] → W p l e rm_Shelf_keptInAll s m args below meth c s.heap [] 0 0 Q (F0 m 4 ls []) := by
    intro n_a
    induction n_a with
    | zero => intro i hi hf_a; exact absurd hf_a (Nat.not_lt_zero _)
    | succ n_a ih_a =>
      intro i hi hf_a ls hl
      refine lv_iload_n hx hb d_Shelf_keptInAll_4 rfl (lv_at hl 2 rfl) ?_
      refine lv_bipush (v := nI 6) hx hb d_Shelf_keptInAll_5 (by decide) ?_
      refine lv_icmp_ge (tgt := 31) hx hb d_Shelf_keptInAll_7 (by decide) (fun c_7 => ?_) (fun c_7 => ?_)
      · have hi6 : i = 6 := by have := ps_leT c_7 (by omega) (by omega); omega
        refine lv_iload_n hx hb d_Shelf_keptInAll_31 rfl (lv_at hl 1 rfl) ?_
        rw [hQ]
        exact W.iret (v := nI (ps_totF σ i)) hx hb hr (fun zt ht _ => ⟨_, rfl, by rw [hi6], ht⟩) (fun q h => absurd h List.not_mem_nil) d_Shelf_keptInAll_32
      · have hi6 : i < 6 := by have := ps_ltOf c_7 (by omega) (by omega); omega
        refine lv_iload_n hx hb d_Shelf_keptInAll_10 rfl (lv_at hl 1 rfl) ?_
        refine lv_aload_n hx hb d_Shelf_keptInAll_11 rfl (lv_at hl 0 rfl) ?_
        refine ps_get (v := .ref (g 5)) hx hb hT i_Shelf hown hK hP (k := 0) (by omega) ps_E_0 rfl 1 (by decide) (hT _ fl_Shelf_18) (fun _ h9 => h9) rfl d_Shelf_keptInAll_12 ?_
        refine lv_iload_n hx hb d_Shelf_keptInAll_15 rfl (lv_at hl 2 rfl) ?_
        refine ps_aald hx hb hK hP (k := 5) (by omega) 2 ps_E_5 rfl (i := i) (by omega) (by decide) (a := g (9 + i)) rfl d_Shelf_keptInAll_16 ?_
        refine ps_get (v := .ref (g (15 + i))) hx hb hT i_Thing hown hK hP (k := 9 + i) (by omega) (ps_E_th (by omega)) rfl 0 (by decide) (hT _ fl_Shelf_60) (fun _ h9 => h9) rfl d_Shelf_keptInAll_17 ?_
        refine ps_roi (k := 15 + i) (As := []) (rest := [.int (nI (ps_totF σ i))]) ⟨hx, hb, hml, hown, hT⟩ (c_Places_size i (by omega)) (cwV 0 hT (ps_gV ml_Shelf_139 im_Places_size se_Places_size in_Places co_Places_size) rfl rfl rfl cd_Places_size ⟨Nat.le_of_ble_eq_true rfl, Nat.le_of_ble_eq_true rfl⟩) hK hP (by omega) (ps_E_pl (by omega)) rfl rfl hl.1 rfl (Nat.le_of_ble_eq_true rfl) d_Shelf_keptInAll_20 ⟨Nat.zero_le _, Nat.zero_le _⟩ (fun rr hrr => ?_)
        refine lv_iadd hx hb d_Shelf_keptInAll_23 ?_
        refine ps_seti (y := nI (ps_totF σ (i + 1))) (by rw [hrr, nI_add, ps_totF]) ?_
        refine lv_istore_n (lv' := [(1, .int (nI (ps_totF σ (i + 1)))), (0, .ref (g 0)), (2, .int (nI i))]) hx hb d_Shelf_keptInAll_24 rfl hl (by decide) rfl (fun ls hl => ?_)
        refine lv_iinc (v := (nI (i + 1))) (lv' := [(2, .int (nI (i + 1))), (1, .int (nI (ps_totF σ (i + 1)))), (0, .ref (g 0))]) hx hb d_Shelf_keptInAll_25 hl (k := 2) rfl (nI_1 _) (by decide) rfl (fun ls hl => ?_)
        refine lv_goto (tgt := 4) hx hb d_Shelf_keptInAll_28 (by decide) ?_
        exact ih_a (i + 1) (by omega) (by omega)  ls (lv_sub hl [2, 1, 0] rfl)
  exact L_a (6 - 0 + 1) 0 (by omega) (by omega)  ls (lv_sub hl [2, 1, 0] rfl)
