theorem ck_Shelf_87 : (.classLink R_Shelf 87 "java/lang/IllegalArgumentException" : Cond) ∈ ps_tb := ps_in 364 (by decide +kernel) rfl
theorem is_IAE : (.instantiable "java/lang/IllegalArgumentException" 6 : Cond) ∈ ps_tb := ps_in 365 (by decide +kernel) rfl
theorem in_IAE : (.initialized "java/lang/IllegalArgumentException" : Cond) ∈ ps_tb := ps_in 16 (by decide +kernel) rfl
theorem ck_Shelf_113 : (.classLink R_Shelf 113 "java/util/NoSuchElementException" : Cond) ∈ ps_tb := ps_in 485 (by decide +kernel) rfl
theorem is_NSE : (.instantiable "java/util/NoSuchElementException" 6 : Cond) ∈ ps_tb := ps_in 486 (by decide +kernel) rfl
theorem in_NSE : (.initialized "java/util/NoSuchElementException" : Cond) ∈ ps_tb := ps_in 17 (by decide +kernel) rfl
def rmT_Shelf_answer : Room := { frames := 6, cells := 1, slots := 6, locals := 128 }
set_option maxHeartbeats 4000000 in
set_option maxRecDepth 100000 in
theorem ct_Shelf_answer {l : Launch} {D : va_G} {g : Nat → Nat} {cI cJ cT : ClassId} {σ : ps_σ} {aK aV : Nat} {vo : Option Nat} {m1 m2 m3 : Nat} (hg : ps_inj 33 g) (hst : l.stackTraces = false) (n : Nat) (hn : σ.1 1 1 = nI n) (hn60 : n ≤ 60) (x : Int32) (hbad : (x < 0 ∨ nI 6 ≤ x) ∨ ∃ j : Nat, j < 6 ∧ x = nI j ∧ σ.1 (9 + j) 1 = -1) : ps_MetT l y_Shelf_answer ws_Shelf_answer rmT_Shelf_answer (ps_PcST D ps_cl (ps_tys cI cJ cT) 33 g (ps_E g cI cJ cT σ) aK aV vo m1 m2 m3 [.ref (g 0), .int x]) (ps_Qt (S := ps_σ) D ps_cl 33 g (fun u => ps_E g cI cJ cT u) (fun u => u.1 1 1 = nI 0 ∧ (∀ k, k ≠ 1 → u.1 k = σ.1 k) ∧ u.2.1 = σ.2.1 ∧ (∀ k, k ≠ 3 → k ≠ 4 → u.2.2.1 k = σ.2.2.1 k) ∧ u.2.2.2 = σ.2.2.2) ps_IAE) 1 6 (ps_wA 33 g) := by
  refine ps_metT (by decide) ?_
  intro p e s m args below meth c hx hb hex hr hml hts hown hlocks hname hv Q hQ
  obtain ⟨ha, ⟨⟨hP, hK⟩, hT0⟩, hTh⟩ := hv
  have hP0 := hP
  have hT : ∀ w ∈ ps_tb, w.before args s = true := fun w h => hts w (List.mem_cons_of_mem _ h)
  have hown : s.vm.findClass R_Shelf = some m.cls := hown
  have hS : va_S (ps_wA 33 g) s.heap s.heap [] := va_S.rf
  refine ps_enter ha (Nat.le_of_ble_eq_true rfl) (fun ls hl => ?_)
  have hl : lv_has ls 5 [(0, .ref (g 0)), (1, .int x)] := hl
  rcases hbad with hbad | ⟨j, hj, rfl, hm1⟩
  · refine lv_aload_n hx hb d_Shelf_answer_0 rfl (lv_at hl 0 rfl) ?_
    refine ps_get (v := .ref (g 1)) hx hb hT i_Shelf hown hK hP (k := 0) (by omega) ps_E_0 rfl 0 (by decide) (hT _ fl_Shelf_10) (fun _ h9 => h9) rfl d_Shelf_answer_1 ?_
    refine ps_wriS (k := 1) (As := []) (rest := []) ⟨hx, hb, hml, hown, hT⟩ (c_Tape_readParts (σ := σ) hg n hn hn60) (cwV 0 hT (ps_gV ml_Shelf_77 im_Tape_readParts se_Tape_readParts in_Tape co_Tape_readParts) rfl rfl rfl cd_Tape_readParts ⟨Nat.le_of_ble_eq_true rfl, Nat.le_of_ble_eq_true rfl⟩) hT0 hK hP hS (fun _ h => h) (by omega) ps_E_1 rfl rfl hl.1 rfl (Nat.le_of_ble_eq_true rfl) d_Shelf_answer_4 ⟨Nat.zero_le _, Nat.zero_le _⟩ (fun rr u1 H locs hz hP hS _ => ?_)
    obtain ⟨fb, fh, hu1, -⟩ := hz
    refine lv_istore_n (lv' := [(2, .int rr), (0, .ref (g 0)), (1, .int x)]) hx hb d_Shelf_answer_7 rfl hl (by decide) rfl (fun ls hl => ?_)
    refine lv_aload_n hx hb d_Shelf_answer_8 rfl (lv_at hl 1 rfl) ?_
    refine ps_get (v := .ref (g 1)) hx hb hT i_Shelf hown hK hP (k := 0) (by omega) ps_E_0 rfl 0 (by decide) (hT _ fl_Shelf_10) (fun _ h9 => h9) rfl d_Shelf_answer_9 ?_
    refine ps_wrv (k := 1) (As := []) (rest := []) ⟨hx, hb, hml, hown, hT⟩ (c_Tape_clear (σ := u1) hg) (cwV 0 hT (ps_gV ml_Shelf_81 im_Tape_clear se_Tape_clear in_Tape co_Tape_clear) rfl rfl rfl cd_Tape_clear ⟨Nat.le_of_ble_eq_true rfl, Nat.le_of_ble_eq_true rfl⟩) hK hP hS (fun _ h => h) (by omega) ps_E_1 rfl rfl hl.1 rfl (Nat.le_of_ble_eq_true rfl) d_Shelf_answer_12 ⟨Nat.zero_le _, Nat.zero_le _⟩ (fun u2 H locs hu2 hP hS _ => ?_)
    have hu2 : u2 = ps_upI (ps_upA (ps_upA σ 3 fb) 4 fh) 1 1 (nI 0) := by rw [hu2, hu1]
    refine lv_aload_n hx hb d_Shelf_answer_15 rfl (lv_at hl 1 rfl) ?_
    refine lv_iload_n hx hb d_Shelf_answer_16 rfl (lv_at hl 2 rfl) ?_
    refine ps_roq (k := 0) (As := [.int x]) (rest := []) ⟨hx, hb, hml, hown, hT⟩ (c_Shelf_find (σ := u2) x) (cwV 1 hT (ps_gV ml_Shelf_45 im_Shelf_find se_Shelf_find in_Shelf co_Shelf_find) rfl rfl rfl cd_Shelf_find ⟨Nat.le_of_ble_eq_true rfl, Nat.le_of_ble_eq_true rfl⟩) hK hP (by omega) ps_E_0 rfl rfl hl.1 rfl (Nat.le_of_ble_eq_true rfl) d_Shelf_answer_17 ⟨Nat.zero_le _, Nat.zero_le _⟩ (fun rr hrr => ?_)
    have hrr := ps_fnd0 hbad hrr
    subst hrr
    refine lv_astore_nN (lv' := [(3, .null), (2, .int rr), (0, .ref (g 0)), (1, .int x)]) hx hb d_Shelf_answer_20 rfl hl (by decide) rfl (fun ls hl => ?_)
    refine lv_aload_nN hx hb d_Shelf_answer_21 rfl (lv_at hl 0 rfl) ?_
    refine lv_ifnullN (tgt := 33) hx hb d_Shelf_answer_22 (by decide) ?_
    rw [hQ]
    exact ps_throwNew (up := "java/lang/RuntimeException") (names := ["java/lang/Exception"]) (i1 := 7) (b1 := prog_9_method_2_code) (ic := 91) hx hb hex hst hown (hT _ ck_Shelf_87) (hT _ is_IAE) (hT _ in_IAE) hTh.2.2.2.1 (by decide) (by decide) (by decide) (by decide +kernel) (by decide +kernel) (by decide +kernel) (by decide +kernel) (hTh.words hT ps_at1) (fun x9 hx9 cell hc => ps_nst hP0 (hS.2.2 x9 hx9) cell hc) hS.1 (Nat.le_of_ble_eq_true rfl) (Nat.le_of_ble_eq_true rfl) d_Shelf_answer_33 d_Shelf_answer_36 d_Shelf_answer_37 d_Shelf_answer_39 d_Shelf_answer_42 (hl.1.trans hml.symm) (Nat.le_of_ble_eq_true rfl) (Nat.le_of_ble_eq_true rfl) hlocks hS.2.2 (fun t ce hz hkp hce hfc hvm _ => ps_Qt_of u2 (by rw [hu2]; exact ⟨ps_upI_eq, fun k h1 => va_up_ne _ _ h1, rfl, fun k h3 h4 => (va_up_ne _ _ h4).trans (va_up_ne _ _ h3), rfl⟩) hP hS hz hkp hce hfc hvm)
  · refine lv_aload_n hx hb d_Shelf_answer_0 rfl (lv_at hl 0 rfl) ?_
    refine ps_get (v := .ref (g 1)) hx hb hT i_Shelf hown hK hP (k := 0) (by omega) ps_E_0 rfl 0 (by decide) (hT _ fl_Shelf_10) (fun _ h9 => h9) rfl d_Shelf_answer_1 ?_
    refine ps_wriS (k := 1) (As := []) (rest := []) ⟨hx, hb, hml, hown, hT⟩ (c_Tape_readParts (σ := σ) hg n hn hn60) (cwV 0 hT (ps_gV ml_Shelf_77 im_Tape_readParts se_Tape_readParts in_Tape co_Tape_readParts) rfl rfl rfl cd_Tape_readParts ⟨Nat.le_of_ble_eq_true rfl, Nat.le_of_ble_eq_true rfl⟩) hT0 hK hP hS (fun _ h => h) (by omega) ps_E_1 rfl rfl hl.1 rfl (Nat.le_of_ble_eq_true rfl) d_Shelf_answer_4 ⟨Nat.zero_le _, Nat.zero_le _⟩ (fun rr u1 H locs hz hP hS _ => ?_)
    obtain ⟨fb, fh, hu1, -⟩ := hz
    refine lv_istore_n (lv' := [(2, .int rr), (0, .ref (g 0)), (1, .int (nI j))]) hx hb d_Shelf_answer_7 rfl hl (by decide) rfl (fun ls hl => ?_)
    refine lv_aload_n hx hb d_Shelf_answer_8 rfl (lv_at hl 1 rfl) ?_
    refine ps_get (v := .ref (g 1)) hx hb hT i_Shelf hown hK hP (k := 0) (by omega) ps_E_0 rfl 0 (by decide) (hT _ fl_Shelf_10) (fun _ h9 => h9) rfl d_Shelf_answer_9 ?_
    refine ps_wrv (k := 1) (As := []) (rest := []) ⟨hx, hb, hml, hown, hT⟩ (c_Tape_clear (σ := u1) hg) (cwV 0 hT (ps_gV ml_Shelf_81 im_Tape_clear se_Tape_clear in_Tape co_Tape_clear) rfl rfl rfl cd_Tape_clear ⟨Nat.le_of_ble_eq_true rfl, Nat.le_of_ble_eq_true rfl⟩) hK hP hS (fun _ h => h) (by omega) ps_E_1 rfl rfl hl.1 rfl (Nat.le_of_ble_eq_true rfl) d_Shelf_answer_12 ⟨Nat.zero_le _, Nat.zero_le _⟩ (fun u2 H locs hu2 hP hS _ => ?_)
    have hu2 : u2 = ps_upI (ps_upA (ps_upA σ 3 fb) 4 fh) 1 1 (nI 0) := by rw [hu2, hu1]
    refine lv_aload_n hx hb d_Shelf_answer_15 rfl (lv_at hl 1 rfl) ?_
    refine lv_iload_n hx hb d_Shelf_answer_16 rfl (lv_at hl 2 rfl) ?_
    refine ps_roq (k := 0) (As := [.int (nI j)]) (rest := []) ⟨hx, hb, hml, hown, hT⟩ (c_Shelf_find (σ := u2) (nI j)) (cwV 1 hT (ps_gV ml_Shelf_45 im_Shelf_find se_Shelf_find in_Shelf co_Shelf_find) rfl rfl rfl cd_Shelf_find ⟨Nat.le_of_ble_eq_true rfl, Nat.le_of_ble_eq_true rfl⟩) hK hP (by omega) ps_E_0 rfl rfl hl.1 rfl (Nat.le_of_ble_eq_true rfl) d_Shelf_answer_17 ⟨Nat.zero_le _, Nat.zero_le _⟩ (fun rr hrr => ?_)
    have hrr := ps_fnd hj hrr
    subst hrr
    refine lv_astore_n (lv' := [(3, .ref (g (9 + j))), (2, .int rr), (0, .ref (g 0)), (1, .int (nI j))]) hx hb d_Shelf_answer_20 rfl hl (by decide) rfl (fun ls hl => ?_)
    refine lv_aload_n hx hb d_Shelf_answer_21 rfl (lv_at hl 0 rfl) ?_
    refine lv_ifnull hx hb d_Shelf_answer_22 ?_
    refine lv_aload_n hx hb d_Shelf_answer_25 rfl (lv_at hl 0 rfl) ?_
    refine ps_get (v := .int (u2.1 (9 + j) 1)) hx hb hT i_Thing hown hK hP (k := 9 + j) (by omega) (ps_E_th hj) rfl 1 (by decide) (hT _ fl_Shelf_84) (fun _ h9 => h9) rfl d_Shelf_answer_26 ?_
    refine ps_seti (y := -1) (by rw [hu2]; exact (congrFun (va_up_ne _ _ (by omega)) 1).trans hm1) ?_
    refine lv_iconst (v := -1) hx hb d_Shelf_answer_29 (by decide) ?_
    refine lv_icmp_ne (tgt := 43) hx hb d_Shelf_answer_30 (by decide) (fun c_30 => ?_) (fun c_30 => ?_)
    · exact absurd rfl c_30
    · rw [hQ]
      exact ps_throwNew (up := "java/lang/RuntimeException") (names := ["java/lang/Exception"]) (i1 := 7) (b1 := prog_9_method_2_code) (ic := 91) hx hb hex hst hown (hT _ ck_Shelf_87) (hT _ is_IAE) (hT _ in_IAE) hTh.2.2.2.1 (by decide) (by decide) (by decide) (by decide +kernel) (by decide +kernel) (by decide +kernel) (by decide +kernel) (hTh.words hT ps_at1) (fun x9 hx9 cell hc => ps_nst hP0 (hS.2.2 x9 hx9) cell hc) hS.1 (Nat.le_of_ble_eq_true rfl) (Nat.le_of_ble_eq_true rfl) d_Shelf_answer_33 d_Shelf_answer_36 d_Shelf_answer_37 d_Shelf_answer_39 d_Shelf_answer_42 (hl.1.trans hml.symm) (Nat.le_of_ble_eq_true rfl) (Nat.le_of_ble_eq_true rfl) hlocks hS.2.2 (fun t ce hz hkp hce hfc hvm _ => ps_Qt_of u2 (by rw [hu2]; exact ⟨ps_upI_eq, fun k h1 => va_up_ne _ _ h1, rfl, fun k h3 h4 => (va_up_ne _ _ h4).trans (va_up_ne _ _ h3), rfl⟩) hP hS hz hkp hce hfc hvm)

def rmT_Shelf_row : Room := { frames := 6, cells := 1, slots := 6, locals := 83 }
set_option maxHeartbeats 4000000 in
set_option maxRecDepth 100000 in
theorem ct_Shelf_row {l : Launch} {D : va_G} {g : Nat → Nat} {cI cJ cT : ClassId} {σ : ps_σ} {m1 m2 m3 : Nat} (hg : ps_inj 33 g) (hst : l.stackTraces = false) (k1 : Nat) (hk1 : σ.1 6 1 = nI k1) (x y : Int32) (hbad : x < 0 ∨ nI k1 ≤ x) : ps_MetT l y_Shelf_row ws_Shelf_row rmT_Shelf_row (ps_PcT D ps_cl (ps_tys cI cJ cT) 33 g (ps_E g cI cJ cT σ) m1 m2 m3 [.ref (g 0), .int x, .int y]) (ps_Qt (S := ps_σ) D ps_cl 33 g (fun u => ps_E g cI cJ cT u) (fun u => u = σ) ps_NSE) 1 6 (ps_wA 33 g) := by
  refine ps_metT (by decide) ?_
  intro p e s m args below meth c hx hb hex hr hml hts hown hlocks hname hv Q hQ
  obtain ⟨ha, ⟨hP, hK⟩, hTh⟩ := hv
  have hP0 := hP
  have hT : ∀ w ∈ ps_tb, w.before args s = true := fun w h => hts w (List.mem_cons_of_mem _ h)
  have hown : s.vm.findClass R_Shelf = some m.cls := hown
  have hS : va_S (ps_wA 33 g) s.heap s.heap [] := va_S.rf
  refine ps_enter ha (Nat.le_of_ble_eq_true rfl) (fun ls hl => ?_)
  have hl : lv_has ls 3 [(0, .ref (g 0)), (1, .int x), (2, .int y)] := hl
  refine lv_iload_n hx hb d_Shelf_row_0 rfl (lv_at hl 1 rfl) ?_
  refine lv_if_lt (tgt := 15) hx hb d_Shelf_row_1 (by decide) (fun c_1 => ?_) (fun c_1 => ?_)
  · rw [hQ]
    exact ps_throwNew (up := "java/lang/RuntimeException") (names := ["java/lang/Exception"]) (i1 := 13) (b1 := prog_17_method_4_code) (ic := 117) hx hb hex hst hown (hT _ ck_Shelf_113) (hT _ is_NSE) (hT _ in_NSE) hTh.2.2.2.2.1 (by decide) (by decide) (by decide) (by decide +kernel) (by decide +kernel) (by decide +kernel) (by decide +kernel) (hTh.words hT ps_at2) (fun x9 hx9 cell hc => ps_nst hP0 (hS.2.2 x9 hx9) cell hc) hS.1 (Nat.le_of_ble_eq_true rfl) (Nat.le_of_ble_eq_true rfl) d_Shelf_row_15 d_Shelf_row_18 d_Shelf_row_19 d_Shelf_row_21 d_Shelf_row_24 (hl.1.trans hml.symm) (Nat.le_of_ble_eq_true rfl) (Nat.le_of_ble_eq_true rfl) hlocks hS.2.2 (fun t ce hz hkp hce hfc hvm _ => ps_Qt_of σ rfl hP hS hz hkp hce hfc hvm)
  · refine lv_iload_n hx hb d_Shelf_row_4 rfl (lv_at hl 1 rfl) ?_
    refine lv_aload_n hx hb d_Shelf_row_5 rfl (lv_at hl 0 rfl) ?_
    refine ps_get (v := .ref (g 6)) hx hb hT i_Shelf hown hK hP (k := 0) (by omega) ps_E_0 rfl 2 (by decide) (hT _ fl_Shelf_26) (fun _ h9 => h9) rfl d_Shelf_row_6 ?_
    refine ps_get (v := .int (σ.1 6 1)) hx hb hT i_Reply hown hK hP (k := 6) (by omega) ps_E_6 rfl 1 (by decide) (hT _ fl_Shelf_110) (fun _ h9 => h9) rfl d_Shelf_row_9 ?_
    refine ps_seti (y := nI k1) hk1 ?_
    refine lv_icmp_lt (tgt := 25) hx hb d_Shelf_row_12 (by decide) (fun c_12 => ?_) (fun c_12 => ?_)
    · exact absurd c_12 (Int32.not_lt.mpr (hbad.resolve_left c_1))
    · rw [hQ]
      exact ps_throwNew (up := "java/lang/RuntimeException") (names := ["java/lang/Exception"]) (i1 := 13) (b1 := prog_17_method_4_code) (ic := 117) hx hb hex hst hown (hT _ ck_Shelf_113) (hT _ is_NSE) (hT _ in_NSE) hTh.2.2.2.2.1 (by decide) (by decide) (by decide) (by decide +kernel) (by decide +kernel) (by decide +kernel) (by decide +kernel) (hTh.words hT ps_at2) (fun x9 hx9 cell hc => ps_nst hP0 (hS.2.2 x9 hx9) cell hc) hS.1 (Nat.le_of_ble_eq_true rfl) (Nat.le_of_ble_eq_true rfl) d_Shelf_row_15 d_Shelf_row_18 d_Shelf_row_19 d_Shelf_row_21 d_Shelf_row_24 (hl.1.trans hml.symm) (Nat.le_of_ble_eq_true rfl) (Nat.le_of_ble_eq_true rfl) hlocks hS.2.2 (fun t ce hz hkp hce hfc hvm _ => ps_Qt_of σ rfl hP hS hz hkp hce hfc hvm)

def rmT_Shelf_fetch : Room := { frames := 6, cells := 1, slots := 6, locals := 83 }
set_option maxHeartbeats 4000000 in
set_option maxRecDepth 100000 in
theorem ct_Shelf_fetch {l : Launch} {D : va_G} {g : Nat → Nat} {cI cJ cT : ClassId} {σ : ps_σ} {m1 m2 m3 : Nat} (hg : ps_inj 33 g) (hst : l.stackTraces = false) (k1 : Nat) (hk1 : σ.1 6 7 = nI k1) (x y : Int32) (hbad : x < 0 ∨ nI k1 ≤ x) : ps_MetT l y_Shelf_fetch ws_Shelf_fetch rmT_Shelf_fetch (ps_PcT D ps_cl (ps_tys cI cJ cT) 33 g (ps_E g cI cJ cT σ) m1 m2 m3 [.ref (g 0), .int x, .int y]) (ps_Qt (S := ps_σ) D ps_cl 33 g (fun u => ps_E g cI cJ cT u) (fun u => u = σ) ps_NSE) 1 6 (ps_wA 33 g) := by
  refine ps_metT (by decide) ?_
  intro p e s m args below meth c hx hb hex hr hml hts hown hlocks hname hv Q hQ
  obtain ⟨ha, ⟨hP, hK⟩, hTh⟩ := hv
  have hP0 := hP
  have hT : ∀ w ∈ ps_tb, w.before args s = true := fun w h => hts w (List.mem_cons_of_mem _ h)
  have hown : s.vm.findClass R_Shelf = some m.cls := hown
  have hS : va_S (ps_wA 33 g) s.heap s.heap [] := va_S.rf
  refine ps_enter ha (Nat.le_of_ble_eq_true rfl) (fun ls hl => ?_)
  have hl : lv_has ls 3 [(0, .ref (g 0)), (1, .int x), (2, .int y)] := hl
  refine lv_iload_n hx hb d_Shelf_fetch_0 rfl (lv_at hl 1 rfl) ?_
  refine lv_if_lt (tgt := 15) hx hb d_Shelf_fetch_1 (by decide) (fun c_1 => ?_) (fun c_1 => ?_)
  · rw [hQ]
    exact ps_throwNew (up := "java/lang/RuntimeException") (names := ["java/lang/Exception"]) (i1 := 13) (b1 := prog_17_method_4_code) (ic := 117) hx hb hex hst hown (hT _ ck_Shelf_113) (hT _ is_NSE) (hT _ in_NSE) hTh.2.2.2.2.2 (by decide) (by decide) (by decide) (by decide +kernel) (by decide +kernel) (by decide +kernel) (by decide +kernel) (hTh.words hT ps_at2) (fun x9 hx9 cell hc => ps_nst hP0 (hS.2.2 x9 hx9) cell hc) hS.1 (Nat.le_of_ble_eq_true rfl) (Nat.le_of_ble_eq_true rfl) d_Shelf_fetch_15 d_Shelf_fetch_18 d_Shelf_fetch_19 d_Shelf_fetch_21 d_Shelf_fetch_24 (hl.1.trans hml.symm) (Nat.le_of_ble_eq_true rfl) (Nat.le_of_ble_eq_true rfl) hlocks hS.2.2 (fun t ce hz hkp hce hfc hvm _ => ps_Qt_of σ rfl hP hS hz hkp hce hfc hvm)
  · refine lv_iload_n hx hb d_Shelf_fetch_4 rfl (lv_at hl 1 rfl) ?_
    refine lv_aload_n hx hb d_Shelf_fetch_5 rfl (lv_at hl 0 rfl) ?_
    refine ps_get (v := .ref (g 6)) hx hb hT i_Shelf hown hK hP (k := 0) (by omega) ps_E_0 rfl 2 (by decide) (hT _ fl_Shelf_26) (fun _ h9 => h9) rfl d_Shelf_fetch_6 ?_
    refine ps_get (v := .int (σ.1 6 7)) hx hb hT i_Reply hown hK hP (k := 6) (by omega) ps_E_6 rfl 7 (by decide) (hT _ fl_Shelf_125) (fun _ h9 => h9) rfl d_Shelf_fetch_9 ?_
    refine ps_seti (y := nI k1) hk1 ?_
    refine lv_icmp_lt (tgt := 25) hx hb d_Shelf_fetch_12 (by decide) (fun c_12 => ?_) (fun c_12 => ?_)
    · exact absurd c_12 (Int32.not_lt.mpr (hbad.resolve_left c_1))
    · rw [hQ]
      exact ps_throwNew (up := "java/lang/RuntimeException") (names := ["java/lang/Exception"]) (i1 := 13) (b1 := prog_17_method_4_code) (ic := 117) hx hb hex hst hown (hT _ ck_Shelf_113) (hT _ is_NSE) (hT _ in_NSE) hTh.2.2.2.2.2 (by decide) (by decide) (by decide) (by decide +kernel) (by decide +kernel) (by decide +kernel) (by decide +kernel) (hTh.words hT ps_at2) (fun x9 hx9 cell hc => ps_nst hP0 (hS.2.2 x9 hx9) cell hc) hS.1 (Nat.le_of_ble_eq_true rfl) (Nat.le_of_ble_eq_true rfl) d_Shelf_fetch_15 d_Shelf_fetch_18 d_Shelf_fetch_19 d_Shelf_fetch_21 d_Shelf_fetch_24 (hl.1.trans hml.symm) (Nat.le_of_ble_eq_true rfl) (Nat.le_of_ble_eq_true rfl) hlocks hS.2.2 (fun t ce hz hkp hce hfc hvm _ => ps_Qt_of σ rfl hP hS hz hkp hce hfc hvm)
