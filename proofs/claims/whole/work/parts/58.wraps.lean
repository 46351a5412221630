theorem ml_Law_7 : (.methodLink R_Law 7 y_Shelf_answer : Cond) ∈ ps_tb := ps_in 283 (by decide +kernel) rfl
theorem co_Shelf_answer : (.code y_Shelf_answer b_Shelf_answer 5 (some .int) : Cond) ∈ ps_tb := ps_in 286 (by decide +kernel) rfl
theorem im_Shelf_answer : (.instanceMethod y_Shelf_answer : Cond) ∈ ps_tb := ps_in 284 (by decide +kernel) rfl
theorem se_Shelf_answer : (.selects R_Shelf y_Shelf_answer y_Shelf_answer : Cond) ∈ ps_tb := ps_in 285 (by decide +kernel) rfl
theorem ck_Law_13 : (.classLink R_Law 13 "java/lang/IllegalArgumentException" : Cond) ∈ ps_tb := ps_in 282 (by decide +kernel) rfl
theorem ml_Law_15 : (.methodLink R_Law 15 y_Shelf_row : Cond) ∈ ps_tb := ps_in 481 (by decide +kernel) rfl
theorem co_Shelf_row : (.code y_Shelf_row b_Shelf_row 3 (some .int) : Cond) ∈ ps_tb := ps_in 484 (by decide +kernel) rfl
theorem im_Shelf_row : (.instanceMethod y_Shelf_row : Cond) ∈ ps_tb := ps_in 482 (by decide +kernel) rfl
theorem se_Shelf_row : (.selects R_Shelf y_Shelf_row y_Shelf_row : Cond) ∈ ps_tb := ps_in 483 (by decide +kernel) rfl
theorem ck_Law_19 : (.classLink R_Law 19 "java/util/NoSuchElementException" : Cond) ∈ ps_tb := ps_in 480 (by decide +kernel) rfl
theorem ml_Law_21 : (.methodLink R_Law 21 y_Shelf_fetch : Cond) ∈ ps_tb := ps_in 504 (by decide +kernel) rfl
theorem co_Shelf_fetch : (.code y_Shelf_fetch b_Shelf_fetch 3 (some .int) : Cond) ∈ ps_tb := ps_in 507 (by decide +kernel) rfl
theorem im_Shelf_fetch : (.instanceMethod y_Shelf_fetch : Cond) ∈ ps_tb := ps_in 505 (by decide +kernel) rfl
theorem se_Shelf_fetch : (.selects R_Shelf y_Shelf_fetch y_Shelf_fetch : Cond) ∈ ps_tb := ps_in 506 (by decide +kernel) rfl
theorem cd_Shelf_answer : y_Shelf_answer.cls = R_Shelf ∧ y_Shelf_answer.cls ≠ "java/lang/invoke/MethodHandle" ∧ y_Shelf_answer.cls ≠ "java/lang/invoke/VarHandle" ∧ (parseMethodDescriptor y_Shelf_answer.desc).map (fun d => d.parameters.length) = some 1 := by decide +kernel
theorem cd_Shelf_fetch : y_Shelf_fetch.cls = R_Shelf ∧ y_Shelf_fetch.cls ≠ "java/lang/invoke/MethodHandle" ∧ y_Shelf_fetch.cls ≠ "java/lang/invoke/VarHandle" ∧ (parseMethodDescriptor y_Shelf_fetch.desc).map (fun d => d.parameters.length) = some 2 := by decide +kernel
theorem cd_Shelf_row : y_Shelf_row.cls = R_Shelf ∧ y_Shelf_row.cls ≠ "java/lang/invoke/MethodHandle" ∧ y_Shelf_row.cls ≠ "java/lang/invoke/VarHandle" ∧ (parseMethodDescriptor y_Shelf_row.desc).map (fun d => d.parameters.length) = some 2 := by decide +kernel
def rm_Law_answer : Room := { frames := 7, cells := 1, slots := 6, locals := 163 }
abbrev ws_Law_answer : List Cond := .codeWith y_Law_answer b_Law_answer 4 (some .int) [(0, 9, 12, 13)] :: ps_tb
set_option maxHeartbeats 4000000 in
set_option maxRecDepth 100000 in
theorem c_Law_answer {l : Launch} {D : va_G} {g : Nat → Nat} {cI cJ cT : ClassId} {σ : ps_σ} {aK aV : Nat} {vo : Option Nat} {m1 m2 m3 ao : Nat} {f : Nat → Int64} (hg : ps_inj 33 g) (hst : l.stackTraces = false) (hao : ¬ ps_wA 33 g ao) (n : Nat) (hn : σ.1 1 1 = nI n) (hn60 : n ≤ 60) (cc1 : Nat) (hc1 : cc1 ≤ 1000) (hco : σ.1 0 4 = nI cc1) (hln : ∀ t, t < 6 → σ.1 (9 + t) 1 = -1 ∨ ∃ z : Nat, z ≤ 4095 ∧ σ.1 (9 + t) 1 = nI z) (x : Int32) : Met l y_Law_answer ws_Law_answer rm_Law_answer (ps_PcL D cI cJ cT g σ ao f aK aV vo m1 m2 m3 [.ref (g 0), .int x, .ref ao]) (ps_QL D cI cJ cT g ao (fun r u => (∃ t Ln : Nat, t < 6 ∧ x = nI t ∧ σ.1 (9 + t) 1 = nI Ln ∧ Ln ≤ 4095 ∧ r = nI 0 ∧ u.2 0 = (ps_kd (ps_prs (σ.2.2.1 2) n) (ps_rws Ln (ps_prs (σ.2.2.1 2) n))).toInt64 ∧ u.1.1 1 1 = nI 0 ∧ (∀ k, k ≠ 1 → k ≠ 6 → u.1.1 k = σ.1 k) ∧ u.1.2.1 = (if ps_kd (ps_prs (σ.2.2.1 2) n) (ps_rws Ln (ps_prs (σ.2.2.1 2) n)) = nI 2 then σ.2.1 else va_up (va_up σ.2.1 0 (σ.2.1 0 + 1)) (9 + t) (σ.2.1 0 + 1)) ∧ (∀ k, k < 30 → u.1.2.2.2 k = σ.2.2.2 k) ∧ ps_rpA u.1 (nI t) (ps_rws Ln (ps_prs (σ.2.2.1 2) n)) (ps_hs (σ.2.2.2 (24 + t))) cc1) ∨ (((x < 0 ∨ nI 6 ≤ x) ∨ ∃ j : Nat, j < 6 ∧ x = nI j ∧ σ.1 (9 + j) 1 = -1) ∧ r = nI 1 ∧ u.2 = f ∧ u.1.1 1 1 = nI 0 ∧ (∀ k, k ≠ 1 → u.1.1 k = σ.1 k) ∧ u.1.2.1 = σ.2.1 ∧ (∀ k, k ≠ 3 → k ≠ 4 → u.1.2.2.1 k = σ.2.2.1 k) ∧ u.1.2.2.2 = σ.2.2.2))) 1 6 (ps_wB g ao) := by
  refine ps_metW (by decide) ?_
  intro p e s m args below meth c hx hb hex0 hr hml hts hown hlocks hv Q hQ
  obtain ⟨ha, ⟨⟨⟨hP, hK⟩, hO⟩, hT0⟩, hTh⟩ := hv
  obtain ⟨x0, hex, hx1, hx2, hx3, hx4⟩ := ps_hex1 hex0
  have hT : ∀ w ∈ ps_tb, w.before args s = true := fun w h => hts w (List.mem_cons_of_mem _ h)
  have hown : s.vm.findClass R_Law = some m.cls := hown
  have hS : va_S (ps_wB g ao) s.heap s.heap [] := va_S.rf
  refine ps_enter ha (Nat.le_of_ble_eq_true rfl) (fun ls hl => ?_)
  have hl : lv_has ls 4 [(0, .ref (g 0)), (1, .int x), (2, .ref ao)] := hl
  rcases ps_kn x hln with ⟨t, Ln, ht6, rfl, hLn, hLn4⟩ | hbad
  · refine lv_aload_n hx hb d_Law_answer_0 rfl (lv_at hl 2 rfl) ?_
    refine lv_iconst (v := nI 0) hx hb d_Law_answer_1 (by decide) ?_
    refine lv_aload_n hx hb d_Law_answer_2 rfl (lv_at hl 0 rfl) ?_
    refine lv_iload_n hx hb d_Law_answer_3 rfl (lv_at hl 1 rfl) ?_
    refine ps_wriS (k := 0) (As := [.int (nI t)]) (rest := [.int (nI 0), .ref ao]) ⟨hx, hb, hml, hown, hT⟩ (c_Shelf_answer hg t ht6 Ln hLn4 hLn n hn hn60 cc1 hc1 hco) (cwV 1 hT (ps_gV ml_Law_7 im_Shelf_answer se_Shelf_answer in_Shelf co_Shelf_answer) rfl rfl rfl cd_Shelf_answer ⟨Nat.le_of_ble_eq_true rfl, Nat.le_of_ble_eq_true rfl⟩) hT0 hK hP hS (fun _ h => Or.inl h) (by omega) ps_E_0 rfl rfl hl.1 rfl (Nat.le_of_ble_eq_true rfl) d_Law_answer_4 ⟨Nat.zero_le _, Nat.zero_le _⟩ (fun rr u1 H locs hp hP hS hk1 => ?_)
    have hO := ps_oE_kept hO (hk1 ao (ps_oE_lt hO) hao)
    refine lv_i2l (v := rr.toInt64) hx hb d_Law_answer_7 rfl ?_
    refine ps_lastO (A := ps_wB g ao) hx hb hK hg hP hO hao (fun _ h => Or.inl h) (Or.inr rfl) hS 1 rfl d_Law_answer_8 (fun H locs hP hO hS => ?_)
    refine lv_goto (tgt := 15) hx hb d_Law_answer_9 (by decide) ?_
    refine lv_iconst (v := nI 0) hx hb d_Law_answer_15 (by decide) ?_
    refine W.widen (k := 1) (n := 6) (by decide) (by decide) ?_
    rw [hQ]
    exact W.iret (v := nI 0) hx hb hr (fun zt ht _ => ⟨⟨_, (u1, va_up f 0 rr.toInt64), rfl, Or.inl ⟨t, Ln, ht6, rfl, hLn, hLn4, rfl, by rw [← hp.1]; show va_up f 0 rr.toInt64 0 = _; exact va_up_self _ _ _, hp.2⟩, ⟨ps_hp ht hP, ps_hp ht hO⟩⟩, hS.F ht⟩) hS.2.2 d_Law_answer_16
  · refine lv_aload_n hx hb d_Law_answer_0 rfl (lv_at hl 2 rfl) ?_
    refine lv_iconst (v := nI 0) hx hb d_Law_answer_1 (by decide) ?_
    refine lv_aload_n hx hb d_Law_answer_2 rfl (lv_at hl 0 rfl) ?_
    refine lv_iload_n hx hb d_Law_answer_3 rfl (lv_at hl 1 rfl) ?_
    refine ps_callCatch (C := R_Shelf) (X := ps_IAE) (As := [.int x]) (rest := [.int (nI 0), .ref ao]) ⟨hx, hb, hml, hown, hT⟩ (ct_Shelf_answer hg hst n hn hn60 x hbad) (cwV 1 hT (ps_gV ml_Law_7 im_Shelf_answer se_Shelf_answer in_Shelf co_Shelf_answer) rfl rfl rfl cd_Shelf_answer ⟨Nat.le_of_ble_eq_true rfl, Nat.le_of_ble_eq_true rfl⟩) ⟨ps_blindST _ _ _ _ _ _ _ _ _ _ _ _ _, ps_recv hK hP (by omega) ps_E_0 rfl, fun U hU hW => ⟨rfl, ⟨⟨by rw [hU]; exact hP, va_K.moved hW.alike hK⟩, hT0.at hU hW⟩, hTh.at hU hW⟩⟩ rfl hl.1 rfl (Nat.le_of_ble_eq_true rfl) d_Law_answer_4 ⟨Nat.le_of_ble_eq_true rfl, Nat.le_of_ble_eq_true rfl⟩ x0 hex (by simp [covers, hx1, hx2]) (by rw [hx4]; decide) (by rw [hx4]; exact hT _ ck_Law_13) (va_Nw.use rfl (hTh.2.2.1 _ (by decide))) (fun _ U v t hU hW hq => hq.2.2.2) (fun v U t L hU hW hq hL => ?_)
    obtain ⟨⟨u1, hp, hP⟩, hF, -⟩ := hq
    have hS := ps_SL (ao := ao) hU hF hL
    have hO := ps_OL hU hF hao hO
    rw [hx3]
    refine lv_astore_n (lv' := [(3, .ref v), (0, .ref (g 0)), (1, .int x), (2, .ref ao)]) hx hb d_Law_answer_12 rfl hl (by decide) rfl (fun ls hl => ?_)
    refine lv_iconst (v := nI 1) hx hb d_Law_answer_13 (by decide) ?_
    rw [hQ]
    exact W.iret (v := nI 1) hx hb hr (fun zt ht _ => ⟨⟨_, (u1, f), rfl, Or.inr ⟨hbad, rfl, rfl, hp⟩, ⟨ps_hp ht hP, ps_hp ht hO⟩⟩, hS.F ht⟩) hS.2.2 d_Law_answer_14

def rm_Law_row : Room := { frames := 7, cells := 1, slots := 6, locals := 105 }
abbrev ws_Law_row : List Cond := .codeWith y_Law_row b_Law_row 5 (some .int) [(0, 10, 13, 19)] :: ps_tb
set_option maxHeartbeats 4000000 in
set_option maxRecDepth 100000 in
theorem c_Law_row {l : Launch} {D : va_G} {g : Nat → Nat} {cI cJ cT : ClassId} {σ : ps_σ} {aK aV : Nat} {vo : Option Nat} {m1 m2 m3 ao : Nat} {f : Nat → Int64} (hg : ps_inj 33 g) (hst : l.stackTraces = false) (hao : ¬ ps_wA 33 g ao) (R : List (Nat × Nat)) (hR6 : R.length ≤ 6) (h61 : σ.1 6 1 = nI R.length) (hv : ∀ i, (hi : i < R.length) → σ.2.2.1 7 i = nI R[i].1 ∧ σ.2.2.1 8 i = nI R[i].2) (x : Int32) (en : Bool) : Met l y_Law_row ws_Law_row rm_Law_row (ps_PcL D cI cJ cT g σ ao f aK aV vo m1 m2 m3 [.ref (g 0), .int x, .int (ps_bI en), .ref ao]) (ps_QL D cI cJ cT g ao (fun r u => (∃ (i : Nat) (hi : i < R.length), x = nI i ∧ r = nI 0 ∧ u.1 = σ ∧ u.2 0 = (nI (if en = true then R[i].2 else R[i].1)).toInt64) ∨ ((x < 0 ∨ nI R.length ≤ x) ∧ r = nI 1 ∧ u.1 = σ ∧ u.2 = f))) 1 6 (ps_wB g ao) := by
  refine ps_metW (by decide) ?_
  intro p e s m args below meth c hx hb hex0 hr hml hts hown hlocks hv Q hQ
  obtain ⟨ha, ⟨⟨⟨hP, hK⟩, hO⟩, hT0⟩, hTh⟩ := hv
  obtain ⟨x0, hex, hx1, hx2, hx3, hx4⟩ := ps_hex1 hex0
  have hT : ∀ w ∈ ps_tb, w.before args s = true := fun w h => hts w (List.mem_cons_of_mem _ h)
  have hown : s.vm.findClass R_Law = some m.cls := hown
  have hS : va_S (ps_wB g ao) s.heap s.heap [] := va_S.rf
  refine ps_enter ha (Nat.le_of_ble_eq_true rfl) (fun ls hl => ?_)
  have hl : lv_has ls 5 [(0, .ref (g 0)), (1, .int x), (2, .int (ps_bI en)), (3, .ref ao)] := hl
  rcases ps_in6 x (n := R.length) (by omega) with ⟨i, hi, rfl⟩ | hbad
  · refine lv_aload_n hx hb d_Law_row_0 rfl (lv_at hl 3 rfl) ?_
    refine lv_iconst (v := nI 0) hx hb d_Law_row_1 (by decide) ?_
    refine lv_aload_n hx hb d_Law_row_2 rfl (lv_at hl 0 rfl) ?_
    refine lv_iload_n hx hb d_Law_row_3 rfl (lv_at hl 1 rfl) ?_
    refine lv_iload_n hx hb d_Law_row_4 rfl (lv_at hl 2 rfl) ?_
    refine ps_roi (k := 0) (As := [.int (nI i), .int (ps_bI en)]) (rest := [.int (nI 0), .ref ao]) ⟨hx, hb, hml, hown, hT⟩ (c_Shelf_row R hR6 h61 hv i hi en) (cwV 2 hT (ps_gV ml_Law_15 im_Shelf_row se_Shelf_row in_Shelf co_Shelf_row) rfl rfl rfl cd_Shelf_row ⟨Nat.le_of_ble_eq_true rfl, Nat.le_of_ble_eq_true rfl⟩) hK hP (by omega) ps_E_0 rfl rfl hl.1 rfl (Nat.le_of_ble_eq_true rfl) d_Law_row_5 ⟨Nat.zero_le _, Nat.zero_le _⟩ (fun rr hp => ?_)
    refine lv_i2l (v := rr.toInt64) hx hb d_Law_row_8 rfl ?_
    refine ps_lastO (A := ps_wB g ao) hx hb hK hg hP hO hao (fun _ h => Or.inl h) (Or.inr rfl) hS 1 rfl d_Law_row_9 (fun H locs hP hO hS => ?_)
    refine lv_goto (tgt := 17) hx hb d_Law_row_10 (by decide) ?_
    refine lv_iconst (v := nI 0) hx hb d_Law_row_17 (by decide) ?_
    refine W.widen (k := 1) (n := 6) (by decide) (by decide) ?_
    rw [hQ]
    exact W.iret (v := nI 0) hx hb hr (fun zt ht _ => ⟨⟨_, (σ, va_up f 0 rr.toInt64), rfl, Or.inl ⟨i, hi, rfl, rfl, rfl, by rw [← hp]; show va_up f 0 rr.toInt64 0 = _; exact va_up_self _ _ _⟩, ⟨ps_hp ht hP, ps_hp ht hO⟩⟩, hS.F ht⟩) hS.2.2 d_Law_row_18
  · refine lv_aload_n hx hb d_Law_row_0 rfl (lv_at hl 3 rfl) ?_
    refine lv_iconst (v := nI 0) hx hb d_Law_row_1 (by decide) ?_
    refine lv_aload_n hx hb d_Law_row_2 rfl (lv_at hl 0 rfl) ?_
    refine lv_iload_n hx hb d_Law_row_3 rfl (lv_at hl 1 rfl) ?_
    refine lv_iload_n hx hb d_Law_row_4 rfl (lv_at hl 2 rfl) ?_
    refine ps_callCatch (C := R_Shelf) (X := ps_NSE) (As := [.int x, .int (ps_bI en)]) (rest := [.int (nI 0), .ref ao]) ⟨hx, hb, hml, hown, hT⟩ (ct_Shelf_row hg hst R.length h61 x (ps_bI en) hbad) (cwV 2 hT (ps_gV ml_Law_15 im_Shelf_row se_Shelf_row in_Shelf co_Shelf_row) rfl rfl rfl cd_Shelf_row ⟨Nat.le_of_ble_eq_true rfl, Nat.le_of_ble_eq_true rfl⟩) ⟨ps_blindT _ _ _ _ _ _ _ _ _ _, ps_recv hK hP (by omega) ps_E_0 rfl, fun U hU hW => ⟨rfl, ⟨by rw [hU]; exact hP, va_K.moved hW.alike hK⟩, hTh.at hU hW⟩⟩ rfl hl.1 rfl (Nat.le_of_ble_eq_true rfl) d_Law_row_5 ⟨Nat.le_of_ble_eq_true rfl, Nat.le_of_ble_eq_true rfl⟩ x0 hex (by simp [covers, hx1, hx2]) (by rw [hx4]; decide) (by rw [hx4]; exact hT _ ck_Law_19) (va_Nw.use rfl (hTh.2.2.1 _ (by decide))) (fun _ U v t hU hW hq => hq.2.2.2) (fun v U t L hU hW hq hL => ?_)
    obtain ⟨⟨u1, hp, hP⟩, hF, -⟩ := hq
    have hS := ps_SL (ao := ao) hU hF hL
    have hO := ps_OL hU hF hao hO
    rw [hx3]
    refine lv_astore (lv' := [(4, .ref v), (0, .ref (g 0)), (1, .int x), (2, .int (ps_bI en)), (3, .ref ao)]) hx hb d_Law_row_13 hl (by decide) rfl (fun ls hl => ?_)
    refine lv_iconst (v := nI 1) hx hb d_Law_row_15 (by decide) ?_
    rw [hQ]
    exact W.iret (v := nI 1) hx hb hr (fun zt ht _ => ⟨⟨_, (u1, f), rfl, Or.inr ⟨hbad, rfl, hp, rfl⟩, ⟨ps_hp ht hP, ps_hp ht hO⟩⟩, hS.F ht⟩) hS.2.2 d_Law_row_16

def rm_Law_fetch : Room := { frames := 7, cells := 1, slots := 6, locals := 105 }
abbrev ws_Law_fetch : List Cond := .codeWith y_Law_fetch b_Law_fetch 5 (some .int) [(0, 10, 13, 19)] :: ps_tb
set_option maxHeartbeats 4000000 in
set_option maxRecDepth 100000 in
theorem c_Law_fetch {l : Launch} {D : va_G} {g : Nat → Nat} {cI cJ cT : ClassId} {σ : ps_σ} {aK aV : Nat} {vo : Option Nat} {m1 m2 m3 ao : Nat} {f : Nat → Int64} (hg : ps_inj 33 g) (hst : l.stackTraces = false) (hao : ¬ ps_wA 33 g ao) (P : List (Nat × Nat)) (hPk : ps_plOK P) (h67 : σ.1 6 7 = nI P.length) (hPl : P.length < 2 ^ 31) (h31 : ∀ q, q < 4096 → ps_hs (σ.2.2.2 31) q = decide (q ∈ P.map (fun r => r.1))) (h32 : ∀ q, q < 4096 → ps_hs (σ.2.2.2 32) q = decide (q ∈ P.map (fun r => r.2))) (x : Int32) (en : Bool) : Met l y_Law_fetch ws_Law_fetch rm_Law_fetch (ps_PcL D cI cJ cT g σ ao f aK aV vo m1 m2 m3 [.ref (g 0), .int x, .int (ps_bI en), .ref ao]) (ps_QL D cI cJ cT g ao (fun r u => (∃ (i : Nat) (hi : i < P.length), x = nI i ∧ r = nI 0 ∧ u.1 = σ ∧ u.2 0 = (nI (if en = true then P[i].2 else P[i].1)).toInt64) ∨ ((x < 0 ∨ nI P.length ≤ x) ∧ r = nI 1 ∧ u.1 = σ ∧ u.2 = f))) 1 6 (ps_wB g ao) := by
  refine ps_metW (by decide) ?_
  intro p e s m args below meth c hx hb hex0 hr hml hts hown hlocks hv Q hQ
  obtain ⟨ha, ⟨⟨⟨hP, hK⟩, hO⟩, hT0⟩, hTh⟩ := hv
  obtain ⟨x0, hex, hx1, hx2, hx3, hx4⟩ := ps_hex1 hex0
  have hT : ∀ w ∈ ps_tb, w.before args s = true := fun w h => hts w (List.mem_cons_of_mem _ h)
  have hown : s.vm.findClass R_Law = some m.cls := hown
  have hS : va_S (ps_wB g ao) s.heap s.heap [] := va_S.rf
  refine ps_enter ha (Nat.le_of_ble_eq_true rfl) (fun ls hl => ?_)
  have hl : lv_has ls 5 [(0, .ref (g 0)), (1, .int x), (2, .int (ps_bI en)), (3, .ref ao)] := hl
  rcases ps_in6 x (n := P.length) (by omega) with ⟨i, hi, rfl⟩ | hbad
  · refine lv_aload_n hx hb d_Law_fetch_0 rfl (lv_at hl 3 rfl) ?_
    refine lv_iconst (v := nI 0) hx hb d_Law_fetch_1 (by decide) ?_
    refine lv_aload_n hx hb d_Law_fetch_2 rfl (lv_at hl 0 rfl) ?_
    refine lv_iload_n hx hb d_Law_fetch_3 rfl (lv_at hl 1 rfl) ?_
    refine lv_iload_n hx hb d_Law_fetch_4 rfl (lv_at hl 2 rfl) ?_
    refine ps_roi (k := 0) (As := [.int (nI i), .int (ps_bI en)]) (rest := [.int (nI 0), .ref ao]) ⟨hx, hb, hml, hown, hT⟩ (c_Shelf_fetch P hPk h67 hPl h31 h32 i hi en) (cwV 2 hT (ps_gV ml_Law_21 im_Shelf_fetch se_Shelf_fetch in_Shelf co_Shelf_fetch) rfl rfl rfl cd_Shelf_fetch ⟨Nat.le_of_ble_eq_true rfl, Nat.le_of_ble_eq_true rfl⟩) hK hP (by omega) ps_E_0 rfl rfl hl.1 rfl (Nat.le_of_ble_eq_true rfl) d_Law_fetch_5 ⟨Nat.zero_le _, Nat.zero_le _⟩ (fun rr hp => ?_)
    refine lv_i2l (v := rr.toInt64) hx hb d_Law_fetch_8 rfl ?_
    refine ps_lastO (A := ps_wB g ao) hx hb hK hg hP hO hao (fun _ h => Or.inl h) (Or.inr rfl) hS 1 rfl d_Law_fetch_9 (fun H locs hP hO hS => ?_)
    refine lv_goto (tgt := 17) hx hb d_Law_fetch_10 (by decide) ?_
    refine lv_iconst (v := nI 0) hx hb d_Law_fetch_17 (by decide) ?_
    refine W.widen (k := 1) (n := 6) (by decide) (by decide) ?_
    rw [hQ]
    exact W.iret (v := nI 0) hx hb hr (fun zt ht _ => ⟨⟨_, (σ, va_up f 0 rr.toInt64), rfl, Or.inl ⟨i, hi, rfl, rfl, rfl, by rw [← hp]; show va_up f 0 rr.toInt64 0 = _; exact va_up_self _ _ _⟩, ⟨ps_hp ht hP, ps_hp ht hO⟩⟩, hS.F ht⟩) hS.2.2 d_Law_fetch_18
  · refine lv_aload_n hx hb d_Law_fetch_0 rfl (lv_at hl 3 rfl) ?_
    refine lv_iconst (v := nI 0) hx hb d_Law_fetch_1 (by decide) ?_
    refine lv_aload_n hx hb d_Law_fetch_2 rfl (lv_at hl 0 rfl) ?_
    refine lv_iload_n hx hb d_Law_fetch_3 rfl (lv_at hl 1 rfl) ?_
    refine lv_iload_n hx hb d_Law_fetch_4 rfl (lv_at hl 2 rfl) ?_
    refine ps_callCatch (C := R_Shelf) (X := ps_NSE) (As := [.int x, .int (ps_bI en)]) (rest := [.int (nI 0), .ref ao]) ⟨hx, hb, hml, hown, hT⟩ (ct_Shelf_fetch hg hst P.length h67 x (ps_bI en) hbad) (cwV 2 hT (ps_gV ml_Law_21 im_Shelf_fetch se_Shelf_fetch in_Shelf co_Shelf_fetch) rfl rfl rfl cd_Shelf_fetch ⟨Nat.le_of_ble_eq_true rfl, Nat.le_of_ble_eq_true rfl⟩) ⟨ps_blindT _ _ _ _ _ _ _ _ _ _, ps_recv hK hP (by omega) ps_E_0 rfl, fun U hU hW => ⟨rfl, ⟨by rw [hU]; exact hP, va_K.moved hW.alike hK⟩, hTh.at hU hW⟩⟩ rfl hl.1 rfl (Nat.le_of_ble_eq_true rfl) d_Law_fetch_5 ⟨Nat.le_of_ble_eq_true rfl, Nat.le_of_ble_eq_true rfl⟩ x0 hex (by simp [covers, hx1, hx2]) (by rw [hx4]; decide) (by rw [hx4]; exact hT _ ck_Law_19) (va_Nw.use rfl (hTh.2.2.1 _ (by decide))) (fun _ U v t hU hW hq => hq.2.2.2) (fun v U t L hU hW hq hL => ?_)
    obtain ⟨⟨u1, hp, hP⟩, hF, -⟩ := hq
    have hS := ps_SL (ao := ao) hU hF hL
    have hO := ps_OL hU hF hao hO
    rw [hx3]
    refine lv_astore (lv' := [(4, .ref v), (0, .ref (g 0)), (1, .int x), (2, .int (ps_bI en)), (3, .ref ao)]) hx hb d_Law_fetch_13 hl (by decide) rfl (fun ls hl => ?_)
    refine lv_iconst (v := nI 1) hx hb d_Law_fetch_15 (by decide) ?_
    rw [hQ]
    exact W.iret (v := nI 1) hx hb hr (fun zt ht _ => ⟨⟨_, (u1, f), rfl, Or.inr ⟨hbad, rfl, hp, rfl⟩, ⟨ps_hp ht hP, ps_hp ht hO⟩⟩, hS.F ht⟩) hS.2.2 d_Law_fetch_16
