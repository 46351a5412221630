theorem ml_Shelf_77 : (.methodLink R_Shelf 77 y_Tape_readParts : Cond) ∈ ps_tb := ps_in 287 (by decide +kernel) rfl
theorem co_Tape_readParts : (.code y_Tape_readParts b_Tape_readParts 3 (some .int) : Cond) ∈ ps_tb := ps_in 290 (by decide +kernel) rfl
theorem im_Tape_readParts : (.instanceMethod y_Tape_readParts : Cond) ∈ ps_tb := ps_in 288 (by decide +kernel) rfl
theorem se_Tape_readParts : (.selects R_Tape y_Tape_readParts y_Tape_readParts : Cond) ∈ ps_tb := ps_in 289 (by decide +kernel) rfl
theorem ml_Shelf_81 : (.methodLink R_Shelf 81 y_Tape_clear : Cond) ∈ ps_tb := ps_in 360 (by decide +kernel) rfl
theorem co_Tape_clear : (.code y_Tape_clear b_Tape_clear 1 none : Cond) ∈ ps_tb := ps_in 363 (by decide +kernel) rfl
theorem im_Tape_clear : (.instanceMethod y_Tape_clear : Cond) ∈ ps_tb := ps_in 361 (by decide +kernel) rfl
theorem se_Tape_clear : (.selects R_Tape y_Tape_clear y_Tape_clear : Cond) ∈ ps_tb := ps_in 362 (by decide +kernel) rfl
theorem ml_Shelf_94 : (.methodLink R_Shelf 94 y_Reply_begin : Cond) ∈ ps_tb := ps_in 431 (by decide +kernel) rfl
theorem co_Reply_begin : (.code y_Reply_begin b_Reply_begin 2 none : Cond) ∈ ps_tb := ps_in 434 (by decide +kernel) rfl
theorem im_Reply_begin : (.instanceMethod y_Reply_begin : Cond) ∈ ps_tb := ps_in 432 (by decide +kernel) rfl
theorem se_Reply_begin : (.selects R_Reply y_Reply_begin y_Reply_begin : Cond) ∈ ps_tb := ps_in 433 (by decide +kernel) rfl
theorem ml_Shelf_98 : (.methodLink R_Shelf 98 y_Shelf_fill : Cond) ∈ ps_tb := ps_in 436 (by decide +kernel) rfl
theorem co_Shelf_fill : (.code y_Shelf_fill b_Shelf_fill 4 (some .int) : Cond) ∈ ps_tb := ps_in 439 (by decide +kernel) rfl
theorem im_Shelf_fill : (.instanceMethod y_Shelf_fill : Cond) ∈ ps_tb := ps_in 438 (by decide +kernel) rfl
theorem se_Shelf_fill : (.selects R_Shelf y_Shelf_fill y_Shelf_fill : Cond) ∈ ps_tb := ps_inS 11 (by decide +kernel) rfl
theorem ml_Shelf_102 : (.methodLink R_Shelf 102 y_Reply_finish : Cond) ∈ ps_tb := ps_in 455 (by decide +kernel) rfl
theorem co_Reply_finish : (.code y_Reply_finish b_Reply_finish 3 none : Cond) ∈ ps_tb := ps_in 458 (by decide +kernel) rfl
theorem im_Reply_finish : (.instanceMethod y_Reply_finish : Cond) ∈ ps_tb := ps_in 456 (by decide +kernel) rfl
theorem se_Reply_finish : (.selects R_Reply y_Reply_finish y_Reply_finish : Cond) ∈ ps_tb := ps_in 457 (by decide +kernel) rfl
theorem cd_Reply_begin : y_Reply_begin.cls = R_Reply ∧ y_Reply_begin.cls ≠ "java/lang/invoke/MethodHandle" ∧ y_Reply_begin.cls ≠ "java/lang/invoke/VarHandle" ∧ (parseMethodDescriptor y_Reply_begin.desc).map (fun d => d.parameters.length) = some 1 := by decide +kernel
theorem cd_Reply_finish : y_Reply_finish.cls = R_Reply ∧ y_Reply_finish.cls ≠ "java/lang/invoke/MethodHandle" ∧ y_Reply_finish.cls ≠ "java/lang/invoke/VarHandle" ∧ (parseMethodDescriptor y_Reply_finish.desc).map (fun d => d.parameters.length) = some 2 := by decide +kernel
theorem cd_Shelf_fill : y_Shelf_fill.cls = R_Shelf ∧ y_Shelf_fill.cls ≠ "java/lang/invoke/MethodHandle" ∧ y_Shelf_fill.cls ≠ "java/lang/invoke/VarHandle" ∧ (parseMethodDescriptor y_Shelf_fill.desc).map (fun d => d.parameters.length) = some 2 := by decide +kernel
theorem cd_Tape_clear : y_Tape_clear.cls = R_Tape ∧ y_Tape_clear.cls ≠ "java/lang/invoke/MethodHandle" ∧ y_Tape_clear.cls ≠ "java/lang/invoke/VarHandle" ∧ (parseMethodDescriptor y_Tape_clear.desc).map (fun d => d.parameters.length) = some 0 := by decide +kernel
theorem cd_Tape_readParts : y_Tape_readParts.cls = R_Tape ∧ y_Tape_readParts.cls ≠ "java/lang/invoke/MethodHandle" ∧ y_Tape_readParts.cls ≠ "java/lang/invoke/VarHandle" ∧ (parseMethodDescriptor y_Tape_readParts.desc).map (fun d => d.parameters.length) = some 0 := by decide +kernel
def rm_Shelf_answer : Room := { frames := 6, cells := 0, slots := 0, locals := 139 }
abbrev ws_Shelf_answer : List Cond := .code y_Shelf_answer b_Shelf_answer 5 (some .int) :: ps_tb
set_option maxHeartbeats 4000000 in
set_option maxRecDepth 100000 in
theorem c_Shelf_answer {l : Launch} {D : va_G} {g : Nat → Nat} {cI cJ cT : ClassId} {σ : ps_σ} {aK aV : Nat} {vo : Option Nat} (hg : ps_inj 33 g) (t : Nat) (ht6 : t < 6) (Ln : Nat) (hLn4 : Ln ≤ 4095) (hLn : σ.1 (9 + t) 1 = nI Ln) (n : Nat) (hn : σ.1 1 1 = nI n) (hn60 : n ≤ 60) (cc1 : Nat) (hc1 : cc1 ≤ 1000) (hco : σ.1 0 4 = nI cc1) : Met l y_Shelf_answer ws_Shelf_answer rm_Shelf_answer (ps_PcS D ps_cl (ps_tys cI cJ cT) 33 g (ps_E g cI cJ cT σ) aK aV vo [.ref (g 0), .int (nI t)]) (ps_Qi (S := ps_σ) D ps_cl 33 g (fun u => ps_E g cI cJ cT u) (fun r u => r = ps_kd (ps_prs (σ.2.2.1 2) n) (ps_rws Ln (ps_prs (σ.2.2.1 2) n)) ∧ u.1 1 1 = nI 0 ∧ (∀ k, k ≠ 1 → k ≠ 6 → u.1 k = σ.1 k) ∧ u.2.1 = (if ps_kd (ps_prs (σ.2.2.1 2) n) (ps_rws Ln (ps_prs (σ.2.2.1 2) n)) = nI 2 then σ.2.1 else va_up (va_up σ.2.1 0 (σ.2.1 0 + 1)) (9 + t) (σ.2.1 0 + 1)) ∧ (∀ k, k < 30 → u.2.2.2 k = σ.2.2.2 k) ∧ ps_rpA u (nI t) (ps_rws Ln (ps_prs (σ.2.2.1 2) n)) (ps_hs (σ.2.2.2 (24 + t))) cc1)) 0 0 (ps_wA 33 g) := by
  refine ps_met (by decide) ?_
  intro p e s m args below meth c hx hb hr hml hts hown hlocks hname hv Q hQ
  obtain ⟨ha, ⟨hP, hK⟩, hT0⟩ := hv
  have hT : ∀ w ∈ ps_tb, w.before args s = true := fun w h => hts w (List.mem_cons_of_mem _ h)
  have hown : s.vm.findClass R_Shelf = some m.cls := hown
  have hS : va_S (ps_wA 33 g) s.heap s.heap [] := va_S.rf
  refine ps_enter ha (Nat.le_of_ble_eq_true rfl) (fun ls hl => ?_)
  have hl : lv_has ls 5 [(0, .ref (g 0)), (1, .int (nI t))] := hl
  refine lv_aload_n hx hb d_Shelf_answer_0 rfl (lv_at hl 0 rfl) ?_
  refine ps_get (v := .ref (g 1)) hx hb hT i_Shelf hown hK hP (k := 0) (by omega) ps_E_0 rfl 0 (by decide) (hT _ fl_Shelf_10) (fun _ h9 => h9) rfl d_Shelf_answer_1 ?_
  refine ps_wriS (k := 1) (As := []) (rest := []) ⟨hx, hb, hml, hown, hT⟩ (c_Tape_readParts (σ := σ) hg n hn hn60) (cwV 0 hT (ps_gV ml_Shelf_77 im_Tape_readParts se_Tape_readParts in_Tape co_Tape_readParts) rfl rfl rfl cd_Tape_readParts ⟨Nat.le_of_ble_eq_true rfl, Nat.le_of_ble_eq_true rfl⟩) hT0 hK hP hS (fun _ h => h) (by omega) ps_E_1 rfl rfl hl.1 rfl (Nat.le_of_ble_eq_true rfl) d_Shelf_answer_4 ⟨Nat.zero_le _, Nat.zero_le _⟩ (fun rr u1 H locs hz hP hS _ => ?_)
  obtain ⟨fb, fh, hu1, hz⟩ := hz
  obtain ⟨hz1, hz2⟩ := ps_prs_of hz
  obtain ⟨L1, eL1⟩ : ∃ z, z = ps_prs (σ.2.2.1 2) n := ⟨_, rfl⟩
  have hok := ps_prs_ok (σ.2.2.1 2) n
  rw [← eL1] at hz1 hok
  have hz2 : ∀ i, (hi : i < L1.length) → fb i = L1[i].1 ∧ fh i = L1[i].2 := by subst eL1; exact hz2
  subst hz1
  clear hz
  refine lv_istore_n (lv' := [(2, .int (nI L1.length)), (0, .ref (g 0)), (1, .int (nI t))]) hx hb d_Shelf_answer_7 rfl hl (by decide) rfl (fun ls hl => ?_)
  refine lv_aload_n hx hb d_Shelf_answer_8 rfl (lv_at hl 1 rfl) ?_
  refine ps_get (v := .ref (g 1)) hx hb hT i_Shelf hown hK hP (k := 0) (by omega) ps_E_0 rfl 0 (by decide) (hT _ fl_Shelf_10) (fun _ h9 => h9) rfl d_Shelf_answer_9 ?_
  refine ps_wrv (k := 1) (As := []) (rest := []) ⟨hx, hb, hml, hown, hT⟩ (c_Tape_clear (σ := u1) hg) (cwV 0 hT (ps_gV ml_Shelf_81 im_Tape_clear se_Tape_clear in_Tape co_Tape_clear) rfl rfl rfl cd_Tape_clear ⟨Nat.le_of_ble_eq_true rfl, Nat.le_of_ble_eq_true rfl⟩) hK hP hS (fun _ h => h) (by omega) ps_E_1 rfl rfl hl.1 rfl (Nat.le_of_ble_eq_true rfl) d_Shelf_answer_12 ⟨Nat.zero_le _, Nat.zero_le _⟩ (fun u2 H locs hu2 hP hS _ => ?_)
  have hu2 : u2 = ps_upI (ps_upA (ps_upA σ 3 fb) 4 fh) 1 1 (nI 0) := by rw [hu2, hu1]
  have hlt : u2.1 (9 + t) 1 = nI Ln := by rw [hu2]; exact (congrFun (va_up_ne _ _ (by omega)) 1).trans hLn
  refine lv_aload_n hx hb d_Shelf_answer_15 rfl (lv_at hl 1 rfl) ?_
  refine lv_iload_n hx hb d_Shelf_answer_16 rfl (lv_at hl 2 rfl) ?_
  refine ps_roq (k := 0) (As := [.int (nI t)]) (rest := []) ⟨hx, hb, hml, hown, hT⟩ (c_Shelf_find (σ := u2) (nI t)) (cwV 1 hT (ps_gV ml_Shelf_45 im_Shelf_find se_Shelf_find in_Shelf co_Shelf_find) rfl rfl rfl cd_Shelf_find ⟨Nat.le_of_ble_eq_true rfl, Nat.le_of_ble_eq_true rfl⟩) hK hP (by omega) ps_E_0 rfl rfl hl.1 rfl (Nat.le_of_ble_eq_true rfl) d_Shelf_answer_17 ⟨Nat.zero_le _, Nat.zero_le _⟩ (fun rr hrr => ?_)
  have hrr := ps_fnd ht6 hrr
  subst hrr
  refine lv_astore_n (lv' := [(3, .ref (g (9 + t))), (2, .int (nI L1.length)), (0, .ref (g 0)), (1, .int (nI t))]) hx hb d_Shelf_answer_20 rfl hl (by decide) rfl (fun ls hl => ?_)
  refine lv_aload_n hx hb d_Shelf_answer_21 rfl (lv_at hl 0 rfl) ?_
  refine lv_ifnull hx hb d_Shelf_answer_22 ?_
  refine lv_aload_n hx hb d_Shelf_answer_25 rfl (lv_at hl 0 rfl) ?_
  refine ps_get (v := .int (u2.1 (9 + t) 1)) hx hb hT i_Thing hown hK hP (k := 9 + t) (by omega) (ps_E_th ht6) rfl 1 (by decide) (hT _ fl_Shelf_84) (fun _ h9 => h9) rfl d_Shelf_answer_26 ?_
  refine ps_seti (y := nI Ln) hlt ?_
  refine lv_iconst (v := -1) hx hb d_Shelf_answer_29 (by decide) ?_
  refine lv_icmp_ne (tgt := 43) hx hb d_Shelf_answer_30 (by decide) (fun c_30 => ?_) (fun c_30 => ?_)
  · refine lv_aload_n hx hb d_Shelf_answer_43 rfl (lv_at hl 2 rfl) ?_
    refine ps_get (v := .ref (g 6)) hx hb hT i_Shelf hown hK hP (k := 0) (by omega) ps_E_0 rfl 2 (by decide) (hT _ fl_Shelf_26) (fun _ h9 => h9) rfl d_Shelf_answer_44 ?_
    refine lv_iload_n hx hb d_Shelf_answer_47 rfl (lv_at hl 3 rfl) ?_
    refine ps_wrv (k := 6) (As := [.int (nI t)]) (rest := []) ⟨hx, hb, hml, hown, hT⟩ (c_Reply_begin (σ := u2) hg (nI t)) (cwV 1 hT (ps_gV ml_Shelf_94 im_Reply_begin se_Reply_begin in_Reply co_Reply_begin) rfl rfl rfl cd_Reply_begin ⟨Nat.le_of_ble_eq_true rfl, Nat.le_of_ble_eq_true rfl⟩) hK hP hS (fun _ h => h) (by omega) ps_E_6 rfl rfl hl.1 rfl (Nat.le_of_ble_eq_true rfl) d_Shelf_answer_48 ⟨Nat.zero_le _, Nat.zero_le _⟩ (fun u3 H locs hu3 hP hS _ => ?_)
    obtain ⟨k1, k2, k3, k4, k5, k6, k7, k8, k9⟩ := hu3
    refine lv_aload_n hx hb d_Shelf_answer_51 rfl (lv_at hl 2 rfl) ?_
    refine lv_aload_n hx hb d_Shelf_answer_52 rfl (lv_at hl 0 rfl) ?_
    refine lv_iload_n hx hb d_Shelf_answer_53 rfl (lv_at hl 1 rfl) ?_
    refine ps_wri (k := 0) (As := [.ref (g (9 + t)), .int (nI L1.length)]) (rest := []) ⟨hx, hb, hml, hown, hT⟩ (c_Shelf_fill (σ := u3) hg t ht6 Ln hLn4 (by rw [k1.1 (9 + t) (by omega)]; exact hlt) L1 hok.1 hok.2 (fun i hi => by rw [k1.2.2.1 3 (by decide) (by decide), k1.2.2.1 4 (by decide) (by decide), hu2]; exact hz2 i hi) (ps_rw0 k3 k4 k7)) (cwV 2 hT (ps_gV ml_Shelf_98 im_Shelf_fill se_Shelf_fill in_Shelf co_Shelf_fill) rfl rfl rfl cd_Shelf_fill ⟨Nat.le_of_ble_eq_true rfl, Nat.le_of_ble_eq_true rfl⟩) hK hP hS (fun _ h => h) (by omega) ps_E_0 rfl rfl hl.1 rfl (Nat.le_of_ble_eq_true rfl) d_Shelf_answer_54 ⟨Nat.zero_le _, Nat.zero_le _⟩ (fun rr u4 H locs hf hP hS _ => ?_)
    obtain ⟨⟨f1, f2, f3⟩, hf⟩ := hf
    subst hf
    obtain ⟨R1, eR1⟩ : ∃ z, z = ps_rws Ln L1 := ⟨_, rfl⟩
    have hl1 := ps_rws_len (n := Ln) hok.1
    rw [← eR1] at f2 hl1
    refine lv_istore (lv' := [(4, .int (ps_kd L1 (ps_rws Ln L1))), (3, .ref (g (9 + t))), (2, .int (nI L1.length)), (0, .ref (g 0)), (1, .int (nI t))]) hx hb d_Shelf_answer_57 hl (by decide) rfl (fun ls hl => ?_)
    refine lv_iload hx hb d_Shelf_answer_59 (lv_at hl 0 rfl) ?_
    refine lv_iconst (v := nI 2) hx hb d_Shelf_answer_61 (by decide) ?_
    refine lv_icmp_eq (tgt := 70) hx hb d_Shelf_answer_62 (by decide) (fun c_62 => ?_) (fun c_62 => ?_)
    · refine lv_aload_n hx hb d_Shelf_answer_70 rfl (lv_at hl 3 rfl) ?_
      refine ps_get (v := .ref (g 6)) hx hb hT i_Shelf hown hK hP (k := 0) (by omega) ps_E_0 rfl 2 (by decide) (hT _ fl_Shelf_26) (fun _ h9 => h9) rfl d_Shelf_answer_71 ?_
      refine lv_aload_n hx hb d_Shelf_answer_74 rfl (lv_at hl 1 rfl) ?_
      refine ps_get (v := .ref (g (15 + t))) hx hb hT i_Thing hown hK hP (k := 9 + t) (by omega) (ps_E_th ht6) rfl 0 (by decide) (hT _ fl_Shelf_60) (fun _ h9 => h9) rfl d_Shelf_answer_75 ?_
      refine lv_aload_n hx hb d_Shelf_answer_78 rfl (lv_at hl 3 rfl) ?_
      refine ps_get (v := .int (u4.1 0 4)) hx hb hT i_Shelf hown hK hP (k := 0) (by omega) ps_E_0 rfl 4 (by decide) (hT _ fl_Shelf_34) (fun _ h9 => h9) rfl d_Shelf_answer_79 ?_
      refine ps_seti (y := nI cc1) (by rw [f1.1 0 (by decide), k1.1 0 (by decide), hu2]; exact hco) ?_
      refine ps_wrv (k := 6) (As := [.ref (g (15 + t)), .int (nI cc1)]) (rest := []) ⟨hx, hb, hml, hown, hT⟩ (c_Reply_finish (σ := u4) hg t ht6 cc1 hc1 R1.length (f2.cnt) hl1 (f3.2.1.trans k5) (f3.2.2.1.trans k6) (fun q hq => by rw [f3.2.2.2.1]; exact k8 q hq) (fun q hq => by rw [f3.2.2.2.2]; exact k9 q hq)) (cwV 2 hT (ps_gV ml_Shelf_102 im_Reply_finish se_Reply_finish in_Reply co_Reply_finish) rfl rfl rfl cd_Reply_finish ⟨Nat.le_of_ble_eq_true rfl, Nat.le_of_ble_eq_true rfl⟩) hK hP hS (fun _ h => h) (by omega) ps_E_6 rfl rfl hl.1 rfl (Nat.le_of_ble_eq_true rfl) d_Shelf_answer_82 ⟨Nat.zero_le _, Nat.zero_le _⟩ (fun u6 H locs hq hP hS _ => ?_)
      have hpa := ps_rpA_of (σ := u4) (K := ps_hs (σ.2.2.2 (24 + t))) (tt := nI t) (f2) (f3.1.trans k2) (fun q hq => by rw [f1.2.2.2 (24 + t) (by omega), k1.2.2.2 (24 + t) (by omega), hu2]; rfl) hq.2
      have g1 : ∀ k, k ≠ 6 → u6.1 k = u2.1 k := fun k h6 => by rw [hq.1.1 k h6, f1.1 k h6, k1.1 k h6]
      have g2 : u6.2.1 = σ.2.1 := by rw [hq.1.2.1, f1.2.1, k1.2.1, hu2]; rfl
      have g3 : ∀ k, k < 30 → u6.2.2.2 k = σ.2.2.2 k := fun k h6 => by rw [hq.1.2.2.2 k h6, f1.2.2.2 k h6, k1.2.2.2 k h6, hu2]; rfl
      refine lv_iload hx hb d_Shelf_answer_85 (lv_at hl 0 rfl) ?_
      rw [hQ]
      exact W.iret (v := ps_kd L1 (ps_rws Ln L1)) hx hb hr (fun zt ht _ => ⟨⟨_, u6, rfl, by
        subst eR1 eL1
        refine ⟨rfl, ?_, fun k h1 h6 => ?_, ?_, g3, hpa⟩
        · rw [g1 1 (by decide), hu2]; exact ps_upI_eq
        · rw [g1 k h6, hu2]; exact va_up_ne _ _ h1
        · rw [g2, if_pos c_62], ps_hp ht hP⟩, hS.F ht⟩) hS.2.2 d_Shelf_answer_87
    · refine lv_aload_n hx hb d_Shelf_answer_65 rfl (lv_at hl 3 rfl) ?_
      refine lv_aload_n hx hb d_Shelf_answer_66 rfl (lv_at hl 1 rfl) ?_
      refine ps_wrv (k := 0) (As := [.ref (g (9 + t))]) (rest := []) ⟨hx, hb, hml, hown, hT⟩ (c_Shelf_noteUse (σ := u4) hg t ht6) (cwV 1 hT (ps_gV ml_Shelf_70 im_Shelf_noteUse se_Shelf_noteUse in_Shelf co_Shelf_noteUse) rfl rfl rfl cd_Shelf_noteUse ⟨Nat.le_of_ble_eq_true rfl, Nat.le_of_ble_eq_true rfl⟩) hK hP hS (fun _ h => h) (by omega) ps_E_0 rfl rfl hl.1 rfl (Nat.le_of_ble_eq_true rfl) d_Shelf_answer_67 ⟨Nat.zero_le _, Nat.zero_le _⟩ (fun u5 H locs hu5 hP hS _ => ?_)
      refine lv_aload_n hx hb d_Shelf_answer_70 rfl (lv_at hl 3 rfl) ?_
      refine ps_get (v := .ref (g 6)) hx hb hT i_Shelf hown hK hP (k := 0) (by omega) ps_E_0 rfl 2 (by decide) (hT _ fl_Shelf_26) (fun _ h9 => h9) rfl d_Shelf_answer_71 ?_
      refine lv_aload_n hx hb d_Shelf_answer_74 rfl (lv_at hl 1 rfl) ?_
      refine ps_get (v := .ref (g (15 + t))) hx hb hT i_Thing hown hK hP (k := 9 + t) (by omega) (ps_E_th ht6) rfl 0 (by decide) (hT _ fl_Shelf_60) (fun _ h9 => h9) rfl d_Shelf_answer_75 ?_
      refine lv_aload_n hx hb d_Shelf_answer_78 rfl (lv_at hl 3 rfl) ?_
      refine ps_get (v := .int (u5.1 0 4)) hx hb hT i_Shelf hown hK hP (k := 0) (by omega) ps_E_0 rfl 4 (by decide) (hT _ fl_Shelf_34) (fun _ h9 => h9) rfl d_Shelf_answer_79 ?_
      refine ps_seti (y := nI cc1) (by rw [hu5, ps_upU_1, ps_upU_1, f1.1 0 (by decide), k1.1 0 (by decide), hu2]; exact hco) ?_
      refine ps_wrv (k := 6) (As := [.ref (g (15 + t)), .int (nI cc1)]) (rest := []) ⟨hx, hb, hml, hown, hT⟩ (c_Reply_finish (σ := u5) hg t ht6 cc1 hc1 R1.length (by rw [hu5]; exact f2.cnt) hl1 (by rw [hu5]; exact f3.2.1.trans k5) (by rw [hu5]; exact f3.2.2.1.trans k6) (fun q hq => by rw [hu5]; show ps_hs (u4.2.2.2 31) q = false; rw [f3.2.2.2.1]; exact k8 q hq) (fun q hq => by rw [hu5]; show ps_hs (u4.2.2.2 32) q = false; rw [f3.2.2.2.2]; exact k9 q hq)) (cwV 2 hT (ps_gV ml_Shelf_102 im_Reply_finish se_Reply_finish in_Reply co_Reply_finish) rfl rfl rfl cd_Reply_finish ⟨Nat.le_of_ble_eq_true rfl, Nat.le_of_ble_eq_true rfl⟩) hK hP hS (fun _ h => h) (by omega) ps_E_6 rfl rfl hl.1 rfl (Nat.le_of_ble_eq_true rfl) d_Shelf_answer_82 ⟨Nat.zero_le _, Nat.zero_le _⟩ (fun u6 H locs hq hP hS _ => ?_)
      have hpa := ps_rpA_of (σ := u5) (K := ps_hs (σ.2.2.2 (24 + t))) (tt := nI t) (by rw [hu5]; exact f2) (by rw [hu5]; exact f3.1.trans k2) (fun q hq => by rw [hu5]; show ps_hs (u4.2.2.2 (24 + t)) q = _; rw [f1.2.2.2 (24 + t) (by omega), k1.2.2.2 (24 + t) (by omega), hu2]; rfl) hq.2
      have g1 : ∀ k, k ≠ 6 → u6.1 k = u2.1 k := fun k h6 => by rw [hq.1.1 k h6, hu5, ps_upU_1, ps_upU_1, f1.1 k h6, k1.1 k h6]
      have g2 : u6.2.1 = va_up (va_up σ.2.1 0 (σ.2.1 0 + 1)) (9 + t) (σ.2.1 0 + 1) := by rw [hq.1.2.1, hu5, ps_U5, f1.2.1, k1.2.1, hu2]; rfl
      have g3 : ∀ k, k < 30 → u6.2.2.2 k = σ.2.2.2 k := fun k h6 => by rw [hq.1.2.2.2 k h6, hu5, ps_upU_2, ps_upU_2, f1.2.2.2 k h6, k1.2.2.2 k h6, hu2]; rfl
      refine lv_iload hx hb d_Shelf_answer_85 (lv_at hl 0 rfl) ?_
      rw [hQ]
      exact W.iret (v := ps_kd L1 (ps_rws Ln L1)) hx hb hr (fun zt ht _ => ⟨⟨_, u6, rfl, by
        subst eR1 eL1
        refine ⟨rfl, ?_, fun k h1 h6 => ?_, ?_, g3, hpa⟩
        · rw [g1 1 (by decide), hu2]; exact ps_upI_eq
        · rw [g1 k h6, hu2]; exact va_up_ne _ _ h1
        · rw [g2, if_neg c_62], ps_hp ht hP⟩, hS.F ht⟩) hS.2.2 d_Shelf_answer_87
  · exact absurd c_30 (ps_nI_m1 (by omega))
