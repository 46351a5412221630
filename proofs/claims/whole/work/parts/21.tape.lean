theorem cl_Tape_57 : (.constantLong R_Tape 57 (255) : Cond) ∈ ps_tb := ps_in 161 (by decide +kernel) rfl
theorem fl_Tape_15 : (.fieldLink R_Tape 15 R_Tape "size" "I" : Cond) ∈ ps_tb := ps_in 33 (by decide +kernel) rfl
theorem fl_Tape_11 : (.fieldLink R_Tape 11 R_Tape "signs" "[I" : Cond) ∈ ps_tb := ps_in 32 (by decide +kernel) rfl
theorem ml_Tape_45 : (.methodLink R_Tape 45 y_Tape_signAt : Cond) ∈ ps_tb := ps_in 306 (by decide +kernel) rfl
theorem co_Tape_signAt : (.code y_Tape_signAt b_Tape_signAt 2 (some .int) : Cond) ∈ ps_tb := ps_in 309 (by decide +kernel) rfl
theorem in_Tape : (.initialized R_Tape : Cond) ∈ ps_tb := ps_in 2 (by decide +kernel) rfl
theorem im_Tape_signAt : (.instanceMethod y_Tape_signAt : Cond) ∈ ps_tb := ps_in 308 (by decide +kernel) rfl
theorem se_Tape_signAt : (.selects R_Tape y_Tape_signAt y_Tape_signAt : Cond) ∈ ps_tb := ps_inS 6 (by decide +kernel) rfl
theorem ml_Tape_63 : (.methodLink R_Tape 63 y_Tape_endOfDigits : Cond) ∈ ps_tb := ps_in 352 (by decide +kernel) rfl
theorem co_Tape_endOfDigits : (.code y_Tape_endOfDigits b_Tape_endOfDigits 3 (some .int) : Cond) ∈ ps_tb := ps_in 355 (by decide +kernel) rfl
theorem im_Tape_endOfDigits : (.instanceMethod y_Tape_endOfDigits : Cond) ∈ ps_tb := ps_in 354 (by decide +kernel) rfl
theorem se_Tape_endOfDigits : (.selects R_Tape y_Tape_endOfDigits y_Tape_endOfDigits : Cond) ∈ ps_tb := ps_inS 8 (by decide +kernel) rfl
theorem ml_Tape_66 : (.methodLink R_Tape 66 y_Tape_numberIn : Cond) ∈ ps_tb := ps_in 356 (by decide +kernel) rfl
theorem co_Tape_numberIn : (.code y_Tape_numberIn b_Tape_numberIn 5 (some .int) : Cond) ∈ ps_tb := ps_in 359 (by decide +kernel) rfl
theorem im_Tape_numberIn : (.instanceMethod y_Tape_numberIn : Cond) ∈ ps_tb := ps_in 358 (by decide +kernel) rfl
theorem se_Tape_numberIn : (.selects R_Tape y_Tape_numberIn y_Tape_numberIn : Cond) ∈ ps_tb := ps_inS 9 (by decide +kernel) rfl
theorem fl_Tape_19 : (.fieldLink R_Tape 19 R_Tape "before" "[I" : Cond) ∈ ps_tb := ps_in 34 (by decide +kernel) rfl
theorem fl_Tape_22 : (.fieldLink R_Tape 22 R_Tape "behind" "[I" : Cond) ∈ ps_tb := ps_in 35 (by decide +kernel) rfl
theorem ml_Tape_49 : (.methodLink R_Tape 49 Lib.Math.max.name : Cond) ∈ ps_tb := ps_in 449 (by decide +kernel) rfl
theorem ml_Tape_54 : (.methodLink R_Tape 54 Lib.Math.min.name : Cond) ∈ ps_tb := ps_in 454 (by decide +kernel) rfl
theorem ml_Tape_25 : (.methodLink R_Tape 25 y_Tape_byteOf : Cond) ∈ ps_tb := ps_in 158 (by decide +kernel) rfl
theorem co_Tape_byteOf : (.code y_Tape_byteOf b_Tape_byteOf 3 (some .int) : Cond) ∈ ps_tb := ps_in 160 (by decide +kernel) rfl
theorem st_Tape_byteOf : (.static y_Tape_byteOf : Cond) ∈ ps_tb := ps_in 159 (by decide +kernel) rfl
theorem cs_Tape_byteOf : y_Tape_byteOf.cls ≠ "java/lang/invoke/MethodHandle" ∧ y_Tape_byteOf.cls ≠ "java/lang/invoke/VarHandle" ∧ (parseMethodDescriptor y_Tape_byteOf.desc).map (fun d => d.parameters.length) = some 2 := by decide +kernel
theorem cd_Tape_endOfDigits : y_Tape_endOfDigits.cls = R_Tape ∧ y_Tape_endOfDigits.cls ≠ "java/lang/invoke/MethodHandle" ∧ y_Tape_endOfDigits.cls ≠ "java/lang/invoke/VarHandle" ∧ (parseMethodDescriptor y_Tape_endOfDigits.desc).map (fun d => d.parameters.length) = some 1 := by decide +kernel
theorem cd_Tape_numberIn : y_Tape_numberIn.cls = R_Tape ∧ y_Tape_numberIn.cls ≠ "java/lang/invoke/MethodHandle" ∧ y_Tape_numberIn.cls ≠ "java/lang/invoke/VarHandle" ∧ (parseMethodDescriptor y_Tape_numberIn.desc).map (fun d => d.parameters.length) = some 2 := by decide +kernel
theorem cd_Tape_signAt : y_Tape_signAt.cls = R_Tape ∧ y_Tape_signAt.cls ≠ "java/lang/invoke/MethodHandle" ∧ y_Tape_signAt.cls ≠ "java/lang/invoke/VarHandle" ∧ (parseMethodDescriptor y_Tape_signAt.desc).map (fun d => d.parameters.length) = some 1 := by decide +kernel
def rm_Tape_byteOf : Room := { frames := 0, cells := 0, slots := 0, locals := 0 }
abbrev ws_Tape_byteOf : List Cond := .code y_Tape_byteOf b_Tape_byteOf 3 (some .int) :: ps_tb
set_option maxHeartbeats 4000000 in
set_option maxRecDepth 100000 in
theorem c_Tape_byteOf {l : Launch} (x : Int64) (j : Nat) (hj : j < 8) : Met l y_Tape_byteOf ws_Tape_byteOf rm_Tape_byteOf (va_Pc [.long x, .int (nI j)] (fun _ => True)) (vp_Si (fun r => r = nI (ps_by x j))) 0 0 (fun _ => False) := by
  refine ps_met (by decide) ?_
  intro p e s m args below meth c hx hb hr hml hts hown hlocks hname hv Q hQ
  obtain ⟨ha, -⟩ := hv
  have hT : ∀ w ∈ ps_tb, w.before args s = true := fun w h => hts w (List.mem_cons_of_mem _ h)
  have hown : s.vm.findClass R_Tape = some m.cls := hown
  refine ps_enter ha (Nat.le_of_ble_eq_true rfl) (fun ls hl => ?_)
  have hl : lv_has ls 3 [(0, .long x), (2, .int (nI j))] := hl
  obtain ⟨n, hn, rfl⟩ := wb_of x
  refine lv_lload_n hx hb d_Tape_byteOf_0 rfl (lv_at hl 0 rfl) ?_
  refine lv_bipush (v := nI 8) hx hb d_Tape_byteOf_1 (by decide) ?_
  refine lv_iload_n hx hb d_Tape_byteOf_3 rfl (lv_at hl 1 rfl) ?_
  refine lv_imul hx hb d_Tape_byteOf_4 ?_
  refine ps_seti (y := nI (8 * j)) (pk_mul 8 j) ?_
  refine lv_lushr (v := ((lN n).toUInt64 >>> ((nI (8 * j)).toInt64.toUInt64 &&& Int64.toUInt64 63)).toInt64) hx hb d_Tape_byteOf_5 rfl ?_
  refine ps_setl (y := lN (n / 2 ^ (8 * j))) (wb_shr hn (by omega)) ?_
  refine lv_ldc2 (v := (255)) hx hb hown (hT _ cl_Tape_57) d_Tape_byteOf_6 ?_
  refine lv_land hx hb d_Tape_byteOf_9 ?_
  refine ps_setl (y := lN (n / 2 ^ (8 * j) % 256)) (ps_k255 (Nat.lt_of_le_of_lt (Nat.div_le_self _ _) hn)) ?_
  refine lv_l2i (v := (lN (n / 2 ^ (8 * j) % 256)).toInt32) hx hb d_Tape_byteOf_10 rfl ?_
  refine ps_seti (y := nI (n / 2 ^ (8 * j) % 256)) (lN_i _) ?_
  rw [hQ]
  exact W.iret (v := nI (n / 2 ^ (8 * j) % 256)) hx hb hr (fun zt ht _ => ⟨_, rfl, by unfold ps_by; rw [wb_tn hn], ht⟩) (fun q h => absurd h List.not_mem_nil) d_Tape_byteOf_11

def rm_Tape_clear : Room := { frames := 0, cells := 0, slots := 0, locals := 0 }
abbrev ws_Tape_clear : List Cond := .code y_Tape_clear b_Tape_clear 1 none :: ps_tb
set_option maxHeartbeats 4000000 in
set_option maxRecDepth 100000 in
theorem c_Tape_clear {l : Launch} {D : va_G} {g : Nat → Nat} {cI cJ cT : ClassId} {σ : ps_σ} (hg : ps_inj 33 g)  : Met l y_Tape_clear ws_Tape_clear rm_Tape_clear (ps_Pc D ps_cl (ps_tys cI cJ cT) 33 g (ps_E g cI cJ cT σ) [.ref (g 1)]) (ps_Qv (S := ps_σ) D ps_cl 33 g (fun u => ps_E g cI cJ cT u) (fun u => u = ps_upI σ 1 1 (nI 0))) 0 0 (ps_wA 33 g) := by
  refine ps_met (by decide) ?_
  intro p e s m args below meth c hx hb hr hml hts hown hlocks hname hv Q hQ
  obtain ⟨ha, hP, hK⟩ := hv
  have hT : ∀ w ∈ ps_tb, w.before args s = true := fun w h => hts w (List.mem_cons_of_mem _ h)
  have hown : s.vm.findClass R_Tape = some m.cls := hown
  have hS : va_S (ps_wA 33 g) s.heap s.heap [] := va_S.rf
  refine ps_enter ha (Nat.le_of_ble_eq_true rfl) (fun ls hl => ?_)
  have hl : lv_has ls 1 [(0, .ref (g 1))] := hl
  refine lv_aload_n hx hb d_Tape_clear_0 rfl (lv_at hl 0 rfl) ?_
  refine lv_iconst (v := nI 0) hx hb d_Tape_clear_1 (by decide) ?_
  refine ps_put (v := .int (nI 0)) (ty := .int) hx hb hT i_Tape t_Tape t_Tape_ok n_Tape hown hK hg hP hS (k := 1) (by omega) ps_E_1 rfl 1 (by decide) (hT _ fl_Tape_15) (fun _ h9 => h9) rfl (by decide +kernel) rfl rfl (Nat.le_of_ble_eq_true rfl) d_Tape_clear_2 (ps_E g cI cJ cT (ps_upI σ 1 1 (nI 0))) rfl (fun i _ h => by apply ps_E_ext <;> first | rfl | simp [ps_upI, ps_upU, ps_upA, ps_upB, va_up, h]) (fun H locs hP hS => ?_)
  rw [hQ]
  exact W.vret hx hb hr (fun zt ht _ => ⟨⟨_, rfl, rfl, ps_hp ht hP⟩, hS.F ht⟩) hS.2.2 d_Tape_clear_5

def rm_Tape_signAt : Room := { frames := 0, cells := 0, slots := 0, locals := 0 }
abbrev ws_Tape_signAt : List Cond := .code y_Tape_signAt b_Tape_signAt 2 (some .int) :: ps_tb
set_option maxHeartbeats 4000000 in
set_option maxRecDepth 100000 in
theorem c_Tape_signAt {l : Launch} {D : va_G} {g : Nat → Nat} {cI cJ cT : ClassId} {σ : ps_σ} (n : Nat) (hn : σ.1 1 1 = nI n) (hn60 : n ≤ 60) (i : Nat) (hi : i < 2 ^ 31) : Met l y_Tape_signAt ws_Tape_signAt rm_Tape_signAt (ps_Pc D ps_cl (ps_tys cI cJ cT) 33 g (ps_E g cI cJ cT σ) [.ref (g 1), .int (nI i)]) (vp_Si (fun r => r = ps_sg (σ.2.2.1 2) n i)) 0 0 (fun _ => False) := by
  refine ps_met (by decide) ?_
  intro p e s m args below meth c hx hb hr hml hts hown hlocks hname hv Q hQ
  obtain ⟨ha, hP, hK⟩ := hv
  have hT : ∀ w ∈ ps_tb, w.before args s = true := fun w h => hts w (List.mem_cons_of_mem _ h)
  have hown : s.vm.findClass R_Tape = some m.cls := hown
  refine ps_enter ha (Nat.le_of_ble_eq_true rfl) (fun ls hl => ?_)
  have hl : lv_has ls 2 [(0, .ref (g 1)), (1, .int (nI i))] := hl
  refine lv_iload_n hx hb d_Tape_signAt_0 rfl (lv_at hl 1 rfl) ?_
  refine lv_if_lt (tgt := 12) hx hb d_Tape_signAt_1 (by decide) (fun c_1 => ?_) (fun c_1 => ?_)
  · exact absurd c_1 (nI_pos hi)
  · refine lv_iload_n hx hb d_Tape_signAt_4 rfl (lv_at hl 1 rfl) ?_
    refine lv_aload_n hx hb d_Tape_signAt_5 rfl (lv_at hl 0 rfl) ?_
    refine ps_get (v := .int (σ.1 1 1)) hx hb hT i_Tape hown hK hP (k := 1) (by omega) ps_E_1 rfl 1 (by decide) (hT _ fl_Tape_15) (fun _ h9 => h9) rfl d_Tape_signAt_6 ?_
    refine ps_seti (y := nI n) hn ?_
    refine lv_icmp_lt (tgt := 16) hx hb d_Tape_signAt_9 (by decide) (fun c_9 => ?_) (fun c_9 => ?_)
    · have hin : i < n := ps_ltT c_9 hi (by omega)
      have hp : ps_sg (σ.2.2.1 2) n i = σ.2.2.1 2 i := by unfold ps_sg; rw [if_pos hin]
      refine lv_aload_n hx hb d_Tape_signAt_16 rfl (lv_at hl 0 rfl) ?_
      refine ps_get (v := .ref (g 2)) hx hb hT i_Tape hown hK hP (k := 1) (by omega) ps_E_1 rfl 0 (by decide) (hT _ fl_Tape_11) (fun _ h9 => h9) rfl d_Tape_signAt_17 ?_
      refine lv_iload_n hx hb d_Tape_signAt_20 rfl (lv_at hl 1 rfl) ?_
      refine ps_iald (f := σ.2.2.1 2) hx hb hK hP (k := 2) (by omega) 0 ps_E_2 rfl (i := i) (by omega) (by decide) d_Tape_signAt_21 ?_
      rw [hQ]
      exact W.iret (v := σ.2.2.1 2 i) hx hb hr (fun zt ht _ => ⟨_, rfl, hp.symm, ht⟩) (fun q h => absurd h List.not_mem_nil) d_Tape_signAt_22
    · have hin : n ≤ i := ps_leOf c_9 hi (by omega)
      have hp : ps_sg (σ.2.2.1 2) n i = -1 := by unfold ps_sg; rw [if_neg (by omega)]
      refine lv_iconst (v := -1) hx hb d_Tape_signAt_12 (by decide) ?_
      refine lv_goto (tgt := 22) hx hb d_Tape_signAt_13 (by decide) ?_
      rw [hQ]
      exact W.iret (v := -1) hx hb hr (fun zt ht _ => ⟨_, rfl, hp.symm, ht⟩) (fun q h => absurd h List.not_mem_nil) d_Tape_signAt_22

def rm_Tape_endOfDigits : Room := { frames := 1, cells := 0, slots := 0, locals := 21 }
abbrev ws_Tape_endOfDigits : List Cond := .code y_Tape_endOfDigits b_Tape_endOfDigits 3 (some .int) :: ps_tb
set_option maxHeartbeats 4000000 in
set_option maxRecDepth 100000 in
theorem c_Tape_endOfDigits {l : Launch} {D : va_G} {g : Nat → Nat} {cI cJ cT : ClassId} {σ : ps_σ} (n : Nat) (hn : σ.1 1 1 = nI n) (hn60 : n ≤ 60) (a : Nat) (ha1 : a < 2 ^ 30) : Met l y_Tape_endOfDigits ws_Tape_endOfDigits rm_Tape_endOfDigits (ps_Pc D ps_cl (ps_tys cI cJ cT) 33 g (ps_E g cI cJ cT σ) [.ref (g 1), .int (nI a)]) (vp_Si (fun r => r = nI (ps_edF (σ.2.2.1 2) n 5 a))) 0 0 (fun _ => False) := by
  refine ps_met (by decide) ?_
  intro p e s m args below meth c hx hb hr hml hts hown hlocks hname hv Q hQ
  obtain ⟨ha, hP, hK⟩ := hv
  have hT : ∀ w ∈ ps_tb, w.before args s = true := fun w h => hts w (List.mem_cons_of_mem _ h)
  have hown : s.vm.findClass R_Tape = some m.cls := hown
  refine ps_enter ha (Nat.le_of_ble_eq_true rfl) (fun ls hl => ?_)
  have hl : lv_has ls 3 [(0, .ref (g 1)), (1, .int (nI a))] := hl
  refine lv_iload_n hx hb d_Tape_endOfDigits_0 rfl (lv_at hl 1 rfl) ?_
  refine lv_istore_n (lv' := [(2, .int (nI a)), (0, .ref (g 1)), (1, .int (nI a))]) hx hb d_Tape_endOfDigits_1 rfl hl (by decide) rfl (fun ls hl => ?_)
  have L_a : ∀ (n_a : Nat) (j : Nat), (j ≤ 5) → (ps_edF (σ.2.2.1 2) n 5 a = ps_edF (σ.2.2.1 2) n (5 - j) (a + j)) → 5 - j < n_a → ∀ (ls : Array Slot), lv_has ls 3 [(0, .ref (g 1)), (1, .int (nI a)), (2, .int (nI (a + j)))] → W p l e rm_Tape_endOfDigits s m args below meth c s.heap [] 0 0 Q (F0 m 2 ls []) := by
    intro n_a
    induction n_a with
    | zero => intro j hj he hf_a; exact absurd hf_a (Nat.not_lt_zero _)
    | succ n_a ih_a =>
      intro j hj he hf_a ls hl
      refine lv_iload_n hx hb d_Tape_endOfDigits_2 rfl (lv_at hl 2 rfl) ?_
      refine lv_iload_n hx hb d_Tape_endOfDigits_3 rfl (lv_at hl 1 rfl) ?_
      refine lv_iconst (v := nI 5) hx hb d_Tape_endOfDigits_4 (by decide) ?_
      refine lv_iadd hx hb d_Tape_endOfDigits_5 ?_
      refine ps_seti (y := nI (a + 5)) (nI_add a 5) ?_
      refine lv_icmp_ge (tgt := 35) hx hb d_Tape_endOfDigits_6 (by decide) (fun c_6 => ?_) (fun c_6 => ?_)
      · have hj5 : j = 5 := by have := ps_leT c_6 (by omega) (by omega); omega
        have hp : ps_edF (σ.2.2.1 2) n 5 a = a + j := by rw [he, hj5]; rfl
        refine lv_iload_n hx hb d_Tape_endOfDigits_35 rfl (lv_at hl 2 rfl) ?_
        rw [hQ]
        exact W.iret (v := nI (a + j)) hx hb hr (fun zt ht _ => ⟨_, rfl, by rw [hp], ht⟩) (fun q h => absurd h List.not_mem_nil) d_Tape_endOfDigits_36
      · have hj5 : j < 5 := by have := ps_ltOf c_6 (by omega) (by omega); omega
        refine lv_aload_n hx hb d_Tape_endOfDigits_9 rfl (lv_at hl 0 rfl) ?_
        refine lv_iload_n hx hb d_Tape_endOfDigits_10 rfl (lv_at hl 2 rfl) ?_
        refine ps_roi (k := 1) (As := [.int (nI (a + j))]) (rest := []) ⟨hx, hb, hml, hown, hT⟩ (c_Tape_signAt n hn hn60 (a + j) (by omega)) (cwV 1 hT (ps_gV ml_Tape_45 im_Tape_signAt se_Tape_signAt in_Tape co_Tape_signAt) rfl rfl rfl cd_Tape_signAt ⟨Nat.le_of_ble_eq_true rfl, Nat.le_of_ble_eq_true rfl⟩) hK hP (by omega) ps_E_1 rfl rfl hl.1 rfl (Nat.le_of_ble_eq_true rfl) d_Tape_endOfDigits_11 ⟨Nat.zero_le _, Nat.zero_le _⟩ (fun rr hrr => ?_)
        subst hrr
        refine lv_bipush (v := nI 48) hx hb d_Tape_endOfDigits_14 (by decide) ?_
        refine lv_icmp_lt (tgt := 35) hx hb d_Tape_endOfDigits_16 (by decide) (fun c_16 => ?_) (fun c_16 => ?_)
        · have hp : ps_edF (σ.2.2.1 2) n 5 a = a + j := by rw [he, ps_edF_no (ps_isd_lo c_16)]
          refine lv_iload_n hx hb d_Tape_endOfDigits_35 rfl (lv_at hl 2 rfl) ?_
          rw [hQ]
          exact W.iret (v := nI (a + j)) hx hb hr (fun zt ht _ => ⟨_, rfl, by rw [hp], ht⟩) (fun q h => absurd h List.not_mem_nil) d_Tape_endOfDigits_36
        · refine lv_aload_n hx hb d_Tape_endOfDigits_19 rfl (lv_at hl 0 rfl) ?_
          refine lv_iload_n hx hb d_Tape_endOfDigits_20 rfl (lv_at hl 2 rfl) ?_
          refine ps_roi (k := 1) (As := [.int (nI (a + j))]) (rest := []) ⟨hx, hb, hml, hown, hT⟩ (c_Tape_signAt n hn hn60 (a + j) (by omega)) (cwV 1 hT (ps_gV ml_Tape_45 im_Tape_signAt se_Tape_signAt in_Tape co_Tape_signAt) rfl rfl rfl cd_Tape_signAt ⟨Nat.le_of_ble_eq_true rfl, Nat.le_of_ble_eq_true rfl⟩) hK hP (by omega) ps_E_1 rfl rfl hl.1 rfl (Nat.le_of_ble_eq_true rfl) d_Tape_endOfDigits_21 ⟨Nat.zero_le _, Nat.zero_le _⟩ (fun rr hrr => ?_)
          subst hrr
          refine lv_bipush (v := nI 57) hx hb d_Tape_endOfDigits_24 (by decide) ?_
          refine lv_icmp_gt (tgt := 35) hx hb d_Tape_endOfDigits_26 (by decide) (fun c_26 => ?_) (fun c_26 => ?_)
          · have hp : ps_edF (σ.2.2.1 2) n 5 a = a + j := by rw [he, ps_edF_no (ps_isd_hi c_26)]
            refine lv_iload_n hx hb d_Tape_endOfDigits_35 rfl (lv_at hl 2 rfl) ?_
            rw [hQ]
            exact W.iret (v := nI (a + j)) hx hb hr (fun zt ht _ => ⟨_, rfl, by rw [hp], ht⟩) (fun q h => absurd h List.not_mem_nil) d_Tape_endOfDigits_36
          · have hd := ps_isd_in c_16 c_26
            refine lv_iinc (v := (nI ((a + j) + 1))) (lv' := [(2, .int (nI ((a + j) + 1))), (0, .ref (g 1)), (1, .int (nI a))]) hx hb d_Tape_endOfDigits_29 hl (k := 2) rfl (nI_1 _) (by decide) rfl (fun ls hl => ?_)
            refine lv_goto (tgt := 2) hx hb d_Tape_endOfDigits_32 (by decide) ?_
            exact ih_a (j + 1) (by omega) (by rw [he, ps_edF_yes (by omega) hd, show 5 - j - 1 = 5 - (j + 1) by omega]; rfl) (by omega)  ls (lv_sub hl [1, 2, 0] rfl)
  exact L_a (5 - 0 + 1) 0 (by omega) rfl (by omega)  ls (lv_sub hl [1, 2, 0] rfl)

def rm_Tape_numberIn : Room := { frames := 1, cells := 0, slots := 0, locals := 21 }
abbrev ws_Tape_numberIn : List Cond := .code y_Tape_numberIn b_Tape_numberIn 5 (some .int) :: ps_tb
set_option maxHeartbeats 4000000 in
set_option maxRecDepth 100000 in
theorem c_Tape_numberIn {l : Launch} {D : va_G} {g : Nat → Nat} {cI cJ cT : ClassId} {σ : ps_σ} (n : Nat) (hn : σ.1 1 1 = nI n) (hn60 : n ≤ 60) (a b : Nat) (hab : a ≤ b) (hb1 : b < 2 ^ 30) : Met l y_Tape_numberIn ws_Tape_numberIn rm_Tape_numberIn (ps_Pc D ps_cl (ps_tys cI cJ cT) 33 g (ps_E g cI cJ cT σ) [.ref (g 1), .int (nI a), .int (nI b)]) (vp_Si (fun r => r = ps_nm (σ.2.2.1 2) n a b)) 0 0 (fun _ => False) := by
  refine ps_met (by decide) ?_
  intro p e s m args below meth c hx hb hr hml hts hown hlocks hname hv Q hQ
  obtain ⟨ha, hP, hK⟩ := hv
  have hT : ∀ w ∈ ps_tb, w.before args s = true := fun w h => hts w (List.mem_cons_of_mem _ h)
  have hown : s.vm.findClass R_Tape = some m.cls := hown
  refine ps_enter ha (Nat.le_of_ble_eq_true rfl) (fun ls hl => ?_)
  have hl : lv_has ls 5 [(0, .ref (g 1)), (1, .int (nI a)), (2, .int (nI b))] := hl
  refine lv_iload_n hx hb d_Tape_numberIn_0 rfl (lv_at hl 1 rfl) ?_
  refine lv_iload_n hx hb d_Tape_numberIn_1 rfl (lv_at hl 2 rfl) ?_
  refine lv_icmp_ne (tgt := 7) hx hb d_Tape_numberIn_2 (by decide) (fun c_2 => ?_) (fun c_2 => ?_)
  · have hne : ¬ a = b := fun h => c_2 (by rw [h])
    have hp0 : ps_nm (σ.2.2.1 2) n a b = ps_nmF (σ.2.2.1 2) n (b - a) a (nI 0) := by unfold ps_nm; rw [if_neg hne]
    refine lv_iconst (v := nI 0) hx hb d_Tape_numberIn_7 (by decide) ?_
    refine lv_istore_n (lv' := [(3, .int (nI 0)), (0, .ref (g 1)), (1, .int (nI a)), (2, .int (nI b))]) hx hb d_Tape_numberIn_8 rfl hl (by decide) rfl (fun ls hl => ?_)
    refine lv_iload_n hx hb d_Tape_numberIn_9 rfl (lv_at hl 2 rfl) ?_
    refine lv_istore (lv' := [(4, .int (nI a)), (3, .int (nI 0)), (0, .ref (g 1)), (1, .int (nI a)), (2, .int (nI b))]) hx hb d_Tape_numberIn_10 hl (by decide) rfl (fun ls hl => ?_)
    have L_a : ∀ (n_a : Nat) (k : Nat) (v : Int32), (a ≤ k) → (k ≤ b) → (ps_nmF (σ.2.2.1 2) n (b - a) a (nI 0) = ps_nmF (σ.2.2.1 2) n (b - k) k v) → b - k < n_a → ∀ (ls : Array Slot), lv_has ls 5 [(0, .ref (g 1)), (2, .int (nI b)), (3, .int v), (4, .int (nI k))] → W p l e rm_Tape_numberIn s m args below meth c s.heap [] 0 0 Q (F0 m 12 ls []) := by
      intro n_a
      induction n_a with
      | zero => intro k v hk1 hk2 he hf_a; exact absurd hf_a (Nat.not_lt_zero _)
      | succ n_a ih_a =>
        intro k v hk1 hk2 he hf_a ls hl
        refine lv_iload hx hb d_Tape_numberIn_12 (lv_at hl 3 rfl) ?_
        refine lv_iload_n hx hb d_Tape_numberIn_14 rfl (lv_at hl 1 rfl) ?_
        refine lv_icmp_ge (tgt := 39) hx hb d_Tape_numberIn_15 (by decide) (fun c_15 => ?_) (fun c_15 => ?_)
        · have hkb : k = b := by have := ps_leT c_15 (by omega) (by omega); omega
          refine lv_iload_n hx hb d_Tape_numberIn_39 rfl (lv_at hl 2 rfl) ?_
          rw [hQ]
          exact W.iret (v := v) hx hb hr (fun zt ht _ => ⟨_, rfl, by rw [hp0, he, hkb, Nat.sub_self]; rfl, ht⟩) (fun q h => absurd h List.not_mem_nil) d_Tape_numberIn_40
        · have hkb : k < b := by have := ps_ltOf c_15 (by omega) (by omega); omega
          refine lv_iload_n hx hb d_Tape_numberIn_18 rfl (lv_at hl 2 rfl) ?_
          refine lv_bipush (v := nI 10) hx hb d_Tape_numberIn_19 (by decide) ?_
          refine lv_imul hx hb d_Tape_numberIn_21 ?_
          refine lv_aload_n hx hb d_Tape_numberIn_22 rfl (lv_at hl 0 rfl) ?_
          refine lv_iload hx hb d_Tape_numberIn_23 (lv_at hl 3 rfl) ?_
          refine ps_roi (k := 1) (As := [.int (nI k)]) (rest := [.int (v * (nI 10))]) ⟨hx, hb, hml, hown, hT⟩ (c_Tape_signAt n hn hn60 (k) (by omega)) (cwV 1 hT (ps_gV ml_Tape_45 im_Tape_signAt se_Tape_signAt in_Tape co_Tape_signAt) rfl rfl rfl cd_Tape_signAt ⟨Nat.le_of_ble_eq_true rfl, Nat.le_of_ble_eq_true rfl⟩) hK hP (by omega) ps_E_1 rfl rfl hl.1 rfl (Nat.le_of_ble_eq_true rfl) d_Tape_numberIn_25 ⟨Nat.zero_le _, Nat.zero_le _⟩ (fun rr hrr => ?_)
          subst hrr
          refine lv_iadd hx hb d_Tape_numberIn_28 ?_
          refine lv_bipush (v := nI 48) hx hb d_Tape_numberIn_29 (by decide) ?_
          refine lv_isub hx hb d_Tape_numberIn_31 ?_
          refine lv_istore_n (lv' := [(3, .int (((v * (nI 10)) + (ps_sg (σ.2.2.1 2) n (k))) - (nI 48))), (0, .ref (g 1)), (2, .int (nI b)), (4, .int (nI k))]) hx hb d_Tape_numberIn_32 rfl hl (by decide) rfl (fun ls hl => ?_)
          refine lv_iinc (v := (nI (k + 1))) (lv' := [(4, .int (nI (k + 1))), (3, .int (((v * (nI 10)) + (ps_sg (σ.2.2.1 2) n (k))) - (nI 48))), (0, .ref (g 1)), (2, .int (nI b))]) hx hb d_Tape_numberIn_33 hl (k := 3) rfl (nI_1 _) (by decide) rfl (fun ls hl => ?_)
          refine lv_goto (tgt := 12) hx hb d_Tape_numberIn_36 (by decide) ?_
          exact ih_a (k + 1) ((v * nI 10 + ps_sg (σ.2.2.1 2) n k) - nI 48) (by omega) (by omega) (by rw [he, show b - k = (b - (k + 1)) + 1 by omega]; rfl) (by omega)  ls (lv_sub hl [2, 3, 1, 0] rfl)
    exact L_a (b - a + 1) a (nI 0) (Nat.le_refl a) hab rfl (by omega)  ls (lv_sub hl [2, 4, 1, 0] rfl)
  · have hne : a = b := (nI_eq (by omega) (by omega)).mp c_2
    have hp0 : ps_nm (σ.2.2.1 2) n a b = -1 := by unfold ps_nm; rw [if_pos hne]
    refine lv_iconst (v := -1) hx hb d_Tape_numberIn_5 (by decide) ?_
    rw [hQ]
    exact W.iret (v := -1) hx hb hr (fun zt ht _ => ⟨_, rfl, hp0.symm, ht⟩) (fun q h => absurd h List.not_mem_nil) d_Tape_numberIn_6

def rm_Tape_readPart : Room := { frames := 2, cells := 0, slots := 0, locals := 45 }
abbrev ws_Tape_readPart : List Cond := .code y_Tape_readPart b_Tape_readPart 9 (some .int) :: ps_tb
set_option maxHeartbeats 4000000 in
set_option maxRecDepth 100000 in
theorem c_Tape_readPart {l : Launch} {D : va_G} {g : Nat → Nat} {cI cJ cT : ClassId} {σ : ps_σ} (hg : ps_inj 33 g) (n : Nat) (hn : σ.1 1 1 = nI n) (hn60 : n ≤ 60) (j : Nat) (hj : j < 6) (a : Nat) (ha1 : a < 2 ^ 29) : Met l y_Tape_readPart ws_Tape_readPart rm_Tape_readPart (ps_Pc D ps_cl (ps_tys cI cJ cT) 33 g (ps_E g cI cJ cT σ) [.ref (g 1), .int (nI j), .int (nI a)]) (ps_Qi (S := ps_σ) D ps_cl 33 g (fun u => ps_E g cI cJ cT u) (fun r u => (∃ E lo hi, ps_rp (σ.2.2.1 2) n a = some (E, lo, hi) ∧ r = nI E ∧ u = ps_upA (ps_upA σ 3 (va_up (σ.2.2.1 3) j lo)) 4 (va_up (σ.2.2.1 4) j hi)) ∨ (ps_rp (σ.2.2.1 2) n a = none ∧ r = -1 ∧ u = σ))) 0 0 (ps_wA 33 g) := by
  refine ps_met (by decide) ?_
  intro p e s m args below meth c hx hb hr hml hts hown hlocks hname hv Q hQ
  obtain ⟨ha, hP, hK⟩ := hv
  have hT : ∀ w ∈ ps_tb, w.before args s = true := fun w h => hts w (List.mem_cons_of_mem _ h)
  have hown : s.vm.findClass R_Tape = some m.cls := hown
  have hS : va_S (ps_wA 33 g) s.heap s.heap [] := va_S.rf
  refine ps_enter ha (Nat.le_of_ble_eq_true rfl) (fun ls hl => ?_)
  have hl : lv_has ls 9 [(0, .ref (g 1)), (1, .int (nI j)), (2, .int (nI a))] := hl
  have hD := ps_edF_ge (σ.2.2.1 2) n 5 a
  have hE := ps_edF_ge (σ.2.2.1 2) n 5 (ps_edF (σ.2.2.1 2) n 5 a + 1)
  refine lv_aload_n hx hb d_Tape_readPart_0 rfl (lv_at hl 0 rfl) ?_
  refine lv_iload_n hx hb d_Tape_readPart_1 rfl (lv_at hl 2 rfl) ?_
  refine ps_roi (k := 1) (As := [.int (nI a)]) (rest := []) ⟨hx, hb, hml, hown, hT⟩ (c_Tape_endOfDigits n hn hn60 a (by omega)) (cwV 1 hT (ps_gV ml_Tape_63 im_Tape_endOfDigits se_Tape_endOfDigits in_Tape co_Tape_endOfDigits) rfl rfl rfl cd_Tape_endOfDigits ⟨Nat.le_of_ble_eq_true rfl, Nat.le_of_ble_eq_true rfl⟩) hK hP (by omega) ps_E_1 rfl rfl hl.1 rfl (Nat.le_of_ble_eq_true rfl) d_Tape_readPart_2 ⟨Nat.zero_le _, Nat.zero_le _⟩ (fun rr hrr => ?_)
  subst hrr
  refine lv_istore_n (lv' := [(3, .int (nI (ps_edF (σ.2.2.1 2) n 5 a))), (0, .ref (g 1)), (1, .int (nI j)), (2, .int (nI a))]) hx hb d_Tape_readPart_5 rfl hl (by decide) rfl (fun ls hl => ?_)
  refine lv_aload_n hx hb d_Tape_readPart_6 rfl (lv_at hl 1 rfl) ?_
  refine lv_iload_n hx hb d_Tape_readPart_7 rfl (lv_at hl 0 rfl) ?_
  refine ps_roi (k := 1) (As := [.int (nI (ps_edF (σ.2.2.1 2) n 5 a))]) (rest := []) ⟨hx, hb, hml, hown, hT⟩ (c_Tape_signAt n hn hn60 (ps_edF (σ.2.2.1 2) n 5 a) (by omega)) (cwV 1 hT (ps_gV ml_Tape_45 im_Tape_signAt se_Tape_signAt in_Tape co_Tape_signAt) rfl rfl rfl cd_Tape_signAt ⟨Nat.le_of_ble_eq_true rfl, Nat.le_of_ble_eq_true rfl⟩) hK hP (by omega) ps_E_1 rfl rfl hl.1 rfl (Nat.le_of_ble_eq_true rfl) d_Tape_readPart_8 ⟨Nat.zero_le _, Nat.zero_le _⟩ (fun rr hrr => ?_)
  subst hrr
  refine lv_bipush (v := nI 45) hx hb d_Tape_readPart_11 (by decide) ?_
  refine lv_icmp_ne (tgt := 26) hx hb d_Tape_readPart_13 (by decide) (fun c_13 => ?_) (fun c_13 => ?_)
  · have hds := c_13
    refine lv_iconst (v := -1) hx hb d_Tape_readPart_26 (by decide) ?_
    rw [hQ]
    exact W.iret (v := -1) hx hb hr (fun zt ht _ => ⟨⟨_, _, rfl, Or.inr ⟨ps_rp_no hds, rfl, rfl⟩, ps_hp ht hP⟩, hS.F ht⟩) hS.2.2 d_Tape_readPart_27
  · have hds := c_13
    refine lv_iload_n hx hb d_Tape_readPart_16 rfl (lv_at hl 2 rfl) ?_
    refine lv_if_lt (tgt := 26) hx hb d_Tape_readPart_17 (by decide) (fun c_17 => ?_) (fun c_17 => ?_)
    · exact absurd c_17 (nI_pos (by omega))
    · refine lv_iload_n hx hb d_Tape_readPart_20 rfl (lv_at hl 2 rfl) ?_
      refine lv_bipush (v := nI 6) hx hb d_Tape_readPart_21 (by decide) ?_
      refine lv_icmp_lt (tgt := 28) hx hb d_Tape_readPart_23 (by decide) (fun c_23 => ?_) (fun c_23 => ?_)
      · refine lv_aload_n hx hb d_Tape_readPart_28 rfl (lv_at hl 1 rfl) ?_
        refine lv_iload_n hx hb d_Tape_readPart_29 rfl (lv_at hl 0 rfl) ?_
        refine lv_iconst (v := nI 1) hx hb d_Tape_readPart_30 (by decide) ?_
        refine lv_iadd hx hb d_Tape_readPart_31 ?_
        refine ps_seti (y := nI (ps_edF (σ.2.2.1 2) n 5 a + 1)) (nI_1 _) ?_
        refine ps_roi (k := 1) (As := [.int (nI (ps_edF (σ.2.2.1 2) n 5 a + 1))]) (rest := []) ⟨hx, hb, hml, hown, hT⟩ (c_Tape_endOfDigits n hn hn60 (ps_edF (σ.2.2.1 2) n 5 a + 1) (by omega)) (cwV 1 hT (ps_gV ml_Tape_63 im_Tape_endOfDigits se_Tape_endOfDigits in_Tape co_Tape_endOfDigits) rfl rfl rfl cd_Tape_endOfDigits ⟨Nat.le_of_ble_eq_true rfl, Nat.le_of_ble_eq_true rfl⟩) hK hP (by omega) ps_E_1 rfl rfl hl.1 rfl (Nat.le_of_ble_eq_true rfl) d_Tape_readPart_32 ⟨Nat.zero_le _, Nat.zero_le _⟩ (fun rr hrr => ?_)
        subst hrr
        refine lv_istore (lv' := [(4, .int (nI (ps_edF (σ.2.2.1 2) n 5 (ps_edF (σ.2.2.1 2) n 5 a + 1)))), (3, .int (nI (ps_edF (σ.2.2.1 2) n 5 a))), (0, .ref (g 1)), (1, .int (nI j)), (2, .int (nI a))]) hx hb d_Tape_readPart_35 hl (by decide) rfl (fun ls hl => ?_)
        refine lv_aload_n hx hb d_Tape_readPart_37 rfl (lv_at hl 2 rfl) ?_
        refine lv_iload_n hx hb d_Tape_readPart_38 rfl (lv_at hl 4 rfl) ?_
        refine lv_iload_n hx hb d_Tape_readPart_39 rfl (lv_at hl 1 rfl) ?_
        refine ps_roi (k := 1) (As := [.int (nI a), .int (nI (ps_edF (σ.2.2.1 2) n 5 a))]) (rest := []) ⟨hx, hb, hml, hown, hT⟩ (c_Tape_numberIn n hn hn60 a (ps_edF (σ.2.2.1 2) n 5 a) hD.1 (by omega)) (cwV 2 hT (ps_gV ml_Tape_66 im_Tape_numberIn se_Tape_numberIn in_Tape co_Tape_numberIn) rfl rfl rfl cd_Tape_numberIn ⟨Nat.le_of_ble_eq_true rfl, Nat.le_of_ble_eq_true rfl⟩) hK hP (by omega) ps_E_1 rfl rfl hl.1 rfl (Nat.le_of_ble_eq_true rfl) d_Tape_readPart_40 ⟨Nat.zero_le _, Nat.zero_le _⟩ (fun rr hrr => ?_)
        subst hrr
        refine lv_istore (lv' := [(5, .int (ps_nm (σ.2.2.1 2) n a (ps_edF (σ.2.2.1 2) n 5 a))), (4, .int (nI (ps_edF (σ.2.2.1 2) n 5 (ps_edF (σ.2.2.1 2) n 5 a + 1)))), (3, .int (nI (ps_edF (σ.2.2.1 2) n 5 a))), (0, .ref (g 1)), (1, .int (nI j)), (2, .int (nI a))]) hx hb d_Tape_readPart_43 hl (by decide) rfl (fun ls hl => ?_)
        refine lv_aload_n hx hb d_Tape_readPart_45 rfl (lv_at hl 3 rfl) ?_
        refine lv_iload_n hx hb d_Tape_readPart_46 rfl (lv_at hl 2 rfl) ?_
        refine lv_iconst (v := nI 1) hx hb d_Tape_readPart_47 (by decide) ?_
        refine lv_iadd hx hb d_Tape_readPart_48 ?_
        refine ps_seti (y := nI (ps_edF (σ.2.2.1 2) n 5 a + 1)) (nI_1 _) ?_
        refine lv_iload hx hb d_Tape_readPart_49 (lv_at hl 1 rfl) ?_
        refine ps_roi (k := 1) (As := [.int (nI (ps_edF (σ.2.2.1 2) n 5 a + 1)), .int (nI (ps_edF (σ.2.2.1 2) n 5 (ps_edF (σ.2.2.1 2) n 5 a + 1)))]) (rest := []) ⟨hx, hb, hml, hown, hT⟩ (c_Tape_numberIn n hn hn60 (ps_edF (σ.2.2.1 2) n 5 a + 1) (ps_edF (σ.2.2.1 2) n 5 (ps_edF (σ.2.2.1 2) n 5 a + 1)) hE.1 (by omega)) (cwV 2 hT (ps_gV ml_Tape_66 im_Tape_numberIn se_Tape_numberIn in_Tape co_Tape_numberIn) rfl rfl rfl cd_Tape_numberIn ⟨Nat.le_of_ble_eq_true rfl, Nat.le_of_ble_eq_true rfl⟩) hK hP (by omega) ps_E_1 rfl rfl hl.1 rfl (Nat.le_of_ble_eq_true rfl) d_Tape_readPart_51 ⟨Nat.zero_le _, Nat.zero_le _⟩ (fun rr hrr => ?_)
        subst hrr
        refine lv_istore (lv' := [(6, .int (ps_nm (σ.2.2.1 2) n (ps_edF (σ.2.2.1 2) n 5 a + 1) (ps_edF (σ.2.2.1 2) n 5 (ps_edF (σ.2.2.1 2) n 5 a + 1)))), (5, .int (ps_nm (σ.2.2.1 2) n a (ps_edF (σ.2.2.1 2) n 5 a))), (4, .int (nI (ps_edF (σ.2.2.1 2) n 5 (ps_edF (σ.2.2.1 2) n 5 a + 1)))), (3, .int (nI (ps_edF (σ.2.2.1 2) n 5 a))), (0, .ref (g 1)), (1, .int (nI j)), (2, .int (nI a))]) hx hb d_Tape_readPart_54 hl (by decide) rfl (fun ls hl => ?_)
        refine lv_iload hx hb d_Tape_readPart_56 (lv_at hl 1 rfl) ?_
        refine lv_iconst (v := -1) hx hb d_Tape_readPart_58 (by decide) ?_
        refine lv_icmp_ne (tgt := 72) hx hb d_Tape_readPart_59 (by decide) (fun c_59 => ?_) (fun c_59 => ?_)
        · refine lv_iconst (v := nI 0) hx hb d_Tape_readPart_72 (by decide) ?_
          refine lv_istore (lv' := [(7, .int (nI 0)), (6, .int (ps_nm (σ.2.2.1 2) n (ps_edF (σ.2.2.1 2) n 5 a + 1) (ps_edF (σ.2.2.1 2) n 5 (ps_edF (σ.2.2.1 2) n 5 a + 1)))), (5, .int (ps_nm (σ.2.2.1 2) n a (ps_edF (σ.2.2.1 2) n 5 a))), (4, .int (nI (ps_edF (σ.2.2.1 2) n 5 (ps_edF (σ.2.2.1 2) n 5 a + 1)))), (3, .int (nI (ps_edF (σ.2.2.1 2) n 5 a))), (0, .ref (g 1)), (1, .int (nI j)), (2, .int (nI a))]) hx hb d_Tape_readPart_73 hl (by decide) rfl (fun ls hl => ?_)
          refine lv_iload hx hb d_Tape_readPart_75 (lv_at hl 1 rfl) ?_
          refine lv_iconst (v := -1) hx hb d_Tape_readPart_77 (by decide) ?_
          refine lv_icmp_eq (tgt := 92) hx hb d_Tape_readPart_78 (by decide) (fun c_78 => ?_) (fun c_78 => ?_)
          · refine lv_iconst (v := nI 0) hx hb d_Tape_readPart_92 (by decide) ?_
            refine lv_istore (lv' := [(8, .int (nI 0)), (7, .int (nI 0)), (6, .int (ps_nm (σ.2.2.1 2) n (ps_edF (σ.2.2.1 2) n 5 a + 1) (ps_edF (σ.2.2.1 2) n 5 (ps_edF (σ.2.2.1 2) n 5 a + 1)))), (5, .int (ps_nm (σ.2.2.1 2) n a (ps_edF (σ.2.2.1 2) n 5 a))), (4, .int (nI (ps_edF (σ.2.2.1 2) n 5 (ps_edF (σ.2.2.1 2) n 5 a + 1)))), (3, .int (nI (ps_edF (σ.2.2.1 2) n 5 a))), (0, .ref (g 1)), (1, .int (nI j)), (2, .int (nI a))]) hx hb d_Tape_readPart_93 hl (by decide) rfl (fun ls hl => ?_)
            refine lv_iload hx hb d_Tape_readPart_95 (lv_at hl 1 rfl) ?_
            refine lv_if_ne (tgt := 105) hx hb d_Tape_readPart_97 (by decide) (fun c_97 => ?_) (fun c_97 => ?_)
            · exact absurd (by decide) c_97
            · refine lv_iload hx hb d_Tape_readPart_100 (lv_at hl 0 rfl) ?_
              refine lv_if_eq (tgt := 107) hx hb d_Tape_readPart_102 (by decide) (fun c_102 => ?_) (fun c_102 => ?_)
              · refine lv_aload_n hx hb d_Tape_readPart_107 rfl (lv_at hl 6 rfl) ?_
                refine ps_get (v := .ref (g 3)) hx hb hT i_Tape hown hK hP (k := 1) (by omega) ps_E_1 rfl 2 (by decide) (hT _ fl_Tape_19) (fun _ h9 => h9) rfl d_Tape_readPart_108 ?_
                refine lv_iload_n hx hb d_Tape_readPart_111 rfl (lv_at hl 7 rfl) ?_
                refine lv_iload hx hb d_Tape_readPart_112 (lv_at hl 3 rfl) ?_
                refine ps_iast (f := σ.2.2.1 3) hx hb hK hg hP hS (k := 3) (by omega) 0 ps_E_3 rfl (i := j) (by omega) (by decide) d_Tape_readPart_114 (ps_E g cI cJ cT (ps_upA σ 3 (va_up (σ.2.2.1 3) j (ps_nm (σ.2.2.1 2) n a (ps_edF (σ.2.2.1 2) n 5 a))))) rfl (fun i _ h => by apply ps_E_ext <;> first | rfl | simp [ps_upI, ps_upU, ps_upA, ps_upB, va_up, h]) (fun H locs hP hS => ?_)
                refine lv_aload_n hx hb d_Tape_readPart_115 rfl (lv_at hl 6 rfl) ?_
                refine ps_get (v := .ref (g 4)) hx hb hT i_Tape hown hK hP (k := 1) (by omega) rfl rfl 3 (by decide) (hT _ fl_Tape_22) (fun _ h9 => h9) rfl d_Tape_readPart_116 ?_
                refine lv_iload_n hx hb d_Tape_readPart_119 rfl (lv_at hl 7 rfl) ?_
                refine lv_iload hx hb d_Tape_readPart_120 (lv_at hl 2 rfl) ?_
                refine ps_iast (f := σ.2.2.1 4) hx hb hK hg hP hS (k := 4) (by omega) 0 rfl rfl (i := j) (by omega) (by decide) d_Tape_readPart_122 (ps_E g cI cJ cT (ps_upA (ps_upA σ 3 (va_up (σ.2.2.1 3) j (ps_nm (σ.2.2.1 2) n a (ps_edF (σ.2.2.1 2) n 5 a)))) 4 (va_up (σ.2.2.1 4) j (ps_nm (σ.2.2.1 2) n (ps_edF (σ.2.2.1 2) n 5 a + 1) (ps_edF (σ.2.2.1 2) n 5 (ps_edF (σ.2.2.1 2) n 5 a + 1)))))) rfl (fun i _ h => by apply ps_E_ext <;> first | rfl | simp [ps_upI, ps_upU, ps_upA, ps_upB, va_up, h]) (fun H locs hP hS => ?_)
                refine lv_iload hx hb d_Tape_readPart_123 (lv_at hl 4 rfl) ?_
                rw [hQ]
                exact W.iret (v := nI (ps_edF (σ.2.2.1 2) n 5 (ps_edF (σ.2.2.1 2) n 5 a + 1))) hx hb hr (fun zt ht _ => ⟨⟨_, _, rfl, Or.inl ⟨_, _, _, ps_rp_ok hds (by simp_all), rfl, rfl⟩, ps_hp ht hP⟩, hS.F ht⟩) hS.2.2 d_Tape_readPart_125
              · exact absurd (by decide) c_102
          · refine lv_iload hx hb d_Tape_readPart_81 (lv_at hl 2 rfl) ?_
            refine lv_iload hx hb d_Tape_readPart_83 (lv_at hl 1 rfl) ?_
            refine lv_icmp_le (tgt := 92) hx hb d_Tape_readPart_85 (by decide) (fun c_85 => ?_) (fun c_85 => ?_)
            · refine lv_iconst (v := nI 0) hx hb d_Tape_readPart_92 (by decide) ?_
              refine lv_istore (lv' := [(8, .int (nI 0)), (7, .int (nI 0)), (6, .int (ps_nm (σ.2.2.1 2) n (ps_edF (σ.2.2.1 2) n 5 a + 1) (ps_edF (σ.2.2.1 2) n 5 (ps_edF (σ.2.2.1 2) n 5 a + 1)))), (5, .int (ps_nm (σ.2.2.1 2) n a (ps_edF (σ.2.2.1 2) n 5 a))), (4, .int (nI (ps_edF (σ.2.2.1 2) n 5 (ps_edF (σ.2.2.1 2) n 5 a + 1)))), (3, .int (nI (ps_edF (σ.2.2.1 2) n 5 a))), (0, .ref (g 1)), (1, .int (nI j)), (2, .int (nI a))]) hx hb d_Tape_readPart_93 hl (by decide) rfl (fun ls hl => ?_)
              refine lv_iload hx hb d_Tape_readPart_95 (lv_at hl 1 rfl) ?_
              refine lv_if_ne (tgt := 105) hx hb d_Tape_readPart_97 (by decide) (fun c_97 => ?_) (fun c_97 => ?_)
              · exact absurd (by decide) c_97
              · refine lv_iload hx hb d_Tape_readPart_100 (lv_at hl 0 rfl) ?_
                refine lv_if_eq (tgt := 107) hx hb d_Tape_readPart_102 (by decide) (fun c_102 => ?_) (fun c_102 => ?_)
                · refine lv_aload_n hx hb d_Tape_readPart_107 rfl (lv_at hl 6 rfl) ?_
                  refine ps_get (v := .ref (g 3)) hx hb hT i_Tape hown hK hP (k := 1) (by omega) ps_E_1 rfl 2 (by decide) (hT _ fl_Tape_19) (fun _ h9 => h9) rfl d_Tape_readPart_108 ?_
                  refine lv_iload_n hx hb d_Tape_readPart_111 rfl (lv_at hl 7 rfl) ?_
                  refine lv_iload hx hb d_Tape_readPart_112 (lv_at hl 3 rfl) ?_
                  refine ps_iast (f := σ.2.2.1 3) hx hb hK hg hP hS (k := 3) (by omega) 0 ps_E_3 rfl (i := j) (by omega) (by decide) d_Tape_readPart_114 (ps_E g cI cJ cT (ps_upA σ 3 (va_up (σ.2.2.1 3) j (ps_nm (σ.2.2.1 2) n a (ps_edF (σ.2.2.1 2) n 5 a))))) rfl (fun i _ h => by apply ps_E_ext <;> first | rfl | simp [ps_upI, ps_upU, ps_upA, ps_upB, va_up, h]) (fun H locs hP hS => ?_)
                  refine lv_aload_n hx hb d_Tape_readPart_115 rfl (lv_at hl 6 rfl) ?_
                  refine ps_get (v := .ref (g 4)) hx hb hT i_Tape hown hK hP (k := 1) (by omega) rfl rfl 3 (by decide) (hT _ fl_Tape_22) (fun _ h9 => h9) rfl d_Tape_readPart_116 ?_
                  refine lv_iload_n hx hb d_Tape_readPart_119 rfl (lv_at hl 7 rfl) ?_
                  refine lv_iload hx hb d_Tape_readPart_120 (lv_at hl 2 rfl) ?_
                  refine ps_iast (f := σ.2.2.1 4) hx hb hK hg hP hS (k := 4) (by omega) 0 rfl rfl (i := j) (by omega) (by decide) d_Tape_readPart_122 (ps_E g cI cJ cT (ps_upA (ps_upA σ 3 (va_up (σ.2.2.1 3) j (ps_nm (σ.2.2.1 2) n a (ps_edF (σ.2.2.1 2) n 5 a)))) 4 (va_up (σ.2.2.1 4) j (ps_nm (σ.2.2.1 2) n (ps_edF (σ.2.2.1 2) n 5 a + 1) (ps_edF (σ.2.2.1 2) n 5 (ps_edF (σ.2.2.1 2) n 5 a + 1)))))) rfl (fun i _ h => by apply ps_E_ext <;> first | rfl | simp [ps_upI, ps_upU, ps_upA, ps_upB, va_up, h]) (fun H locs hP hS => ?_)
                  refine lv_iload hx hb d_Tape_readPart_123 (lv_at hl 4 rfl) ?_
                  rw [hQ]
                  exact W.iret (v := nI (ps_edF (σ.2.2.1 2) n 5 (ps_edF (σ.2.2.1 2) n 5 a + 1))) hx hb hr (fun zt ht _ => ⟨⟨_, _, rfl, Or.inl ⟨_, _, _, ps_rp_ok hds (by simp_all), rfl, rfl⟩, ps_hp ht hP⟩, hS.F ht⟩) hS.2.2 d_Tape_readPart_125
                · exact absurd (by decide) c_102
            · refine lv_iconst (v := nI 1) hx hb d_Tape_readPart_88 (by decide) ?_
              refine lv_goto (tgt := 93) hx hb d_Tape_readPart_89 (by decide) ?_
              refine lv_istore (lv' := [(8, .int (nI 1)), (7, .int (nI 0)), (6, .int (ps_nm (σ.2.2.1 2) n (ps_edF (σ.2.2.1 2) n 5 a + 1) (ps_edF (σ.2.2.1 2) n 5 (ps_edF (σ.2.2.1 2) n 5 a + 1)))), (5, .int (ps_nm (σ.2.2.1 2) n a (ps_edF (σ.2.2.1 2) n 5 a))), (4, .int (nI (ps_edF (σ.2.2.1 2) n 5 (ps_edF (σ.2.2.1 2) n 5 a + 1)))), (3, .int (nI (ps_edF (σ.2.2.1 2) n 5 a))), (0, .ref (g 1)), (1, .int (nI j)), (2, .int (nI a))]) hx hb d_Tape_readPart_93 hl (by decide) rfl (fun ls hl => ?_)
              refine lv_iload hx hb d_Tape_readPart_95 (lv_at hl 1 rfl) ?_
              refine lv_if_ne (tgt := 105) hx hb d_Tape_readPart_97 (by decide) (fun c_97 => ?_) (fun c_97 => ?_)
              · exact absurd (by decide) c_97
              · refine lv_iload hx hb d_Tape_readPart_100 (lv_at hl 0 rfl) ?_
                refine lv_if_eq (tgt := 107) hx hb d_Tape_readPart_102 (by decide) (fun c_102 => ?_) (fun c_102 => ?_)
                · exact absurd c_102 (by decide)
                · refine lv_iconst (v := -1) hx hb d_Tape_readPart_105 (by decide) ?_
                  rw [hQ]
                  exact W.iret (v := -1) hx hb hr (fun zt ht _ => ⟨⟨_, _, rfl, Or.inr ⟨ps_rp_bad hds (by simp_all), rfl, rfl⟩, ps_hp ht hP⟩, hS.F ht⟩) hS.2.2 d_Tape_readPart_106
        · refine lv_iload hx hb d_Tape_readPart_62 (lv_at hl 0 rfl) ?_
          refine lv_iconst (v := -1) hx hb d_Tape_readPart_64 (by decide) ?_
          refine lv_icmp_ne (tgt := 72) hx hb d_Tape_readPart_65 (by decide) (fun c_65 => ?_) (fun c_65 => ?_)
          · refine lv_iconst (v := nI 0) hx hb d_Tape_readPart_72 (by decide) ?_
            refine lv_istore (lv' := [(7, .int (nI 0)), (6, .int (ps_nm (σ.2.2.1 2) n (ps_edF (σ.2.2.1 2) n 5 a + 1) (ps_edF (σ.2.2.1 2) n 5 (ps_edF (σ.2.2.1 2) n 5 a + 1)))), (5, .int (ps_nm (σ.2.2.1 2) n a (ps_edF (σ.2.2.1 2) n 5 a))), (4, .int (nI (ps_edF (σ.2.2.1 2) n 5 (ps_edF (σ.2.2.1 2) n 5 a + 1)))), (3, .int (nI (ps_edF (σ.2.2.1 2) n 5 a))), (0, .ref (g 1)), (1, .int (nI j)), (2, .int (nI a))]) hx hb d_Tape_readPart_73 hl (by decide) rfl (fun ls hl => ?_)
            refine lv_iload hx hb d_Tape_readPart_75 (lv_at hl 1 rfl) ?_
            refine lv_iconst (v := -1) hx hb d_Tape_readPart_77 (by decide) ?_
            refine lv_icmp_eq (tgt := 92) hx hb d_Tape_readPart_78 (by decide) (fun c_78 => ?_) (fun c_78 => ?_)
            · refine lv_iconst (v := nI 0) hx hb d_Tape_readPart_92 (by decide) ?_
              refine lv_istore (lv' := [(8, .int (nI 0)), (7, .int (nI 0)), (6, .int (ps_nm (σ.2.2.1 2) n (ps_edF (σ.2.2.1 2) n 5 a + 1) (ps_edF (σ.2.2.1 2) n 5 (ps_edF (σ.2.2.1 2) n 5 a + 1)))), (5, .int (ps_nm (σ.2.2.1 2) n a (ps_edF (σ.2.2.1 2) n 5 a))), (4, .int (nI (ps_edF (σ.2.2.1 2) n 5 (ps_edF (σ.2.2.1 2) n 5 a + 1)))), (3, .int (nI (ps_edF (σ.2.2.1 2) n 5 a))), (0, .ref (g 1)), (1, .int (nI j)), (2, .int (nI a))]) hx hb d_Tape_readPart_93 hl (by decide) rfl (fun ls hl => ?_)
              refine lv_iload hx hb d_Tape_readPart_95 (lv_at hl 1 rfl) ?_
              refine lv_if_ne (tgt := 105) hx hb d_Tape_readPart_97 (by decide) (fun c_97 => ?_) (fun c_97 => ?_)
              · exact absurd (by decide) c_97
              · refine lv_iload hx hb d_Tape_readPart_100 (lv_at hl 0 rfl) ?_
                refine lv_if_eq (tgt := 107) hx hb d_Tape_readPart_102 (by decide) (fun c_102 => ?_) (fun c_102 => ?_)
                · refine lv_aload_n hx hb d_Tape_readPart_107 rfl (lv_at hl 6 rfl) ?_
                  refine ps_get (v := .ref (g 3)) hx hb hT i_Tape hown hK hP (k := 1) (by omega) ps_E_1 rfl 2 (by decide) (hT _ fl_Tape_19) (fun _ h9 => h9) rfl d_Tape_readPart_108 ?_
                  refine lv_iload_n hx hb d_Tape_readPart_111 rfl (lv_at hl 7 rfl) ?_
                  refine lv_iload hx hb d_Tape_readPart_112 (lv_at hl 3 rfl) ?_
                  refine ps_iast (f := σ.2.2.1 3) hx hb hK hg hP hS (k := 3) (by omega) 0 ps_E_3 rfl (i := j) (by omega) (by decide) d_Tape_readPart_114 (ps_E g cI cJ cT (ps_upA σ 3 (va_up (σ.2.2.1 3) j (ps_nm (σ.2.2.1 2) n a (ps_edF (σ.2.2.1 2) n 5 a))))) rfl (fun i _ h => by apply ps_E_ext <;> first | rfl | simp [ps_upI, ps_upU, ps_upA, ps_upB, va_up, h]) (fun H locs hP hS => ?_)
                  refine lv_aload_n hx hb d_Tape_readPart_115 rfl (lv_at hl 6 rfl) ?_
                  refine ps_get (v := .ref (g 4)) hx hb hT i_Tape hown hK hP (k := 1) (by omega) rfl rfl 3 (by decide) (hT _ fl_Tape_22) (fun _ h9 => h9) rfl d_Tape_readPart_116 ?_
                  refine lv_iload_n hx hb d_Tape_readPart_119 rfl (lv_at hl 7 rfl) ?_
                  refine lv_iload hx hb d_Tape_readPart_120 (lv_at hl 2 rfl) ?_
                  refine ps_iast (f := σ.2.2.1 4) hx hb hK hg hP hS (k := 4) (by omega) 0 rfl rfl (i := j) (by omega) (by decide) d_Tape_readPart_122 (ps_E g cI cJ cT (ps_upA (ps_upA σ 3 (va_up (σ.2.2.1 3) j (ps_nm (σ.2.2.1 2) n a (ps_edF (σ.2.2.1 2) n 5 a)))) 4 (va_up (σ.2.2.1 4) j (ps_nm (σ.2.2.1 2) n (ps_edF (σ.2.2.1 2) n 5 a + 1) (ps_edF (σ.2.2.1 2) n 5 (ps_edF (σ.2.2.1 2) n 5 a + 1)))))) rfl (fun i _ h => by apply ps_E_ext <;> first | rfl | simp [ps_upI, ps_upU, ps_upA, ps_upB, va_up, h]) (fun H locs hP hS => ?_)
                  refine lv_iload hx hb d_Tape_readPart_123 (lv_at hl 4 rfl) ?_
                  rw [hQ]
                  exact W.iret (v := nI (ps_edF (σ.2.2.1 2) n 5 (ps_edF (σ.2.2.1 2) n 5 a + 1))) hx hb hr (fun zt ht _ => ⟨⟨_, _, rfl, Or.inl ⟨_, _, _, ps_rp_ok hds (by simp_all), rfl, rfl⟩, ps_hp ht hP⟩, hS.F ht⟩) hS.2.2 d_Tape_readPart_125
                · exact absurd (by decide) c_102
            · refine lv_iload hx hb d_Tape_readPart_81 (lv_at hl 2 rfl) ?_
              refine lv_iload hx hb d_Tape_readPart_83 (lv_at hl 1 rfl) ?_
              refine lv_icmp_le (tgt := 92) hx hb d_Tape_readPart_85 (by decide) (fun c_85 => ?_) (fun c_85 => ?_)
              · refine lv_iconst (v := nI 0) hx hb d_Tape_readPart_92 (by decide) ?_
                refine lv_istore (lv' := [(8, .int (nI 0)), (7, .int (nI 0)), (6, .int (ps_nm (σ.2.2.1 2) n (ps_edF (σ.2.2.1 2) n 5 a + 1) (ps_edF (σ.2.2.1 2) n 5 (ps_edF (σ.2.2.1 2) n 5 a + 1)))), (5, .int (ps_nm (σ.2.2.1 2) n a (ps_edF (σ.2.2.1 2) n 5 a))), (4, .int (nI (ps_edF (σ.2.2.1 2) n 5 (ps_edF (σ.2.2.1 2) n 5 a + 1)))), (3, .int (nI (ps_edF (σ.2.2.1 2) n 5 a))), (0, .ref (g 1)), (1, .int (nI j)), (2, .int (nI a))]) hx hb d_Tape_readPart_93 hl (by decide) rfl (fun ls hl => ?_)
                refine lv_iload hx hb d_Tape_readPart_95 (lv_at hl 1 rfl) ?_
                refine lv_if_ne (tgt := 105) hx hb d_Tape_readPart_97 (by decide) (fun c_97 => ?_) (fun c_97 => ?_)
                · exact absurd (by decide) c_97
                · refine lv_iload hx hb d_Tape_readPart_100 (lv_at hl 0 rfl) ?_
                  refine lv_if_eq (tgt := 107) hx hb d_Tape_readPart_102 (by decide) (fun c_102 => ?_) (fun c_102 => ?_)
                  · refine lv_aload_n hx hb d_Tape_readPart_107 rfl (lv_at hl 6 rfl) ?_
                    refine ps_get (v := .ref (g 3)) hx hb hT i_Tape hown hK hP (k := 1) (by omega) ps_E_1 rfl 2 (by decide) (hT _ fl_Tape_19) (fun _ h9 => h9) rfl d_Tape_readPart_108 ?_
                    refine lv_iload_n hx hb d_Tape_readPart_111 rfl (lv_at hl 7 rfl) ?_
                    refine lv_iload hx hb d_Tape_readPart_112 (lv_at hl 3 rfl) ?_
                    refine ps_iast (f := σ.2.2.1 3) hx hb hK hg hP hS (k := 3) (by omega) 0 ps_E_3 rfl (i := j) (by omega) (by decide) d_Tape_readPart_114 (ps_E g cI cJ cT (ps_upA σ 3 (va_up (σ.2.2.1 3) j (ps_nm (σ.2.2.1 2) n a (ps_edF (σ.2.2.1 2) n 5 a))))) rfl (fun i _ h => by apply ps_E_ext <;> first | rfl | simp [ps_upI, ps_upU, ps_upA, ps_upB, va_up, h]) (fun H locs hP hS => ?_)
                    refine lv_aload_n hx hb d_Tape_readPart_115 rfl (lv_at hl 6 rfl) ?_
                    refine ps_get (v := .ref (g 4)) hx hb hT i_Tape hown hK hP (k := 1) (by omega) rfl rfl 3 (by decide) (hT _ fl_Tape_22) (fun _ h9 => h9) rfl d_Tape_readPart_116 ?_
                    refine lv_iload_n hx hb d_Tape_readPart_119 rfl (lv_at hl 7 rfl) ?_
                    refine lv_iload hx hb d_Tape_readPart_120 (lv_at hl 2 rfl) ?_
                    refine ps_iast (f := σ.2.2.1 4) hx hb hK hg hP hS (k := 4) (by omega) 0 rfl rfl (i := j) (by omega) (by decide) d_Tape_readPart_122 (ps_E g cI cJ cT (ps_upA (ps_upA σ 3 (va_up (σ.2.2.1 3) j (ps_nm (σ.2.2.1 2) n a (ps_edF (σ.2.2.1 2) n 5 a)))) 4 (va_up (σ.2.2.1 4) j (ps_nm (σ.2.2.1 2) n (ps_edF (σ.2.2.1 2) n 5 a + 1) (ps_edF (σ.2.2.1 2) n 5 (ps_edF (σ.2.2.1 2) n 5 a + 1)))))) rfl (fun i _ h => by apply ps_E_ext <;> first | rfl | simp [ps_upI, ps_upU, ps_upA, ps_upB, va_up, h]) (fun H locs hP hS => ?_)
                    refine lv_iload hx hb d_Tape_readPart_123 (lv_at hl 4 rfl) ?_
                    rw [hQ]
                    exact W.iret (v := nI (ps_edF (σ.2.2.1 2) n 5 (ps_edF (σ.2.2.1 2) n 5 a + 1))) hx hb hr (fun zt ht _ => ⟨⟨_, _, rfl, Or.inl ⟨_, _, _, ps_rp_ok hds (by simp_all), rfl, rfl⟩, ps_hp ht hP⟩, hS.F ht⟩) hS.2.2 d_Tape_readPart_125
                  · exact absurd (by decide) c_102
              · refine lv_iconst (v := nI 1) hx hb d_Tape_readPart_88 (by decide) ?_
                refine lv_goto (tgt := 93) hx hb d_Tape_readPart_89 (by decide) ?_
                refine lv_istore (lv' := [(8, .int (nI 1)), (7, .int (nI 0)), (6, .int (ps_nm (σ.2.2.1 2) n (ps_edF (σ.2.2.1 2) n 5 a + 1) (ps_edF (σ.2.2.1 2) n 5 (ps_edF (σ.2.2.1 2) n 5 a + 1)))), (5, .int (ps_nm (σ.2.2.1 2) n a (ps_edF (σ.2.2.1 2) n 5 a))), (4, .int (nI (ps_edF (σ.2.2.1 2) n 5 (ps_edF (σ.2.2.1 2) n 5 a + 1)))), (3, .int (nI (ps_edF (σ.2.2.1 2) n 5 a))), (0, .ref (g 1)), (1, .int (nI j)), (2, .int (nI a))]) hx hb d_Tape_readPart_93 hl (by decide) rfl (fun ls hl => ?_)
                refine lv_iload hx hb d_Tape_readPart_95 (lv_at hl 1 rfl) ?_
                refine lv_if_ne (tgt := 105) hx hb d_Tape_readPart_97 (by decide) (fun c_97 => ?_) (fun c_97 => ?_)
                · exact absurd (by decide) c_97
                · refine lv_iload hx hb d_Tape_readPart_100 (lv_at hl 0 rfl) ?_
                  refine lv_if_eq (tgt := 107) hx hb d_Tape_readPart_102 (by decide) (fun c_102 => ?_) (fun c_102 => ?_)
                  · exact absurd c_102 (by decide)
                  · refine lv_iconst (v := -1) hx hb d_Tape_readPart_105 (by decide) ?_
                    rw [hQ]
                    exact W.iret (v := -1) hx hb hr (fun zt ht _ => ⟨⟨_, _, rfl, Or.inr ⟨ps_rp_bad hds (by simp_all), rfl, rfl⟩, ps_hp ht hP⟩, hS.F ht⟩) hS.2.2 d_Tape_readPart_106
          · refine lv_iconst (v := nI 1) hx hb d_Tape_readPart_68 (by decide) ?_
            refine lv_goto (tgt := 73) hx hb d_Tape_readPart_69 (by decide) ?_
            refine lv_istore (lv' := [(7, .int (nI 1)), (6, .int (ps_nm (σ.2.2.1 2) n (ps_edF (σ.2.2.1 2) n 5 a + 1) (ps_edF (σ.2.2.1 2) n 5 (ps_edF (σ.2.2.1 2) n 5 a + 1)))), (5, .int (ps_nm (σ.2.2.1 2) n a (ps_edF (σ.2.2.1 2) n 5 a))), (4, .int (nI (ps_edF (σ.2.2.1 2) n 5 (ps_edF (σ.2.2.1 2) n 5 a + 1)))), (3, .int (nI (ps_edF (σ.2.2.1 2) n 5 a))), (0, .ref (g 1)), (1, .int (nI j)), (2, .int (nI a))]) hx hb d_Tape_readPart_73 hl (by decide) rfl (fun ls hl => ?_)
            refine lv_iload hx hb d_Tape_readPart_75 (lv_at hl 1 rfl) ?_
            refine lv_iconst (v := -1) hx hb d_Tape_readPart_77 (by decide) ?_
            refine lv_icmp_eq (tgt := 92) hx hb d_Tape_readPart_78 (by decide) (fun c_78 => ?_) (fun c_78 => ?_)
            · refine lv_iconst (v := nI 0) hx hb d_Tape_readPart_92 (by decide) ?_
              refine lv_istore (lv' := [(8, .int (nI 0)), (7, .int (nI 1)), (6, .int (ps_nm (σ.2.2.1 2) n (ps_edF (σ.2.2.1 2) n 5 a + 1) (ps_edF (σ.2.2.1 2) n 5 (ps_edF (σ.2.2.1 2) n 5 a + 1)))), (5, .int (ps_nm (σ.2.2.1 2) n a (ps_edF (σ.2.2.1 2) n 5 a))), (4, .int (nI (ps_edF (σ.2.2.1 2) n 5 (ps_edF (σ.2.2.1 2) n 5 a + 1)))), (3, .int (nI (ps_edF (σ.2.2.1 2) n 5 a))), (0, .ref (g 1)), (1, .int (nI j)), (2, .int (nI a))]) hx hb d_Tape_readPart_93 hl (by decide) rfl (fun ls hl => ?_)
              refine lv_iload hx hb d_Tape_readPart_95 (lv_at hl 1 rfl) ?_
              refine lv_if_ne (tgt := 105) hx hb d_Tape_readPart_97 (by decide) (fun c_97 => ?_) (fun c_97 => ?_)
              · refine lv_iconst (v := -1) hx hb d_Tape_readPart_105 (by decide) ?_
                rw [hQ]
                exact W.iret (v := -1) hx hb hr (fun zt ht _ => ⟨⟨_, _, rfl, Or.inr ⟨ps_rp_bad hds (by simp_all), rfl, rfl⟩, ps_hp ht hP⟩, hS.F ht⟩) hS.2.2 d_Tape_readPart_106
              · exact absurd c_97 (by decide)
            · refine lv_iload hx hb d_Tape_readPart_81 (lv_at hl 2 rfl) ?_
              refine lv_iload hx hb d_Tape_readPart_83 (lv_at hl 1 rfl) ?_
              refine lv_icmp_le (tgt := 92) hx hb d_Tape_readPart_85 (by decide) (fun c_85 => ?_) (fun c_85 => ?_)
              · refine lv_iconst (v := nI 0) hx hb d_Tape_readPart_92 (by decide) ?_
                refine lv_istore (lv' := [(8, .int (nI 0)), (7, .int (nI 1)), (6, .int (ps_nm (σ.2.2.1 2) n (ps_edF (σ.2.2.1 2) n 5 a + 1) (ps_edF (σ.2.2.1 2) n 5 (ps_edF (σ.2.2.1 2) n 5 a + 1)))), (5, .int (ps_nm (σ.2.2.1 2) n a (ps_edF (σ.2.2.1 2) n 5 a))), (4, .int (nI (ps_edF (σ.2.2.1 2) n 5 (ps_edF (σ.2.2.1 2) n 5 a + 1)))), (3, .int (nI (ps_edF (σ.2.2.1 2) n 5 a))), (0, .ref (g 1)), (1, .int (nI j)), (2, .int (nI a))]) hx hb d_Tape_readPart_93 hl (by decide) rfl (fun ls hl => ?_)
                refine lv_iload hx hb d_Tape_readPart_95 (lv_at hl 1 rfl) ?_
                refine lv_if_ne (tgt := 105) hx hb d_Tape_readPart_97 (by decide) (fun c_97 => ?_) (fun c_97 => ?_)
                · refine lv_iconst (v := -1) hx hb d_Tape_readPart_105 (by decide) ?_
                  rw [hQ]
                  exact W.iret (v := -1) hx hb hr (fun zt ht _ => ⟨⟨_, _, rfl, Or.inr ⟨ps_rp_bad hds (by simp_all), rfl, rfl⟩, ps_hp ht hP⟩, hS.F ht⟩) hS.2.2 d_Tape_readPart_106
                · exact absurd c_97 (by decide)
              · refine lv_iconst (v := nI 1) hx hb d_Tape_readPart_88 (by decide) ?_
                refine lv_goto (tgt := 93) hx hb d_Tape_readPart_89 (by decide) ?_
                refine lv_istore (lv' := [(8, .int (nI 1)), (7, .int (nI 1)), (6, .int (ps_nm (σ.2.2.1 2) n (ps_edF (σ.2.2.1 2) n 5 a + 1) (ps_edF (σ.2.2.1 2) n 5 (ps_edF (σ.2.2.1 2) n 5 a + 1)))), (5, .int (ps_nm (σ.2.2.1 2) n a (ps_edF (σ.2.2.1 2) n 5 a))), (4, .int (nI (ps_edF (σ.2.2.1 2) n 5 (ps_edF (σ.2.2.1 2) n 5 a + 1)))), (3, .int (nI (ps_edF (σ.2.2.1 2) n 5 a))), (0, .ref (g 1)), (1, .int (nI j)), (2, .int (nI a))]) hx hb d_Tape_readPart_93 hl (by decide) rfl (fun ls hl => ?_)
                refine lv_iload hx hb d_Tape_readPart_95 (lv_at hl 1 rfl) ?_
                refine lv_if_ne (tgt := 105) hx hb d_Tape_readPart_97 (by decide) (fun c_97 => ?_) (fun c_97 => ?_)
                · refine lv_iconst (v := -1) hx hb d_Tape_readPart_105 (by decide) ?_
                  rw [hQ]
                  exact W.iret (v := -1) hx hb hr (fun zt ht _ => ⟨⟨_, _, rfl, Or.inr ⟨ps_rp_bad hds (by simp_all), rfl, rfl⟩, ps_hp ht hP⟩, hS.F ht⟩) hS.2.2 d_Tape_readPart_106
                · exact absurd c_97 (by decide)
      · exact absurd (nI_lt hj (by decide)) c_23

def rm_Tape_firstPlace : Room := { frames := 1, cells := 0, slots := 0, locals := 21 }
abbrev ws_Tape_firstPlace : List Cond := .code y_Tape_firstPlace b_Tape_firstPlace 3 (some .int) :: ps_tb
set_option maxHeartbeats 4000000 in
set_option maxRecDepth 100000 in
theorem c_Tape_firstPlace {l : Launch} {D : va_G} {g : Nat → Nat} {cI cJ cT : ClassId} {σ : ps_σ} (j : Nat) (hj : j < 6) (len : Int32) : Met l y_Tape_firstPlace ws_Tape_firstPlace rm_Tape_firstPlace (ps_Pc D ps_cl (ps_tys cI cJ cT) 33 g (ps_E g cI cJ cT σ) [.ref (g 1), .int (nI j), .int len]) (vp_Si (fun r => r = if σ.2.2.1 3 j = -1 then (if len - σ.2.2.1 4 j < nI 0 then nI 0 else len - σ.2.2.1 4 j) else σ.2.2.1 3 j)) 0 0 (fun _ => False) := by
  refine ps_met (by decide) ?_
  intro p e s m args below meth c hx hb hr hml hts hown hlocks hname hv Q hQ
  obtain ⟨ha, hP, hK⟩ := hv
  have hT : ∀ w ∈ ps_tb, w.before args s = true := fun w h => hts w (List.mem_cons_of_mem _ h)
  have hown : s.vm.findClass R_Tape = some m.cls := hown
  refine ps_enter ha (Nat.le_of_ble_eq_true rfl) (fun ls hl => ?_)
  have hl : lv_has ls 3 [(0, .ref (g 1)), (1, .int (nI j)), (2, .int len)] := hl
  refine lv_iload_n hx hb d_Tape_firstPlace_0 rfl (lv_at hl 1 rfl) ?_
  refine lv_if_lt (tgt := 10) hx hb d_Tape_firstPlace_1 (by decide) (fun c_1 => ?_) (fun c_1 => ?_)
  · exact absurd c_1 (nI_pos (by omega))
  · refine lv_iload_n hx hb d_Tape_firstPlace_4 rfl (lv_at hl 1 rfl) ?_
    refine lv_bipush (v := nI 6) hx hb d_Tape_firstPlace_5 (by decide) ?_
    refine lv_icmp_lt (tgt := 12) hx hb d_Tape_firstPlace_7 (by decide) (fun c_7 => ?_) (fun c_7 => ?_)
    · refine lv_aload_n hx hb d_Tape_firstPlace_12 rfl (lv_at hl 0 rfl) ?_
      refine ps_get (v := .ref (g 3)) hx hb hT i_Tape hown hK hP (k := 1) (by omega) ps_E_1 rfl 2 (by decide) (hT _ fl_Tape_19) (fun _ h9 => h9) rfl d_Tape_firstPlace_13 ?_
      refine lv_iload_n hx hb d_Tape_firstPlace_16 rfl (lv_at hl 1 rfl) ?_
      refine ps_iald (f := σ.2.2.1 3) hx hb hK hP (k := 3) (by omega) 0 ps_E_3 rfl (i := j) (by omega) (by decide) d_Tape_firstPlace_17 ?_
      refine lv_iconst (v := -1) hx hb d_Tape_firstPlace_18 (by decide) ?_
      refine lv_icmp_ne (tgt := 37) hx hb d_Tape_firstPlace_19 (by decide) (fun c_19 => ?_) (fun c_19 => ?_)
      · refine lv_aload_n hx hb d_Tape_firstPlace_37 rfl (lv_at hl 0 rfl) ?_
        refine ps_get (v := .ref (g 3)) hx hb hT i_Tape hown hK hP (k := 1) (by omega) ps_E_1 rfl 2 (by decide) (hT _ fl_Tape_19) (fun _ h9 => h9) rfl d_Tape_firstPlace_38 ?_
        refine lv_iload_n hx hb d_Tape_firstPlace_41 rfl (lv_at hl 1 rfl) ?_
        refine ps_iald (f := σ.2.2.1 3) hx hb hK hP (k := 3) (by omega) 0 ps_E_3 rfl (i := j) (by omega) (by decide) d_Tape_firstPlace_42 ?_
        rw [hQ]
        exact W.iret (v := σ.2.2.1 3 j) hx hb hr (fun zt ht _ => ⟨_, rfl, by first | rw [if_pos c_19] | rw [if_neg c_19], ht⟩) (fun q h => absurd h List.not_mem_nil) d_Tape_firstPlace_43
      · refine lv_iload_n hx hb d_Tape_firstPlace_22 rfl (lv_at hl 2 rfl) ?_
        refine lv_aload_n hx hb d_Tape_firstPlace_23 rfl (lv_at hl 0 rfl) ?_
        refine ps_get (v := .ref (g 4)) hx hb hT i_Tape hown hK hP (k := 1) (by omega) ps_E_1 rfl 3 (by decide) (hT _ fl_Tape_22) (fun _ h9 => h9) rfl d_Tape_firstPlace_24 ?_
        refine lv_iload_n hx hb d_Tape_firstPlace_27 rfl (lv_at hl 1 rfl) ?_
        refine ps_iald (f := σ.2.2.1 4) hx hb hK hP (k := 4) (by omega) 0 ps_E_4 rfl (i := j) (by omega) (by decide) d_Tape_firstPlace_28 ?_
        refine lv_isub hx hb d_Tape_firstPlace_29 ?_
        refine lv_iconst (v := nI 0) hx hb d_Tape_firstPlace_30 (by decide) ?_
        refine va_mmax hx hb (hml.trans hl.1.symm) hown (hT _ ml_Tape_49) (hT _ st_Math_max) (hT _ in_Math) (hT _ co_Math_max) (Nat.le_of_ble_eq_true rfl) (Nat.le_of_ble_eq_true rfl) (Nat.zero_le _) (Nat.zero_le _) d_Tape_firstPlace_31 ?_
        refine lv_goto (tgt := 43) hx hb d_Tape_firstPlace_34 (by decide) ?_
        rw [hQ]
        exact W.iret (v := if (len - (σ.2.2.1 4 j)) < (nI 0) then (nI 0) else (len - (σ.2.2.1 4 j))) hx hb hr (fun zt ht _ => ⟨_, rfl, by first | rw [if_pos c_19] | rw [if_neg c_19], ht⟩) (fun q h => absurd h List.not_mem_nil) d_Tape_firstPlace_43
    · exact absurd (nI_lt hj (by decide)) c_7

def rm_Tape_lastPlace : Room := { frames := 1, cells := 0, slots := 0, locals := 21 }
abbrev ws_Tape_lastPlace : List Cond := .code y_Tape_lastPlace b_Tape_lastPlace 4 (some .int) :: ps_tb
set_option maxHeartbeats 4000000 in
set_option maxRecDepth 100000 in
theorem c_Tape_lastPlace {l : Launch} {D : va_G} {g : Nat → Nat} {cI cJ cT : ClassId} {σ : ps_σ} (j : Nat) (hj : j < 6) (len : Int32) : Met l y_Tape_lastPlace ws_Tape_lastPlace rm_Tape_lastPlace (ps_Pc D ps_cl (ps_tys cI cJ cT) 33 g (ps_E g cI cJ cT σ) [.ref (g 1), .int (nI j), .int len]) (vp_Si (fun r => r = if σ.2.2.1 3 j = -1 ∨ σ.2.2.1 4 j = -1 then len - nI 1 else (if len - nI 1 < σ.2.2.1 4 j then len - nI 1 else σ.2.2.1 4 j))) 0 0 (fun _ => False) := by
  refine ps_met (by decide) ?_
  intro p e s m args below meth c hx hb hr hml hts hown hlocks hname hv Q hQ
  obtain ⟨ha, hP, hK⟩ := hv
  have hT : ∀ w ∈ ps_tb, w.before args s = true := fun w h => hts w (List.mem_cons_of_mem _ h)
  have hown : s.vm.findClass R_Tape = some m.cls := hown
  refine ps_enter ha (Nat.le_of_ble_eq_true rfl) (fun ls hl => ?_)
  have hl : lv_has ls 4 [(0, .ref (g 1)), (1, .int (nI j)), (2, .int len)] := hl
  refine lv_iload_n hx hb d_Tape_lastPlace_0 rfl (lv_at hl 1 rfl) ?_
  refine lv_if_lt (tgt := 10) hx hb d_Tape_lastPlace_1 (by decide) (fun c_1 => ?_) (fun c_1 => ?_)
  · exact absurd c_1 (nI_pos (by omega))
  · refine lv_iload_n hx hb d_Tape_lastPlace_4 rfl (lv_at hl 1 rfl) ?_
    refine lv_bipush (v := nI 6) hx hb d_Tape_lastPlace_5 (by decide) ?_
    refine lv_icmp_lt (tgt := 14) hx hb d_Tape_lastPlace_7 (by decide) (fun c_7 => ?_) (fun c_7 => ?_)
    · refine lv_aload_n hx hb d_Tape_lastPlace_14 rfl (lv_at hl 0 rfl) ?_
      refine ps_get (v := .ref (g 3)) hx hb hT i_Tape hown hK hP (k := 1) (by omega) ps_E_1 rfl 2 (by decide) (hT _ fl_Tape_19) (fun _ h9 => h9) rfl d_Tape_lastPlace_15 ?_
      refine lv_iload_n hx hb d_Tape_lastPlace_18 rfl (lv_at hl 1 rfl) ?_
      refine ps_iald (f := σ.2.2.1 3) hx hb hK hP (k := 3) (by omega) 0 ps_E_3 rfl (i := j) (by omega) (by decide) d_Tape_lastPlace_19 ?_
      refine lv_iconst (v := -1) hx hb d_Tape_lastPlace_20 (by decide) ?_
      refine lv_icmp_eq (tgt := 34) hx hb d_Tape_lastPlace_21 (by decide) (fun c_21 => ?_) (fun c_21 => ?_)
      · refine lv_iconst (v := nI 1) hx hb d_Tape_lastPlace_34 (by decide) ?_
        refine lv_goto (tgt := 39) hx hb d_Tape_lastPlace_35 (by decide) ?_
        refine lv_istore_n (lv' := [(3, .int (nI 1)), (0, .ref (g 1)), (1, .int (nI j)), (2, .int len)]) hx hb d_Tape_lastPlace_39 rfl hl (by decide) rfl (fun ls hl => ?_)
        refine lv_iload_n hx hb d_Tape_lastPlace_40 rfl (lv_at hl 0 rfl) ?_
        refine lv_if_eq (tgt := 50) hx hb d_Tape_lastPlace_41 (by decide) (fun c_41 => ?_) (fun c_41 => ?_)
        · exact absurd c_41 (by decide)
        · refine lv_iload_n hx hb d_Tape_lastPlace_44 rfl (lv_at hl 3 rfl) ?_
          refine lv_iconst (v := nI 1) hx hb d_Tape_lastPlace_45 (by decide) ?_
          refine lv_isub hx hb d_Tape_lastPlace_46 ?_
          refine lv_goto (tgt := 62) hx hb d_Tape_lastPlace_47 (by decide) ?_
          rw [hQ]
          exact W.iret (v := len - (nI 1)) hx hb hr (fun zt ht _ => ⟨_, rfl, by simp_all, ht⟩) (fun q h => absurd h List.not_mem_nil) d_Tape_lastPlace_62
      · refine lv_aload_n hx hb d_Tape_lastPlace_24 rfl (lv_at hl 0 rfl) ?_
        refine ps_get (v := .ref (g 4)) hx hb hT i_Tape hown hK hP (k := 1) (by omega) ps_E_1 rfl 3 (by decide) (hT _ fl_Tape_22) (fun _ h9 => h9) rfl d_Tape_lastPlace_25 ?_
        refine lv_iload_n hx hb d_Tape_lastPlace_28 rfl (lv_at hl 1 rfl) ?_
        refine ps_iald (f := σ.2.2.1 4) hx hb hK hP (k := 4) (by omega) 0 ps_E_4 rfl (i := j) (by omega) (by decide) d_Tape_lastPlace_29 ?_
        refine lv_iconst (v := -1) hx hb d_Tape_lastPlace_30 (by decide) ?_
        refine lv_icmp_ne (tgt := 38) hx hb d_Tape_lastPlace_31 (by decide) (fun c_31 => ?_) (fun c_31 => ?_)
        · refine lv_iconst (v := nI 0) hx hb d_Tape_lastPlace_38 (by decide) ?_
          refine lv_istore_n (lv' := [(3, .int (nI 0)), (0, .ref (g 1)), (1, .int (nI j)), (2, .int len)]) hx hb d_Tape_lastPlace_39 rfl hl (by decide) rfl (fun ls hl => ?_)
          refine lv_iload_n hx hb d_Tape_lastPlace_40 rfl (lv_at hl 0 rfl) ?_
          refine lv_if_eq (tgt := 50) hx hb d_Tape_lastPlace_41 (by decide) (fun c_41 => ?_) (fun c_41 => ?_)
          · refine lv_aload_n hx hb d_Tape_lastPlace_50 rfl (lv_at hl 1 rfl) ?_
            refine ps_get (v := .ref (g 4)) hx hb hT i_Tape hown hK hP (k := 1) (by omega) ps_E_1 rfl 3 (by decide) (hT _ fl_Tape_22) (fun _ h9 => h9) rfl d_Tape_lastPlace_51 ?_
            refine lv_iload_n hx hb d_Tape_lastPlace_54 rfl (lv_at hl 2 rfl) ?_
            refine ps_iald (f := σ.2.2.1 4) hx hb hK hP (k := 4) (by omega) 0 ps_E_4 rfl (i := j) (by omega) (by decide) d_Tape_lastPlace_55 ?_
            refine lv_iload_n hx hb d_Tape_lastPlace_56 rfl (lv_at hl 3 rfl) ?_
            refine lv_iconst (v := nI 1) hx hb d_Tape_lastPlace_57 (by decide) ?_
            refine lv_isub hx hb d_Tape_lastPlace_58 ?_
            refine va_mmin hx hb (hml.trans hl.1.symm) hown (hT _ ml_Tape_54) (hT _ st_Math_min) (hT _ in_Math) (hT _ co_Math_min) (Nat.le_of_ble_eq_true rfl) (Nat.le_of_ble_eq_true rfl) (Nat.zero_le _) (Nat.zero_le _) d_Tape_lastPlace_59 ?_
            rw [hQ]
            exact W.iret (v := if (len - (nI 1)) < (σ.2.2.1 4 j) then (len - (nI 1)) else (σ.2.2.1 4 j)) hx hb hr (fun zt ht _ => ⟨_, rfl, by simp_all, ht⟩) (fun q h => absurd h List.not_mem_nil) d_Tape_lastPlace_62
          · exact absurd (by decide) c_41
        · refine lv_iconst (v := nI 1) hx hb d_Tape_lastPlace_34 (by decide) ?_
          refine lv_goto (tgt := 39) hx hb d_Tape_lastPlace_35 (by decide) ?_
          refine lv_istore_n (lv' := [(3, .int (nI 1)), (0, .ref (g 1)), (1, .int (nI j)), (2, .int len)]) hx hb d_Tape_lastPlace_39 rfl hl (by decide) rfl (fun ls hl => ?_)
          refine lv_iload_n hx hb d_Tape_lastPlace_40 rfl (lv_at hl 0 rfl) ?_
          refine lv_if_eq (tgt := 50) hx hb d_Tape_lastPlace_41 (by decide) (fun c_41 => ?_) (fun c_41 => ?_)
          · exact absurd c_41 (by decide)
          · refine lv_iload_n hx hb d_Tape_lastPlace_44 rfl (lv_at hl 3 rfl) ?_
            refine lv_iconst (v := nI 1) hx hb d_Tape_lastPlace_45 (by decide) ?_
            refine lv_isub hx hb d_Tape_lastPlace_46 ?_
            refine lv_goto (tgt := 62) hx hb d_Tape_lastPlace_47 (by decide) ?_
            rw [hQ]
            exact W.iret (v := len - (nI 1)) hx hb hr (fun zt ht _ => ⟨_, rfl, by simp_all, ht⟩) (fun q h => absurd h List.not_mem_nil) d_Tape_lastPlace_62
    · exact absurd (nI_lt hj (by decide)) c_7

def rm_Tape_append : Room := { frames := 1, cells := 0, slots := 0, locals := 22 }
abbrev ws_Tape_append : List Cond := .code y_Tape_append b_Tape_append 6 (some .boolean) :: ps_tb
set_option maxHeartbeats 4000000 in
set_option maxRecDepth 100000 in
theorem c_Tape_append {l : Launch} {D : va_G} {g : Nat → Nat} {cI cJ cT : ClassId} {σ : ps_σ} (hg : ps_inj 33 g) (t : Nat) (hn : σ.1 1 1 = nI t) (hn60 : t ≤ 60) (x : Int64) (nx : Int32) : Met l y_Tape_append ws_Tape_append rm_Tape_append (ps_Pc D ps_cl (ps_tys cI cJ cT) 33 g (ps_E g cI cJ cT σ) [.ref (g 1), .long x, .int nx]) (ps_Qi (S := ps_σ) D ps_cl 33 g (fun u => ps_E g cI cJ cT u) (fun r u => (∃ nn : Nat, nx = nI nn ∧ 1 ≤ nn ∧ ps_tyOK x nx t ∧ t + nn ≤ 60 ∧ r = 1 ∧ ∃ f : Nat → Int32, u = ps_upI (ps_upA σ 2 f) 1 1 (nI (t + nn)) ∧ (∀ i, i < t → f i = σ.2.2.1 2 i) ∧ ∀ i, i < nn → f (t + i) = nI (ps_by x (nn - 1 - i))) ∨ (¬ ps_tyOK x nx t ∧ r = 0 ∧ u = σ))) 0 0 (ps_wA 33 g) := by
  refine ps_met (by decide) ?_
  intro p e s m args below meth c hx hb hr hml hts hown hlocks hname hv Q hQ
  obtain ⟨ha, hP, hK⟩ := hv
  have hT : ∀ w ∈ ps_tb, w.before args s = true := fun w h => hts w (List.mem_cons_of_mem _ h)
  have hown : s.vm.findClass R_Tape = some m.cls := hown
  have hS : va_S (ps_wA 33 g) s.heap s.heap [] := va_S.rf
  refine ps_enter ha (Nat.le_of_ble_eq_true rfl) (fun ls hl => ?_)
  have hl : lv_has ls 6 [(0, .ref (g 1)), (1, .long x), (3, .int nx)] := hl
  refine lv_iload_n hx hb d_Tape_append_0 rfl (lv_at hl 2 rfl) ?_
  refine lv_iconst (v := nI 1) hx hb d_Tape_append_1 (by decide) ?_
  refine lv_icmp_lt (tgt := 22) hx hb d_Tape_append_2 (by decide) (fun c_2 => ?_) (fun c_2 => ?_)
  · refine lv_iconst (v := nI 0) hx hb d_Tape_append_22 (by decide) ?_
    rw [hQ]
    exact W.zret (v := nI 0) (ty := .boolean) hx hb hr (by decide +kernel) (fun zt ht _ => ⟨⟨_, _, rfl, Or.inr ⟨fun ⟨nn, e1, h1, _⟩ => absurd c_2 (by rw [e1]; exact nI_nlt h1 (by omega)), rfl, rfl⟩, ps_hp ht hP⟩, hS.F ht⟩) hS.2.2 d_Tape_append_23
  · refine lv_iload_n hx hb d_Tape_append_5 rfl (lv_at hl 2 rfl) ?_
    refine lv_bipush (v := nI 8) hx hb d_Tape_append_6 (by decide) ?_
    refine lv_icmp_gt (tgt := 22) hx hb d_Tape_append_8 (by decide) (fun c_8 => ?_) (fun c_8 => ?_)
    · refine lv_iconst (v := nI 0) hx hb d_Tape_append_22 (by decide) ?_
      rw [hQ]
      exact W.zret (v := nI 0) (ty := .boolean) hx hb hr (by decide +kernel) (fun zt ht _ => ⟨⟨_, _, rfl, Or.inr ⟨fun ⟨nn, e1, _, h1, _⟩ => absurd c_8 (by rw [e1]; exact nI_nlt h1 (by decide)), rfl, rfl⟩, ps_hp ht hP⟩, hS.F ht⟩) hS.2.2 d_Tape_append_23
    · obtain ⟨nn, rfl, hn1, hn8⟩ := ps_18 c_2 c_8
      refine lv_aload_n hx hb d_Tape_append_11 rfl (lv_at hl 0 rfl) ?_
      refine ps_get (v := .int (σ.1 1 1)) hx hb hT i_Tape hown hK hP (k := 1) (by omega) ps_E_1 rfl 1 (by decide) (hT _ fl_Tape_15) (fun _ h9 => h9) rfl d_Tape_append_12 ?_
      refine ps_seti (y := nI t) hn ?_
      refine lv_iload_n hx hb d_Tape_append_15 rfl (lv_at hl 2 rfl) ?_
      refine lv_iadd hx hb d_Tape_append_16 ?_
      refine ps_seti (y := nI (t + nn)) (nI_add t nn) ?_
      refine lv_bipush (v := nI 60) hx hb d_Tape_append_17 (by decide) ?_
      refine lv_icmp_le (tgt := 24) hx hb d_Tape_append_19 (by decide) (fun c_19 => ?_) (fun c_19 => ?_)
      · have h60 : t + nn ≤ 60 := ps_leT c_19 (by omega) (by decide)
        refine lv_iconst (v := nI 0) hx hb d_Tape_append_24 (by decide) ?_
        refine lv_istore (lv' := [(4, .int (nI 0)), (0, .ref (g 1)), (1, .long x), (3, .int (nI nn))]) hx hb d_Tape_append_25 hl (by decide) rfl (fun ls hl => ?_)
        have L_a : ∀ (n_a : Nat) (k : Nat), (k ≤ nn) → (∀ j, j < k → 33 ≤ ps_by x j ∧ ps_by x j ≤ 126) → nn - k < n_a → ∀ (ls : Array Slot), lv_has ls 6 [(0, .ref (g 1)), (1, .long x), (3, .int (nI nn)), (4, .int (nI k))] → W p l e rm_Tape_append s m args below meth c s.heap [] 0 0 Q (F0 m 27 ls []) := by
          intro n_a
          induction n_a with
          | zero => intro k hk hby hf_a; exact absurd hf_a (Nat.not_lt_zero _)
          | succ n_a ih_a =>
            intro k hk hby hf_a ls hl
            refine lv_iload hx hb d_Tape_append_27 (lv_at hl 3 rfl) ?_
            refine lv_iload_n hx hb d_Tape_append_29 rfl (lv_at hl 2 rfl) ?_
            refine lv_icmp_ge (tgt := 63) hx hb d_Tape_append_30 (by decide) (fun c_30 => ?_) (fun c_30 => ?_)
            · have hkn : k = nn := by have := ps_leT c_30 (by omega) (by omega); omega
              have hok : ps_tyOK x (nI nn) t := ⟨nn, rfl, hn1, hn8, h60, fun j hj => hby j (by omega)⟩
              refine lv_iload_n hx hb d_Tape_append_63 rfl (lv_at hl 2 rfl) ?_
              refine lv_iconst (v := nI 1) hx hb d_Tape_append_64 (by decide) ?_
              refine lv_isub hx hb d_Tape_append_65 ?_
              refine ps_seti (y := ps_pr nn) (ps_sub1 nn) ?_
              refine lv_istore (lv' := [(4, .int (ps_pr nn)), (0, .ref (g 1)), (1, .long x), (3, .int (nI nn))]) hx hb d_Tape_append_66 hl (by decide) rfl (fun ls hl => ?_)
              have L_b : ∀ (n_b : Nat) (v : Nat) (f : Nat → Int32), (v ≤ nn) → (∀ i, i < t → f i = σ.2.2.1 2 i) → (∀ i, i < nn - v → f (t + i) = nI (ps_by x (nn - 1 - i))) → v < n_b → ∀ (H : Heap) (locs : List Loc), va_P D ps_cl (ps_wl 33 g (ps_E g cI cJ cT (ps_upI (ps_upA σ 2 f) 1 1 (nI (t + (nn - v)))))) H → va_S (ps_wA 33 g) s.heap H locs → ∀ (ls : Array Slot), lv_has ls 6 [(0, .ref (g 1)), (1, .long x), (4, .int (ps_pr v))] → W p l e rm_Tape_append s m args below meth c H locs 0 0 Q (F0 m 68 ls []) := by
                intro n_b
                induction n_b with
                | zero => intro v f hv hf1 hf2 hf_b; exact absurd hf_b (Nat.not_lt_zero _)
                | succ n_b ih_b =>
                  intro v f hv hf1 hf2 hf_b H locs hP hS ls hl
                  refine lv_iload hx hb d_Tape_append_68 (lv_at hl 2 rfl) ?_
                  refine lv_if_lt (tgt := 104) hx hb d_Tape_append_70 (by decide) (fun c_70 => ?_) (fun c_70 => ?_)
                  · have hv0 : v = 0 := ps_pr_neg (by omega) c_70
                    refine lv_iconst (v := nI 1) hx hb d_Tape_append_104 (by decide) ?_
                    rw [hQ]
                    exact W.zret (v := nI 1) (ty := .boolean) hx hb hr (by decide +kernel) (fun zt ht _ => ⟨⟨_, _, rfl, Or.inl ⟨nn, rfl, hn1, hok, h60, rfl, f, by rw [hv0]; rfl, hf1, fun i hi => hf2 i (by omega)⟩, ps_hp ht hP⟩, hS.F ht⟩) hS.2.2 d_Tape_append_105
                  · have hv0 : ¬ v = 0 := ps_pr_pos c_70
                    obtain ⟨w, rfl⟩ : ∃ z, v = z + 1 := ⟨v - 1, by omega⟩
                    rw [ps_pr_s] at hl
                    refine lv_aload_n hx hb d_Tape_append_73 rfl (lv_at hl 0 rfl) ?_
                    refine ps_get (v := .ref (g 2)) hx hb hT i_Tape hown hK hP (k := 1) (by omega) rfl rfl 0 (by decide) (hT _ fl_Tape_11) (fun _ h9 => h9) rfl d_Tape_append_74 ?_
                    refine lv_aload_n hx hb d_Tape_append_77 rfl (lv_at hl 0 rfl) ?_
                    refine ps_get (v := .int (nI (t + (nn - (w + 1))))) hx hb hT i_Tape hown hK hP (k := 1) (by omega) rfl rfl 1 (by decide) (hT _ fl_Tape_15) (fun _ h9 => h9) rfl d_Tape_append_78 ?_
                    refine lv_lload_n hx hb d_Tape_append_81 rfl (lv_at hl 1 rfl) ?_
                    refine lv_iload hx hb d_Tape_append_82 (lv_at hl 2 rfl) ?_
                    refine ps_sti (As := [.long x, .int (nI w)]) (rest := [.int (nI (t + (nn - (w + 1)))), .ref (g 2)]) ⟨hx, hb, hml, hown, hT⟩ (c_Tape_byteOf x w (by omega)) (va_cwS 2 hT (ps_gS ml_Tape_25 st_Tape_byteOf in_Tape co_Tape_byteOf) rfl rfl rfl cs_Tape_byteOf ⟨Nat.le_of_ble_eq_true rfl, Nat.le_of_ble_eq_true rfl⟩) rfl hl.1 rfl (Nat.le_of_ble_eq_true rfl) d_Tape_append_84 ⟨Nat.zero_le _, Nat.zero_le _⟩ (fun rr hrr => ?_)
                    subst hrr
                    refine ps_iast (f := f) hx hb hK hg hP hS (k := 2) (by omega) 0 rfl rfl (i := t + (nn - (w + 1))) (by omega) (by decide) d_Tape_append_87 (ps_E g cI cJ cT (ps_upA (ps_upI (ps_upA σ 2 f) 1 1 (nI (t + (nn - (w + 1))))) 2 (va_up f (t + (nn - (w + 1))) (nI (ps_by x w))))) rfl (fun i _ h => by apply ps_E_ext <;> first | rfl | simp [ps_upI, ps_upU, ps_upA, ps_upB, va_up, h]) (fun H locs hP hS => ?_)
                    refine lv_aload_n hx hb d_Tape_append_88 rfl (lv_at hl 0 rfl) ?_
                    refine lv_dup hx hb d_Tape_append_89 rfl ?_
                    refine ps_get (v := .int (nI (t + (nn - (w + 1))))) hx hb hT i_Tape hown hK hP (k := 1) (by omega) rfl rfl 1 (by decide) (hT _ fl_Tape_15) (fun _ h9 => h9) rfl d_Tape_append_90 ?_
                    refine lv_iconst (v := nI 1) hx hb d_Tape_append_93 (by decide) ?_
                    refine lv_iadd hx hb d_Tape_append_94 ?_
                    refine ps_seti (y := nI (t + (nn - (w + 1)) + 1)) (nI_1 _) ?_
                    refine ps_put (v := .int (nI (t + (nn - (w + 1)) + 1))) (ty := .int) hx hb hT i_Tape t_Tape t_Tape_ok n_Tape hown hK hg hP hS (k := 1) (by omega) rfl rfl 1 (by decide) (hT _ fl_Tape_15) (fun _ h9 => h9) rfl (by decide +kernel) rfl rfl (Nat.le_of_ble_eq_true rfl) d_Tape_append_95 (ps_E g cI cJ cT (ps_upI (ps_upA (ps_upI (ps_upA σ 2 f) 1 1 (nI (t + (nn - (w + 1))))) 2 (va_up f (t + (nn - (w + 1))) (nI (ps_by x w)))) 1 1 (nI (t + (nn - (w + 1)) + 1)))) rfl (fun i _ h => by apply ps_E_ext <;> first | rfl | simp [ps_upI, ps_upU, ps_upA, ps_upB, va_up, h]) (fun H locs hP hS => ?_)
                    refine lv_iinc (v := (ps_pr w)) (lv' := [(4, .int (ps_pr w)), (0, .ref (g 1)), (1, .long x)]) hx hb d_Tape_append_98 hl (k := 2) rfl rfl (by decide) rfl (fun ls hl => ?_)
                    refine lv_goto (tgt := 68) hx hb d_Tape_append_101 (by decide) ?_
                    exact ih_b w (va_up f (t + (nn - (w + 1))) (nI (ps_by x w))) (by omega) (fun i hi => by rw [va_up_ne _ _ (by omega)]; exact hf1 i hi) (fun i hi => by
                      rcases Nat.lt_or_ge i (nn - (w + 1)) with z | z
                      · rw [va_up_ne _ _ (by omega)]; exact hf2 i z
                      · have z2 : i = nn - (w + 1) := by omega
                        subst z2; rw [va_up_self, show nn - 1 - (nn - (w + 1)) = w by omega]) (by omega) _ _ (by rw [ps_AI, ps_AA, ps_II, show t + (nn - (w + 1)) + 1 = t + (nn - w) by omega] at hP; exact hP) hS ls (lv_sub hl [1, 2, 0] rfl)
              exact L_b (nn + 1) nn (σ.2.2.1 2) (Nat.le_refl nn) (fun i _ => rfl) (fun i hi => absurd hi (by omega)) (by omega) _ _ (by rw [ps_upA_self, ps_upI_self (by rw [hn, Nat.sub_self]; rfl)]; exact hP) hS ls (lv_sub hl [1, 2, 0] rfl)
            · have hkn : k < nn := by have := ps_ltOf c_30 (by omega) (by omega); omega
              refine lv_lload_n hx hb d_Tape_append_33 rfl (lv_at hl 1 rfl) ?_
              refine lv_iload hx hb d_Tape_append_34 (lv_at hl 3 rfl) ?_
              refine ps_sti (As := [.long x, .int (nI k)]) (rest := []) ⟨hx, hb, hml, hown, hT⟩ (c_Tape_byteOf x k (by omega)) (va_cwS 2 hT (ps_gS ml_Tape_25 st_Tape_byteOf in_Tape co_Tape_byteOf) rfl rfl rfl cs_Tape_byteOf ⟨Nat.le_of_ble_eq_true rfl, Nat.le_of_ble_eq_true rfl⟩) rfl hl.1 rfl (Nat.le_of_ble_eq_true rfl) d_Tape_append_36 ⟨Nat.zero_le _, Nat.zero_le _⟩ (fun rr hrr => ?_)
              subst hrr
              refine lv_istore (lv' := [(5, .int (nI (ps_by x k))), (0, .ref (g 1)), (1, .long x), (3, .int (nI nn)), (4, .int (nI k))]) hx hb d_Tape_append_39 hl (by decide) rfl (fun ls hl => ?_)
              refine lv_iload hx hb d_Tape_append_41 (lv_at hl 0 rfl) ?_
              refine lv_bipush (v := nI 33) hx hb d_Tape_append_43 (by decide) ?_
              refine lv_icmp_lt (tgt := 55) hx hb d_Tape_append_45 (by decide) (fun c_45 => ?_) (fun c_45 => ?_)
              · have hb0 := ps_ltT c_45 (by have := ps_by_lt x k; omega) (by decide)
                refine lv_iconst (v := nI 0) hx hb d_Tape_append_55 (by decide) ?_
                rw [hQ]
                exact W.zret (v := nI 0) (ty := .boolean) hx hb hr (by decide +kernel) (fun zt ht _ => ⟨⟨_, _, rfl, Or.inr ⟨fun ⟨mm, e1, _, h2, _, h1⟩ => by have := (nI_eq (by omega) (by omega)).mp e1; have := h1 k (by omega); omega, rfl, rfl⟩, ps_hp ht hP⟩, hS.F ht⟩) hS.2.2 d_Tape_append_56
              · have hb33 := ps_leOf c_45 (by have := ps_by_lt x k; omega) (by decide)
                refine lv_iload hx hb d_Tape_append_48 (lv_at hl 0 rfl) ?_
                refine lv_bipush (v := nI 126) hx hb d_Tape_append_50 (by decide) ?_
                refine lv_icmp_le (tgt := 57) hx hb d_Tape_append_52 (by decide) (fun c_52 => ?_) (fun c_52 => ?_)
                · have hb126 := ps_leT c_52 (by have := ps_by_lt x k; omega) (by decide)
                  refine lv_iinc (v := (nI (k + 1))) (lv' := [(4, .int (nI (k + 1))), (5, .int (nI (ps_by x k))), (0, .ref (g 1)), (1, .long x), (3, .int (nI nn))]) hx hb d_Tape_append_57 hl (k := 4) rfl (nI_1 _) (by decide) rfl (fun ls hl => ?_)
                  refine lv_goto (tgt := 27) hx hb d_Tape_append_60 (by decide) ?_
                  exact ih_a (k + 1) (by omega) (fun j hj => by
                    rcases Nat.lt_or_ge j k with z | z
                    · exact hby j z
                    · have z2 : j = k := by omega
                      subst z2; exact ⟨hb33, hb126⟩) (by omega)  ls (lv_sub hl [2, 3, 4, 0] rfl)
                · have hb0 := c_52
                  refine lv_iconst (v := nI 0) hx hb d_Tape_append_55 (by decide) ?_
                  rw [hQ]
                  exact W.zret (v := nI 0) (ty := .boolean) hx hb hr (by decide +kernel) (fun zt ht _ => ⟨⟨_, _, rfl, Or.inr ⟨fun ⟨mm, e1, _, h2, _, h1⟩ => by have := (nI_eq (by omega) (by omega)).mp e1; exact hb0 (nI_le (h1 k (by omega)).2 (by decide)), rfl, rfl⟩, ps_hp ht hP⟩, hS.F ht⟩) hS.2.2 d_Tape_append_56
        exact L_a (nn - 0 + 1) 0 (by omega) (fun j hj => absurd hj (Nat.not_lt_zero j)) (by omega)  ls (lv_sub hl [1, 2, 3, 0] rfl)
      · have h60 : ¬ t + nn ≤ 60 := fun h => c_19 (nI_le h (by decide))
        refine lv_iconst (v := nI 0) hx hb d_Tape_append_22 (by decide) ?_
        rw [hQ]
        exact W.zret (v := nI 0) (ty := .boolean) hx hb hr (by decide +kernel) (fun zt ht _ => ⟨⟨_, _, rfl, Or.inr ⟨fun ⟨mm, e1, _, _, h1, _⟩ => h60 (by have := (nI_eq (by omega) (by omega)).mp e1; omega), rfl, rfl⟩, ps_hp ht hP⟩, hS.F ht⟩) hS.2.2 d_Tape_append_23
