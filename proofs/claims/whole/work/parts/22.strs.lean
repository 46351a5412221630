theorem fl_String_1053 : (.fieldLink R_String 1053 R_Preconditions "SIOOBE_FORMATTER" "Ljava/util/function/BiFunction;" : Cond) ∈ ps_tb := ps_in 324 (by decide +kernel) rfl
theorem ml_String_1059 : (.methodLink R_String 1059 y_Preconditions_checkIndex : Cond) ∈ ps_tb := ps_in 326 (by decide +kernel) rfl
theorem st_Preconditions_checkIndex : (.static y_Preconditions_checkIndex : Cond) ∈ ps_tb := ps_in 327 (by decide +kernel) rfl
theorem in_Preconditions : (.initialized R_Preconditions : Cond) ∈ ps_tb := ps_in 11 (by decide +kernel) rfl
theorem co_Preconditions_checkIndex : (.code y_Preconditions_checkIndex b_Preconditions_checkIndex 3 (some .int) : Cond) ∈ ps_tb := ps_in 328 (by decide +kernel) rfl
theorem ml_StringLatin1_9 : (.methodLink R_StringLatin1 9 y_String_checkIndex : Cond) ∈ ps_tb := ps_in 321 (by decide +kernel) rfl
theorem st_String_checkIndex : (.static y_String_checkIndex : Cond) ∈ ps_tb := ps_in 322 (by decide +kernel) rfl
theorem in_String : (.initialized R_String : Cond) ∈ ps_tb := ps_in 9 (by decide +kernel) rfl
theorem co_String_checkIndex : (.code y_String_checkIndex b_String_checkIndex 2 none : Cond) ∈ ps_tb := ps_in 323 (by decide +kernel) rfl
theorem fl_String_38 : (.fieldLink R_String 38 R_String "COMPACT_STRINGS" "Z" : Cond) ∈ ps_tb := ps_in 304 (by decide +kernel) rfl
theorem fl_String_15 : (.fieldLink R_String 15 R_String "coder" "B" : Cond) ∈ ps_tb := ps_in 728 (by decide +kernel) rfl
theorem fl_String_9 : (.fieldLink R_String 9 R_String "value" "[B" : Cond) ∈ ps_tb := ps_in 727 (by decide +kernel) rfl
theorem im_String_coder : (.instanceMethod y_String_coder : Cond) ∈ ps_tb := ps_in 301 (by decide +kernel) rfl
theorem se_String_coder : (.selects R_String y_String_coder y_String_coder : Cond) ∈ ps_tb := ps_in 302 (by decide +kernel) rfl
theorem co_String_coder : (.code y_String_coder b_String_coder 1 (some .byte) : Cond) ∈ ps_tb := ps_in 303 (by decide +kernel) rfl
theorem ml_String_335 : (.methodLink R_String 335 y_String_coder : Cond) ∈ ps_tb := ps_in 300 (by decide +kernel) rfl
theorem im_String_isLatin1 : (.instanceMethod y_String_isLatin1 : Cond) ∈ ps_tb := ps_in 315 (by decide +kernel) rfl
theorem se_String_isLatin1 : (.selects R_String y_String_isLatin1 y_String_isLatin1 : Cond) ∈ ps_tb := ps_in 316 (by decide +kernel) rfl
theorem co_String_isLatin1 : (.code y_String_isLatin1 b_String_isLatin1 1 (some .boolean) : Cond) ∈ ps_tb := ps_in 317 (by decide +kernel) rfl
theorem ml_String_492 : (.methodLink R_String 492 y_String_isLatin1 : Cond) ∈ ps_tb := ps_in 314 (by decide +kernel) rfl
theorem ml_String_495 : (.methodLink R_String 495 y_StringLatin1_charAt : Cond) ∈ ps_tb := ps_in 318 (by decide +kernel) rfl
theorem st_StringLatin1_charAt : (.static y_StringLatin1_charAt : Cond) ∈ ps_tb := ps_in 319 (by decide +kernel) rfl
theorem in_StringLatin1 : (.initialized R_StringLatin1 : Cond) ∈ ps_tb := ps_in 10 (by decide +kernel) rfl
theorem co_StringLatin1_charAt : (.code y_StringLatin1_charAt b_StringLatin1_charAt 2 (some .char) : Cond) ∈ ps_tb := ps_in 320 (by decide +kernel) rfl
theorem cs_Preconditions_checkIndex : y_Preconditions_checkIndex.cls ≠ "java/lang/invoke/MethodHandle" ∧ y_Preconditions_checkIndex.cls ≠ "java/lang/invoke/VarHandle" ∧ (parseMethodDescriptor y_Preconditions_checkIndex.desc).map (fun d => d.parameters.length) = some 3 := by decide +kernel
theorem cs_StringLatin1_charAt : y_StringLatin1_charAt.cls ≠ "java/lang/invoke/MethodHandle" ∧ y_StringLatin1_charAt.cls ≠ "java/lang/invoke/VarHandle" ∧ (parseMethodDescriptor y_StringLatin1_charAt.desc).map (fun d => d.parameters.length) = some 2 := by decide +kernel
theorem cs_String_checkIndex : y_String_checkIndex.cls ≠ "java/lang/invoke/MethodHandle" ∧ y_String_checkIndex.cls ≠ "java/lang/invoke/VarHandle" ∧ (parseMethodDescriptor y_String_checkIndex.desc).map (fun d => d.parameters.length) = some 2 := by decide +kernel
theorem cd_String_coder : y_String_coder.cls = R_String ∧ y_String_coder.cls ≠ "java/lang/invoke/MethodHandle" ∧ y_String_coder.cls ≠ "java/lang/invoke/VarHandle" ∧ (parseMethodDescriptor y_String_coder.desc).map (fun d => d.parameters.length) = some 0 := by decide +kernel
theorem cd_String_isLatin1 : y_String_isLatin1.cls = R_String ∧ y_String_isLatin1.cls ≠ "java/lang/invoke/MethodHandle" ∧ y_String_isLatin1.cls ≠ "java/lang/invoke/VarHandle" ∧ (parseMethodDescriptor y_String_isLatin1.desc).map (fun d => d.parameters.length) = some 0 := by decide +kernel
theorem d_String_length_0 : decode b_String_length 0 = .ok (.aload_n 0, 1) := by decide +kernel
theorem d_String_length_1 : decode b_String_length 1 = .ok (.getfield 9, 3) := by decide +kernel
theorem d_String_length_4 : decode b_String_length 4 = .ok (.arraylength, 1) := by decide +kernel
theorem d_String_length_5 : decode b_String_length 5 = .ok (.aload_n 0, 1) := by decide +kernel
theorem d_String_length_6 : decode b_String_length 6 = .ok (.invokevirtual 335, 3) := by decide +kernel
theorem d_String_length_9 : decode b_String_length 9 = .ok (.ishr, 1) := by decide +kernel
theorem d_String_length_10 : decode b_String_length 10 = .ok (.ireturn, 1) := by decide +kernel
theorem d_String_coder_0 : decode b_String_coder 0 = .ok (.getstatic 38, 3) := by decide +kernel
theorem d_String_coder_3 : decode b_String_coder 3 = .ok (.ifCond .eq 10, 3) := by decide +kernel
theorem d_String_coder_6 : decode b_String_coder 6 = .ok (.aload_n 0, 1) := by decide +kernel
theorem d_String_coder_7 : decode b_String_coder 7 = .ok (.getfield 15, 3) := by decide +kernel
theorem d_String_coder_10 : decode b_String_coder 10 = .ok (.goto 4, 3) := by decide +kernel
theorem d_String_coder_13 : decode b_String_coder 13 = .ok (.iconst 1, 1) := by decide +kernel
theorem d_String_coder_14 : decode b_String_coder 14 = .ok (.ireturn, 1) := by decide +kernel
theorem d_String_charAt_0 : decode b_String_charAt 0 = .ok (.aload_n 0, 1) := by decide +kernel
theorem d_String_charAt_1 : decode b_String_charAt 1 = .ok (.invokevirtual 492, 3) := by decide +kernel
theorem d_String_charAt_4 : decode b_String_charAt 4 = .ok (.ifCond .eq 12, 3) := by decide +kernel
theorem d_String_charAt_7 : decode b_String_charAt 7 = .ok (.aload_n 0, 1) := by decide +kernel
theorem d_String_charAt_8 : decode b_String_charAt 8 = .ok (.getfield 9, 3) := by decide +kernel
theorem d_String_charAt_11 : decode b_String_charAt 11 = .ok (.iload_n 1, 1) := by decide +kernel
theorem d_String_charAt_12 : decode b_String_charAt 12 = .ok (.invokestatic 495, 3) := by decide +kernel
theorem d_String_charAt_15 : decode b_String_charAt 15 = .ok (.ireturn, 1) := by decide +kernel
theorem d_String_charAt_16 : decode b_String_charAt 16 = .ok (.aload_n 0, 1) := by decide +kernel
theorem d_String_charAt_17 : decode b_String_charAt 17 = .ok (.getfield 9, 3) := by decide +kernel
theorem d_String_charAt_20 : decode b_String_charAt 20 = .ok (.iload_n 1, 1) := by decide +kernel
theorem d_String_charAt_21 : decode b_String_charAt 21 = .ok (.invokestatic 498, 3) := by decide +kernel
theorem d_String_charAt_24 : decode b_String_charAt 24 = .ok (.ireturn, 1) := by decide +kernel
theorem d_String_isLatin1_0 : decode b_String_isLatin1 0 = .ok (.getstatic 38, 3) := by decide +kernel
theorem d_String_isLatin1_3 : decode b_String_isLatin1 3 = .ok (.ifCond .eq 14, 3) := by decide +kernel
theorem d_String_isLatin1_6 : decode b_String_isLatin1 6 = .ok (.aload_n 0, 1) := by decide +kernel
theorem d_String_isLatin1_7 : decode b_String_isLatin1 7 = .ok (.getfield 15, 3) := by decide +kernel
theorem d_String_isLatin1_10 : decode b_String_isLatin1 10 = .ok (.ifCond .ne 7, 3) := by decide +kernel
theorem d_String_isLatin1_13 : decode b_String_isLatin1 13 = .ok (.iconst 1, 1) := by decide +kernel
theorem d_String_isLatin1_14 : decode b_String_isLatin1 14 = .ok (.goto 4, 3) := by decide +kernel
theorem d_String_isLatin1_17 : decode b_String_isLatin1 17 = .ok (.iconst 0, 1) := by decide +kernel
theorem d_String_isLatin1_18 : decode b_String_isLatin1 18 = .ok (.ireturn, 1) := by decide +kernel
theorem d_StringLatin1_charAt_0 : decode b_StringLatin1_charAt 0 = .ok (.iload_n 1, 1) := by decide +kernel
theorem d_StringLatin1_charAt_1 : decode b_StringLatin1_charAt 1 = .ok (.aload_n 0, 1) := by decide +kernel
theorem d_StringLatin1_charAt_2 : decode b_StringLatin1_charAt 2 = .ok (.arraylength, 1) := by decide +kernel
theorem d_StringLatin1_charAt_3 : decode b_StringLatin1_charAt 3 = .ok (.invokestatic 9, 3) := by decide +kernel
theorem d_StringLatin1_charAt_6 : decode b_StringLatin1_charAt 6 = .ok (.aload_n 0, 1) := by decide +kernel
theorem d_StringLatin1_charAt_7 : decode b_StringLatin1_charAt 7 = .ok (.iload_n 1, 1) := by decide +kernel
theorem d_StringLatin1_charAt_8 : decode b_StringLatin1_charAt 8 = .ok (.baload, 1) := by decide +kernel
theorem d_StringLatin1_charAt_9 : decode b_StringLatin1_charAt 9 = .ok (.sipush 255, 3) := by decide +kernel
theorem d_StringLatin1_charAt_12 : decode b_StringLatin1_charAt 12 = .ok (.iand, 1) := by decide +kernel
theorem d_StringLatin1_charAt_13 : decode b_StringLatin1_charAt 13 = .ok (.i2c, 1) := by decide +kernel
theorem d_StringLatin1_charAt_14 : decode b_StringLatin1_charAt 14 = .ok (.ireturn, 1) := by decide +kernel
theorem d_String_checkIndex_0 : decode b_String_checkIndex 0 = .ok (.iload_n 0, 1) := by decide +kernel
theorem d_String_checkIndex_1 : decode b_String_checkIndex 1 = .ok (.iload_n 1, 1) := by decide +kernel
theorem d_String_checkIndex_2 : decode b_String_checkIndex 2 = .ok (.getstatic 1053, 3) := by decide +kernel
theorem d_String_checkIndex_5 : decode b_String_checkIndex 5 = .ok (.invokestatic 1059, 3) := by decide +kernel
theorem d_String_checkIndex_8 : decode b_String_checkIndex 8 = .ok (.pop, 1) := by decide +kernel
theorem d_String_checkIndex_9 : decode b_String_checkIndex 9 = .ok (.return_, 1) := by decide +kernel
theorem d_Preconditions_checkIndex_0 : decode b_Preconditions_checkIndex 0 = .ok (.iload_n 0, 1) := by decide +kernel
theorem d_Preconditions_checkIndex_1 : decode b_Preconditions_checkIndex 1 = .ok (.ifCond .lt 8, 3) := by decide +kernel
theorem d_Preconditions_checkIndex_4 : decode b_Preconditions_checkIndex 4 = .ok (.iload_n 0, 1) := by decide +kernel
theorem d_Preconditions_checkIndex_5 : decode b_Preconditions_checkIndex 5 = .ok (.iload_n 1, 1) := by decide +kernel
theorem d_Preconditions_checkIndex_6 : decode b_Preconditions_checkIndex 6 = .ok (.if_icmp .lt 10, 3) := by decide +kernel
theorem d_Preconditions_checkIndex_9 : decode b_Preconditions_checkIndex 9 = .ok (.aload_n 2, 1) := by decide +kernel
theorem d_Preconditions_checkIndex_10 : decode b_Preconditions_checkIndex 10 = .ok (.iload_n 0, 1) := by decide +kernel
theorem d_Preconditions_checkIndex_11 : decode b_Preconditions_checkIndex 11 = .ok (.iload_n 1, 1) := by decide +kernel
theorem d_Preconditions_checkIndex_12 : decode b_Preconditions_checkIndex 12 = .ok (.invokestatic 95, 3) := by decide +kernel
theorem d_Preconditions_checkIndex_15 : decode b_Preconditions_checkIndex 15 = .ok (.athrow, 1) := by decide +kernel
theorem d_Preconditions_checkIndex_16 : decode b_Preconditions_checkIndex 16 = .ok (.iload_n 0, 1) := by decide +kernel
theorem d_Preconditions_checkIndex_17 : decode b_Preconditions_checkIndex 17 = .ok (.ireturn, 1) := by decide +kernel
def rm_Preconditions_checkIndex : Room := { frames := 0, cells := 0, slots := 0, locals := 0 }
abbrev ws_Preconditions_checkIndex : List Cond := .code y_Preconditions_checkIndex b_Preconditions_checkIndex 3 (some .int) :: ps_tb
set_option maxHeartbeats 4000000 in
set_option maxRecDepth 100000 in
theorem c_Preconditions_checkIndex {l : Launch} {aK aV : Nat} {vo : Option Nat} (i n : Nat) (hi : i < n) (hn : n < 2 ^ 31) : Met l y_Preconditions_checkIndex ws_Preconditions_checkIndex rm_Preconditions_checkIndex (ps_PS aK aV vo [.int (nI i), .int (nI n), va_rf vo]) (vp_Si (fun r => r = nI i)) 0 0 (fun _ => False) := by
  refine ps_met (by decide) ?_
  intro p e s m args below meth c hx hb hr hml hts hown hlocks hname hv Q hQ
  obtain ⟨ha, hT0⟩ := hv
  have hT : ∀ w ∈ ps_tb, w.before args s = true := fun w h => hts w (List.mem_cons_of_mem _ h)
  have hown : s.vm.findClass R_Preconditions = some m.cls := hown
  have hS : va_S ps_F s.heap s.heap [] := va_S.rf
  cases vo with
  | none =>
    refine ps_enter ha (Nat.le_of_ble_eq_true rfl) (fun ls hl => ?_)
    have hl : lv_has ls 3 [(0, .int (nI i)), (1, .int (nI n)), (2, .null)] := hl
    refine lv_iload_n hx hb d_Preconditions_checkIndex_0 rfl (lv_at hl 0 rfl) ?_
    refine lv_if_lt (tgt := 9) hx hb d_Preconditions_checkIndex_1 (by decide) (fun c1 => absurd c1 (nI_pos (by omega))) (fun _ => ?_)
    refine lv_iload_n hx hb d_Preconditions_checkIndex_4 rfl (lv_at hl 0 rfl) ?_
    refine lv_iload_n hx hb d_Preconditions_checkIndex_5 rfl (lv_at hl 1 rfl) ?_
    refine lv_icmp_lt (tgt := 16) hx hb d_Preconditions_checkIndex_6 (by decide) (fun _ => ?_) (fun c1 => absurd (nI_lt hi hn) c1)
    refine lv_iload_n hx hb d_Preconditions_checkIndex_16 rfl (lv_at hl 0 rfl) ?_
    rw [hQ]
    exact W.iret (v := nI i) hx hb hr (fun zt ht _ => ⟨_, rfl, rfl, ht⟩) (fun q h => absurd h List.not_mem_nil) d_Preconditions_checkIndex_17
  | some a =>
    refine ps_enter ha (Nat.le_of_ble_eq_true rfl) (fun ls hl => ?_)
    have hl : lv_has ls 3 [(0, .int (nI i)), (1, .int (nI n)), (2, .ref a)] := hl
    refine lv_iload_n hx hb d_Preconditions_checkIndex_0 rfl (lv_at hl 0 rfl) ?_
    refine lv_if_lt (tgt := 9) hx hb d_Preconditions_checkIndex_1 (by decide) (fun c1 => absurd c1 (nI_pos (by omega))) (fun _ => ?_)
    refine lv_iload_n hx hb d_Preconditions_checkIndex_4 rfl (lv_at hl 0 rfl) ?_
    refine lv_iload_n hx hb d_Preconditions_checkIndex_5 rfl (lv_at hl 1 rfl) ?_
    refine lv_icmp_lt (tgt := 16) hx hb d_Preconditions_checkIndex_6 (by decide) (fun _ => ?_) (fun c1 => absurd (nI_lt hi hn) c1)
    refine lv_iload_n hx hb d_Preconditions_checkIndex_16 rfl (lv_at hl 0 rfl) ?_
    rw [hQ]
    exact W.iret (v := nI i) hx hb hr (fun zt ht _ => ⟨_, rfl, rfl, ht⟩) (fun q h => absurd h List.not_mem_nil) d_Preconditions_checkIndex_17

def rm_String_checkIndex : Room := { frames := 1, cells := 0, slots := 0, locals := 22 }
abbrev ws_String_checkIndex : List Cond := .code y_String_checkIndex b_String_checkIndex 2 none :: ps_tb
set_option maxHeartbeats 4000000 in
set_option maxRecDepth 100000 in
theorem c_String_checkIndex {l : Launch} {aK aV : Nat} {vo : Option Nat} (i n : Nat) (hi : i < n) (hn : n < 2 ^ 31) : Met l y_String_checkIndex ws_String_checkIndex rm_String_checkIndex (ps_PS aK aV vo [.int (nI i), .int (nI n)]) (va_Sv (fun _ => True)) 0 0 (fun _ => False) := by
  refine ps_met (by decide) ?_
  intro p e s m args below meth c hx hb hr hml hts hown hlocks hname hv Q hQ
  obtain ⟨ha, hT0⟩ := hv
  have hT : ∀ w ∈ ps_tb, w.before args s = true := fun w h => hts w (List.mem_cons_of_mem _ h)
  have hown : s.vm.findClass R_String = some m.cls := hown
  have hS : va_S ps_F s.heap s.heap [] := va_S.rf
  refine ps_enter ha (Nat.le_of_ble_eq_true rfl) (fun ls hl => ?_)
  have hl : lv_has ls 2 [(0, .int (nI i)), (1, .int (nI n))] := hl
  refine lv_iload_n hx hb d_String_checkIndex_0 rfl (lv_at hl 0 rfl) ?_
  refine lv_iload_n hx hb d_String_checkIndex_1 rfl (lv_at hl 1 rfl) ?_
  refine va_gets (A := ps_F) hx hb hT0.2.2.2.2.2.1 hS hown (hT _ fl_String_1053) (fun _ h => h) d_String_checkIndex_2 ?_
  refine ps_strs (aK := aK) (aV := aV) (vo := vo) (As := [.int (nI i), .int (nI n), va_rf vo]) (rest := []) ⟨hx, hb, hml, hown, hT⟩ (c_Preconditions_checkIndex i n hi hn) (va_cwS 3 hT (ps_gS ml_String_1059 st_Preconditions_checkIndex in_Preconditions co_Preconditions_checkIndex) rfl rfl rfl cs_Preconditions_checkIndex ⟨Nat.le_of_ble_eq_true rfl, Nat.le_of_ble_eq_true rfl⟩) hT0 rfl hl.1 rfl (Nat.le_of_ble_eq_true rfl) d_String_checkIndex_5 ⟨Nat.zero_le _, Nat.zero_le _⟩ (fun rr _ => ?_)
  refine lv_pop hx hb d_String_checkIndex_8 rfl ?_
  rw [hQ]
  exact W.vret hx hb hr (fun zt ht _ => ⟨rfl, trivial, ht⟩) (fun q h => absurd h List.not_mem_nil) d_String_checkIndex_9

def rm_StringLatin1_charAt : Room := { frames := 2, cells := 0, slots := 0, locals := 43 }
abbrev ws_StringLatin1_charAt : List Cond := .code y_StringLatin1_charAt b_StringLatin1_charAt 2 (some .char) :: ps_tb
set_option maxHeartbeats 4000000 in
set_option maxRecDepth 100000 in
theorem c_StringLatin1_charAt {l : Launch} {aK aV : Nat} {vo : Option Nat} (i : Nat) (hi : i < 6) : Met l y_StringLatin1_charAt ws_StringLatin1_charAt rm_StringLatin1_charAt (ps_PS aK aV vo [.ref aV, .int (nI i)]) (vp_Si (fun r => r = ps_hb i)) 0 0 (fun _ => False) := by
  refine ps_met (by decide) ?_
  intro p e s m args below meth c hx hb hr hml hts hown hlocks hname hv Q hQ
  obtain ⟨ha, hT0⟩ := hv
  have hT : ∀ w ∈ ps_tb, w.before args s = true := fun w h => hts w (List.mem_cons_of_mem _ h)
  have hown : s.vm.findClass R_StringLatin1 = some m.cls := hown
  have hS : va_S ps_F s.heap s.heap [] := va_S.rf
  refine ps_enter ha (Nat.le_of_ble_eq_true rfl) (fun ls hl => ?_)
  have hl : lv_has ls 2 [(0, .ref aV), (1, .int (nI i))] := hl
  refine lv_iload_n hx hb d_StringLatin1_charAt_0 rfl (lv_at hl 1 rfl) ?_
  refine lv_aload_n hx hb d_StringLatin1_charAt_1 rfl (lv_at hl 0 rfl) ?_
  refine va_tlen (A := ps_F) (v := nI 6) hx hb hT0.2.2.2.1 hS rfl d_StringLatin1_charAt_2 ?_
  refine ps_strsv (aK := aK) (aV := aV) (vo := vo) (As := [.int (nI i), .int (nI 6)]) (rest := []) ⟨hx, hb, hml, hown, hT⟩ (c_String_checkIndex i 6 hi (by decide)) (va_cwS 2 hT (ps_gS ml_StringLatin1_9 st_String_checkIndex in_String co_String_checkIndex) rfl rfl rfl cs_String_checkIndex ⟨Nat.le_of_ble_eq_true rfl, Nat.le_of_ble_eq_true rfl⟩) hT0 rfl hl.1 rfl (Nat.le_of_ble_eq_true rfl) d_StringLatin1_charAt_3 ⟨Nat.zero_le _, Nat.zero_le _⟩ (fun _ => ?_)
  refine lv_aload_n hx hb d_StringLatin1_charAt_6 rfl (lv_at hl 0 rfl) ?_
  refine lv_iload_n hx hb d_StringLatin1_charAt_7 rfl (lv_at hl 1 rfl) ?_
  refine va_tb (A := ps_F) (v := .int (ps_hb i)) hx hb hT0.2.2.2.1 hS (vp_in_nI hi (by decide)) (by rw [nI_clamp (by omega)]) d_StringLatin1_charAt_8 ?_
  refine lv_sipush (v := nI 255) hx hb d_StringLatin1_charAt_9 (by decide) ?_
  refine lv_iand hx hb d_StringLatin1_charAt_12 ?_
  refine lv_i2c (v := ps_hb i) hx hb d_StringLatin1_charAt_13 ((by decide +kernel : ∀ i, i < 6 → ((ps_hb i &&& nI 255).toUInt32 % 65536).toInt32 = ps_hb i) i hi) ?_
  rw [hQ]
  exact W.zret (v := ps_hb i) (ty := .char) hx hb hr ((by decide +kernel : ∀ i, i < 6 → narrow .char (.int (ps_hb i)) = .int (ps_hb i)) i hi) (fun zt ht _ => ⟨_, rfl, rfl, ht⟩) (fun q h => absurd h List.not_mem_nil) d_StringLatin1_charAt_14

def rm_String_isLatin1 : Room := { frames := 0, cells := 0, slots := 0, locals := 0 }
abbrev ws_String_isLatin1 : List Cond := .code y_String_isLatin1 b_String_isLatin1 1 (some .boolean) :: ps_tb
set_option maxHeartbeats 4000000 in
set_option maxRecDepth 100000 in
theorem c_String_isLatin1 {l : Launch} {aK aV : Nat} {vo : Option Nat}  : Met l y_String_isLatin1 ws_String_isLatin1 rm_String_isLatin1 (ps_PS aK aV vo [.ref aK]) (vp_Si (fun r => r = nI 1)) 0 0 (fun _ => False) := by
  refine ps_met (by decide) ?_
  intro p e s m args below meth c hx hb hr hml hts hown hlocks hname hv Q hQ
  obtain ⟨ha, hT0⟩ := hv
  have hT : ∀ w ∈ ps_tb, w.before args s = true := fun w h => hts w (List.mem_cons_of_mem _ h)
  have hown : s.vm.findClass R_String = some m.cls := hown
  have hS : va_S ps_F s.heap s.heap [] := va_S.rf
  refine ps_enter ha (Nat.le_of_ble_eq_true rfl) (fun ls hl => ?_)
  have hl : lv_has ls 1 [(0, .ref aK)] := hl
  refine va_gets (A := ps_F) hx hb hT0.2.2.2.2.1 hS hown (hT _ fl_String_38) (fun _ h => h) d_String_isLatin1_0 ?_
  refine lv_if_eq (tgt := 17) hx hb d_String_isLatin1_3 (by decide) (fun c1 => absurd c1 (by decide)) (fun _ => ?_)
  refine lv_aload_n hx hb d_String_isLatin1_6 rfl (lv_at hl 0 rfl) ?_
  refine vk_getf (A := ps_F) hx hb hT0.2.1 hS hown (hT _ fl_String_15) (fun _ h => h) d_String_isLatin1_7 ?_
  refine lv_if_ne (tgt := 17) hx hb d_String_isLatin1_10 (by decide) (fun c1 => absurd rfl c1) (fun _ => ?_)
  refine lv_iconst (v := nI 1) hx hb d_String_isLatin1_13 (by decide) ?_
  refine lv_goto (tgt := 18) hx hb d_String_isLatin1_14 (by decide) ?_
  rw [hQ]
  exact W.zret (v := nI 1) (ty := .boolean) hx hb hr (by decide +kernel) (fun zt ht _ => ⟨_, rfl, rfl, ht⟩) (fun q h => absurd h List.not_mem_nil) d_String_isLatin1_18

def rm_String_coder : Room := { frames := 0, cells := 0, slots := 0, locals := 0 }
abbrev ws_String_coder : List Cond := .code y_String_coder b_String_coder 1 (some .byte) :: ps_tb
set_option maxHeartbeats 4000000 in
set_option maxRecDepth 100000 in
theorem c_String_coder {l : Launch} {aK aV : Nat} {vo : Option Nat}  : Met l y_String_coder ws_String_coder rm_String_coder (ps_PS aK aV vo [.ref aK]) (vp_Si (fun r => r = 0)) 0 0 (fun _ => False) := by
  refine ps_met (by decide) ?_
  intro p e s m args below meth c hx hb hr hml hts hown hlocks hname hv Q hQ
  obtain ⟨ha, hT0⟩ := hv
  have hT : ∀ w ∈ ps_tb, w.before args s = true := fun w h => hts w (List.mem_cons_of_mem _ h)
  have hown : s.vm.findClass R_String = some m.cls := hown
  have hS : va_S ps_F s.heap s.heap [] := va_S.rf
  refine ps_enter ha (Nat.le_of_ble_eq_true rfl) (fun ls hl => ?_)
  have hl : lv_has ls 1 [(0, .ref aK)] := hl
  refine va_gets (A := ps_F) hx hb hT0.2.2.2.2.1 hS hown (hT _ fl_String_38) (fun _ h => h) d_String_coder_0 ?_
  refine lv_if_eq (tgt := 13) hx hb d_String_coder_3 (by decide) (fun c1 => absurd c1 (by decide)) (fun _ => ?_)
  refine lv_aload_n hx hb d_String_coder_6 rfl (lv_at hl 0 rfl) ?_
  refine vk_getf (A := ps_F) hx hb hT0.2.1 hS hown (hT _ fl_String_15) (fun _ h => h) d_String_coder_7 ?_
  refine lv_goto (tgt := 14) hx hb d_String_coder_10 (by decide) ?_
  rw [hQ]
  exact W.zret (v := 0) (ty := .byte) hx hb hr (by decide +kernel) (fun zt ht _ => ⟨_, rfl, rfl, ht⟩) (fun q h => absurd h List.not_mem_nil) d_String_coder_14

def rm_String_length : Room := { frames := 1, cells := 0, slots := 0, locals := 20 }
abbrev ws_String_length : List Cond := .code y_String_length b_String_length 1 (some .int) :: ps_tb
set_option maxHeartbeats 4000000 in
set_option maxRecDepth 100000 in
theorem c_String_length {l : Launch} {aK aV : Nat} {vo : Option Nat}  : Met l y_String_length ws_String_length rm_String_length (ps_PS aK aV vo [.ref aK]) (vp_Si (fun r => r = nI 6)) 0 0 (fun _ => False) := by
  refine ps_met (by decide) ?_
  intro p e s m args below meth c hx hb hr hml hts hown hlocks hname hv Q hQ
  obtain ⟨ha, hT0⟩ := hv
  have hT : ∀ w ∈ ps_tb, w.before args s = true := fun w h => hts w (List.mem_cons_of_mem _ h)
  have hown : s.vm.findClass R_String = some m.cls := hown
  have hS : va_S ps_F s.heap s.heap [] := va_S.rf
  refine ps_enter ha (Nat.le_of_ble_eq_true rfl) (fun ls hl => ?_)
  have hl : lv_has ls 1 [(0, .ref aK)] := hl
  refine lv_aload_n hx hb d_String_length_0 rfl (lv_at hl 0 rfl) ?_
  refine vk_getf (A := ps_F) hx hb hT0.2.2.1 hS hown (hT _ fl_String_9) (fun _ h => h) d_String_length_1 ?_
  refine va_tlen (A := ps_F) (v := nI 6) hx hb hT0.2.2.2.1 hS rfl d_String_length_4 ?_
  refine lv_aload_n hx hb d_String_length_5 rfl (lv_at hl 0 rfl) ?_
  refine ps_stri (aK := aK) (aV := aV) (vo := vo) (As := []) (rest := [.int (nI 6)]) ⟨hx, hb, hml, hown, hT⟩ c_String_coder (cwV 0 hT (ps_gV ml_String_335 im_String_coder se_String_coder in_String co_String_coder) rfl rfl rfl cd_String_coder ⟨Nat.le_of_ble_eq_true rfl, Nat.le_of_ble_eq_true rfl⟩) hT0 rfl hl.1 rfl (Nat.le_of_ble_eq_true rfl) d_String_length_6 ⟨Nat.zero_le _, Nat.zero_le _⟩ (fun rr hrr => ?_)
  subst hrr
  refine lv_ishr hx hb d_String_length_9 ?_
  refine ps_seti (y := nI 6) (by decide) ?_
  rw [hQ]
  exact W.iret (v := nI 6) hx hb hr (fun zt ht _ => ⟨_, rfl, rfl, ht⟩) (fun q h => absurd h List.not_mem_nil) d_String_length_10

def rm_String_charAt : Room := { frames := 3, cells := 0, slots := 0, locals := 64 }
abbrev ws_String_charAt : List Cond := .code y_String_charAt b_String_charAt 2 (some .char) :: ps_tb
set_option maxHeartbeats 4000000 in
set_option maxRecDepth 100000 in
theorem c_String_charAt {l : Launch} {aK aV : Nat} {vo : Option Nat} (i : Nat) (hi : i < 6) : Met l y_String_charAt ws_String_charAt rm_String_charAt (ps_PS aK aV vo [.ref aK, .int (nI i)]) (vp_Si (fun r => r = ps_hb i)) 0 0 (fun _ => False) := by
  refine ps_met (by decide) ?_
  intro p e s m args below meth c hx hb hr hml hts hown hlocks hname hv Q hQ
  obtain ⟨ha, hT0⟩ := hv
  have hT : ∀ w ∈ ps_tb, w.before args s = true := fun w h => hts w (List.mem_cons_of_mem _ h)
  have hown : s.vm.findClass R_String = some m.cls := hown
  have hS : va_S ps_F s.heap s.heap [] := va_S.rf
  refine ps_enter ha (Nat.le_of_ble_eq_true rfl) (fun ls hl => ?_)
  have hl : lv_has ls 2 [(0, .ref aK), (1, .int (nI i))] := hl
  refine lv_aload_n hx hb d_String_charAt_0 rfl (lv_at hl 0 rfl) ?_
  refine ps_stri (aK := aK) (aV := aV) (vo := vo) (As := []) (rest := []) ⟨hx, hb, hml, hown, hT⟩ c_String_isLatin1 (cwV 0 hT (ps_gV ml_String_492 im_String_isLatin1 se_String_isLatin1 in_String co_String_isLatin1) rfl rfl rfl cd_String_isLatin1 ⟨Nat.le_of_ble_eq_true rfl, Nat.le_of_ble_eq_true rfl⟩) hT0 rfl hl.1 rfl (Nat.le_of_ble_eq_true rfl) d_String_charAt_1 ⟨Nat.zero_le _, Nat.zero_le _⟩ (fun rr hrr => ?_)
  subst hrr
  refine lv_if_eq (tgt := 16) hx hb d_String_charAt_4 (by decide) (fun c1 => absurd c1 (by decide)) (fun _ => ?_)
  refine lv_aload_n hx hb d_String_charAt_7 rfl (lv_at hl 0 rfl) ?_
  refine vk_getf (A := ps_F) hx hb hT0.2.2.1 hS hown (hT _ fl_String_9) (fun _ h => h) d_String_charAt_8 ?_
  refine lv_iload_n hx hb d_String_charAt_11 rfl (lv_at hl 1 rfl) ?_
  refine ps_strs (aK := aK) (aV := aV) (vo := vo) (As := [.ref aV, .int (nI i)]) (rest := []) ⟨hx, hb, hml, hown, hT⟩ (c_StringLatin1_charAt i hi) (va_cwS 2 hT (ps_gS ml_String_495 st_StringLatin1_charAt in_StringLatin1 co_StringLatin1_charAt) rfl rfl rfl cs_StringLatin1_charAt ⟨Nat.le_of_ble_eq_true rfl, Nat.le_of_ble_eq_true rfl⟩) hT0 rfl hl.1 rfl (Nat.le_of_ble_eq_true rfl) d_String_charAt_12 ⟨Nat.zero_le _, Nat.zero_le _⟩ (fun rr hrr => ?_)
  subst hrr
  rw [hQ]
  exact W.zret (v := ps_hb i) (ty := .char) hx hb hr ((by decide +kernel : ∀ i, i < 6 → narrow .char (.int (ps_hb i)) = .int (ps_hb i)) i hi) (fun zt ht _ => ⟨_, rfl, rfl, ht⟩) (fun q h => absurd h List.not_mem_nil) d_String_charAt_15
