theorem cl_Long_314 : (.constantLong R_Long 314 (6148914691236517205) : Cond) ∈ ps_tb := ps_in 208 (by decide +kernel) rfl
theorem cl_Long_316 : (.constantLong R_Long 316 (3689348814741910323) : Cond) ∈ ps_tb := ps_in 209 (by decide +kernel) rfl
theorem cl_Long_318 : (.constantLong R_Long 318 (1085102592571150095) : Cond) ∈ ps_tb := ps_in 210 (by decide +kernel) rfl
theorem ml_Places_24 : (.methodLink R_Places 24 y_Long_bitCount : Cond) ∈ ps_tb := ps_in 205 (by decide +kernel) rfl
theorem co_Long_bitCount : (.code y_Long_bitCount b_Long_bitCount 2 (some .int) : Cond) ∈ ps_tb := ps_in 207 (by decide +kernel) rfl
theorem in_Long : (.initialized R_Long : Cond) ∈ ps_tb := ps_in 8 (by decide +kernel) rfl
theorem st_Long_bitCount : (.static y_Long_bitCount : Cond) ∈ ps_tb := ps_in 206 (by decide +kernel) rfl
theorem fl_Places_9 : (.fieldLink R_Places 9 R_Places "words" "[J" : Cond) ∈ ps_tb := ps_in 59 (by decide +kernel) rfl
theorem cl_Places_22 : (.constantLong R_Places 22 (-1) : Cond) ∈ ps_tb := ps_in 204 (by decide +kernel) rfl
theorem ml_Places_34 : (.methodLink R_Places 34 y_Places_lowest : Cond) ∈ ps_tb := ps_in 239 (by decide +kernel) rfl
theorem co_Places_lowest : (.code y_Places_lowest b_Places_lowest 2 (some .int) : Cond) ∈ ps_tb := ps_in 241 (by decide +kernel) rfl
theorem in_Places : (.initialized R_Places : Cond) ∈ ps_tb := ps_in 4 (by decide +kernel) rfl
theorem st_Places_lowest : (.static y_Places_lowest : Cond) ∈ ps_tb := ps_in 240 (by decide +kernel) rfl
theorem ml_Places_30 : (.methodLink R_Places 30 y_Places_next : Cond) ∈ ps_tb := ps_in 235 (by decide +kernel) rfl
theorem co_Places_next : (.code y_Places_next b_Places_next 8 (some .int) : Cond) ∈ ps_tb := ps_in 238 (by decide +kernel) rfl
theorem im_Places_next : (.instanceMethod y_Places_next : Cond) ∈ ps_tb := ps_in 236 (by decide +kernel) rfl
theorem se_Places_next : (.selects R_Places y_Places_next y_Places_next : Cond) ∈ ps_tb := ps_in 237 (by decide +kernel) rfl
theorem ml_Places_13 : (.methodLink R_Places 13 Lib.Math.max.name : Cond) ∈ ps_tb := ps_in 198 (by decide +kernel) rfl
theorem st_Math_max : (.static Lib.Math.max.name : Cond) ∈ ps_tb := ps_in 199 (by decide +kernel) rfl
theorem in_Math : (.initialized "java/lang/Math" : Cond) ∈ ps_tb := ps_in 7 (by decide +kernel) rfl
theorem co_Math_max : (.code Lib.Math.max.name Lib.Math.max.code 2 (some .int) : Cond) ∈ ps_tb := ps_in 200 (by decide +kernel) rfl
theorem ml_Places_19 : (.methodLink R_Places 19 Lib.Math.min.name : Cond) ∈ ps_tb := ps_in 201 (by decide +kernel) rfl
theorem st_Math_min : (.static Lib.Math.min.name : Cond) ∈ ps_tb := ps_in 202 (by decide +kernel) rfl
theorem co_Math_min : (.code Lib.Math.min.name Lib.Math.min.code 2 (some .int) : Cond) ∈ ps_tb := ps_in 203 (by decide +kernel) rfl
theorem cs_Long_bitCount : y_Long_bitCount.cls ≠ "java/lang/invoke/MethodHandle" ∧ y_Long_bitCount.cls ≠ "java/lang/invoke/VarHandle" ∧ (parseMethodDescriptor y_Long_bitCount.desc).map (fun d => d.parameters.length) = some 1 := by decide +kernel
theorem cs_Places_lowest : y_Places_lowest.cls ≠ "java/lang/invoke/MethodHandle" ∧ y_Places_lowest.cls ≠ "java/lang/invoke/VarHandle" ∧ (parseMethodDescriptor y_Places_lowest.desc).map (fun d => d.parameters.length) = some 1 := by decide +kernel
theorem cd_Places_next : y_Places_next.cls = R_Places ∧ y_Places_next.cls ≠ "java/lang/invoke/MethodHandle" ∧ y_Places_next.cls ≠ "java/lang/invoke/VarHandle" ∧ (parseMethodDescriptor y_Places_next.desc).map (fun d => d.parameters.length) = some 2 := by decide +kernel
def rm_Long_bitCount : Room := { frames := 0, cells := 0, slots := 0, locals := 0 }
abbrev ws_Long_bitCount : List Cond := .code y_Long_bitCount b_Long_bitCount 2 (some .int) :: ps_tb
set_option maxHeartbeats 4000000 in
set_option maxRecDepth 100000 in
theorem c_Long_bitCount {l : Launch} (x : Int64) : Met l y_Long_bitCount ws_Long_bitCount rm_Long_bitCount (va_Pc [.long x] (fun _ => True)) (vp_Si (fun r => r = nI (ps_pc x))) 0 0 (fun _ => False) := by
  refine ps_met (by decide) ?_
  intro p e s m args below meth c hx hb hr hml hts hown hlocks hname hv Q hQ
  obtain ⟨ha, -⟩ := hv
  have hT : ∀ w ∈ ps_tb, w.before args s = true := fun w h => hts w (List.mem_cons_of_mem _ h)
  have hown : s.vm.findClass R_Long = some m.cls := hown
  refine ps_enter ha (Nat.le_of_ble_eq_true rfl) (fun ls hl => ?_)
  have hl : lv_has ls 2 [(0, .long x)] := hl
  obtain ⟨n, hn, rfl⟩ := wb_of x
  have b1 : ps_g1 8 n < 2 ^ 64 := by have : ps_g1 8 n ≤ n := Nat.sub_le _ _; omega
  have b2 : ps_bytes 8 n * 3 < 2 ^ 64 := ps_bytes_lt 8 n hn
  have b3 := ps_dig8 n hn
  refine lv_lload_n hx hb d_Long_bitCount_0 rfl (lv_at hl 0 rfl) ?_
  refine lv_lload_n hx hb d_Long_bitCount_1 rfl (lv_at hl 0 rfl) ?_
  refine lv_iconst (v := nI 1) hx hb d_Long_bitCount_2 (by decide) ?_
  refine lv_lushr (v := ((lN n).toUInt64 >>> ((nI 1).toInt64.toUInt64 &&& Int64.toUInt64 63)).toInt64) hx hb d_Long_bitCount_3 rfl ?_
  refine ps_setl (y := lN (n / 2)) (wb_shr (k := 1) hn (by decide)) ?_
  refine lv_ldc2 (v := (6148914691236517205)) hx hb hown (hT _ cl_Long_314) d_Long_bitCount_4 ?_
  refine lv_land hx hb d_Long_bitCount_7 ?_
  refine ps_setl (y := lN ((n / 2) &&& ps_m 85 8)) (ps_k1 (by omega)) ?_
  refine lv_lsub hx hb d_Long_bitCount_8 ?_
  refine ps_setl (y := lN (ps_g1 8 n)) (lN_sub (Nat.le_trans Nat.and_le_left (by omega))) ?_
  refine lv_lstore_n (lv' := [(0, .long (lN (ps_g1 8 n)))]) hx hb d_Long_bitCount_9 rfl hl (by decide) rfl (fun ls hl => ?_)
  refine lv_lload_n hx hb d_Long_bitCount_10 rfl (lv_at hl 0 rfl) ?_
  refine lv_ldc2 (v := (3689348814741910323)) hx hb hown (hT _ cl_Long_316) d_Long_bitCount_11 ?_
  refine lv_land hx hb d_Long_bitCount_14 ?_
  refine ps_setl (y := lN (ps_g1 8 n &&& ps_m 51 8)) (ps_k2 b1) ?_
  refine lv_lload_n hx hb d_Long_bitCount_15 rfl (lv_at hl 0 rfl) ?_
  refine lv_iconst (v := nI 2) hx hb d_Long_bitCount_16 (by decide) ?_
  refine lv_lushr (v := ((lN (ps_g1 8 n)).toUInt64 >>> ((nI 2).toInt64.toUInt64 &&& Int64.toUInt64 63)).toInt64) hx hb d_Long_bitCount_17 rfl ?_
  refine ps_setl (y := lN (ps_g1 8 n / 4)) (wb_shr (k := 2) b1 (by decide)) ?_
  refine lv_ldc2 (v := (3689348814741910323)) hx hb hown (hT _ cl_Long_316) d_Long_bitCount_18 ?_
  refine lv_land hx hb d_Long_bitCount_21 ?_
  refine ps_setl (y := lN ((ps_g1 8 n / 4) &&& ps_m 51 8)) (ps_k2 (by omega)) ?_
  refine lv_ladd hx hb d_Long_bitCount_22 ?_
  refine ps_setl (y := lN (ps_bytes 8 n)) (lN_add _ _) ?_
  refine lv_lstore_n (lv' := [(0, .long (lN (ps_bytes 8 n)))]) hx hb d_Long_bitCount_23 rfl hl (by decide) rfl (fun ls hl => ?_)
  refine lv_lload_n hx hb d_Long_bitCount_24 rfl (lv_at hl 0 rfl) ?_
  refine lv_lload_n hx hb d_Long_bitCount_25 rfl (lv_at hl 0 rfl) ?_
  refine lv_iconst (v := nI 4) hx hb d_Long_bitCount_26 (by decide) ?_
  refine lv_lushr (v := ((lN (ps_bytes 8 n)).toUInt64 >>> ((nI 4).toInt64.toUInt64 &&& Int64.toUInt64 63)).toInt64) hx hb d_Long_bitCount_27 rfl ?_
  refine ps_setl (y := lN (ps_bytes 8 n / 16)) (wb_shr (k := 4) (by omega) (by decide)) ?_
  refine lv_ladd hx hb d_Long_bitCount_28 ?_
  refine ps_setl (y := lN (ps_bytes 8 n + ps_bytes 8 n / 16)) (lN_add _ _) ?_
  refine lv_ldc2 (v := (1085102592571150095)) hx hb hown (hT _ cl_Long_318) d_Long_bitCount_29 ?_
  refine lv_land hx hb d_Long_bitCount_32 ?_
  refine ps_setl (y := lN (ps_dig 8 n)) (ps_k3 (by omega)) ?_
  refine lv_lstore_n (lv' := [(0, .long (lN (ps_dig 8 n)))]) hx hb d_Long_bitCount_33 rfl hl (by decide) rfl (fun ls hl => ?_)
  refine lv_lload_n hx hb d_Long_bitCount_34 rfl (lv_at hl 0 rfl) ?_
  refine lv_lload_n hx hb d_Long_bitCount_35 rfl (lv_at hl 0 rfl) ?_
  refine lv_bipush (v := nI 8) hx hb d_Long_bitCount_36 (by decide) ?_
  refine lv_lushr (v := ((lN (ps_dig 8 n)).toUInt64 >>> ((nI 8).toInt64.toUInt64 &&& Int64.toUInt64 63)).toInt64) hx hb d_Long_bitCount_38 rfl ?_
  refine ps_setl (y := lN (ps_dig 8 n / 256)) (wb_shr (k := 8) (by omega) (by decide)) ?_
  refine lv_ladd hx hb d_Long_bitCount_39 ?_
  refine ps_setl (y := lN (ps_dig 8 n + ps_dig 8 n / 256)) (lN_add _ _) ?_
  refine lv_lstore_n (lv' := [(0, .long (lN (ps_dig 8 n + ps_dig 8 n / 256)))]) hx hb d_Long_bitCount_40 rfl hl (by decide) rfl (fun ls hl => ?_)
  refine lv_lload_n hx hb d_Long_bitCount_41 rfl (lv_at hl 0 rfl) ?_
  refine lv_lload_n hx hb d_Long_bitCount_42 rfl (lv_at hl 0 rfl) ?_
  refine lv_bipush (v := nI 16) hx hb d_Long_bitCount_43 (by decide) ?_
  refine lv_lushr (v := ((lN (ps_dig 8 n + ps_dig 8 n / 256)).toUInt64 >>> ((nI 16).toInt64.toUInt64 &&& Int64.toUInt64 63)).toInt64) hx hb d_Long_bitCount_45 rfl ?_
  refine ps_setl (y := lN ((ps_dig 8 n + ps_dig 8 n / 256) / 65536)) (wb_shr (k := 16) (by omega) (by decide)) ?_
  refine lv_ladd hx hb d_Long_bitCount_46 ?_
  refine ps_setl (y := lN ((ps_dig 8 n + ps_dig 8 n / 256) + (ps_dig 8 n + ps_dig 8 n / 256) / 65536)) (lN_add _ _) ?_
  refine lv_lstore_n (lv' := [(0, .long (lN ((ps_dig 8 n + ps_dig 8 n / 256) + (ps_dig 8 n + ps_dig 8 n / 256) / 65536)))]) hx hb d_Long_bitCount_47 rfl hl (by decide) rfl (fun ls hl => ?_)
  refine lv_lload_n hx hb d_Long_bitCount_48 rfl (lv_at hl 0 rfl) ?_
  refine lv_lload_n hx hb d_Long_bitCount_49 rfl (lv_at hl 0 rfl) ?_
  refine lv_bipush (v := nI 32) hx hb d_Long_bitCount_50 (by decide) ?_
  refine lv_lushr (v := ((lN ((ps_dig 8 n + ps_dig 8 n / 256) + (ps_dig 8 n + ps_dig 8 n / 256) / 65536)).toUInt64 >>> ((nI 32).toInt64.toUInt64 &&& Int64.toUInt64 63)).toInt64) hx hb d_Long_bitCount_52 rfl ?_
  refine ps_setl (y := lN (((ps_dig 8 n + ps_dig 8 n / 256) + (ps_dig 8 n + ps_dig 8 n / 256) / 65536) / 4294967296)) (wb_shr (k := 32) (by omega) (by decide)) ?_
  refine lv_ladd hx hb d_Long_bitCount_53 ?_
  refine ps_setl (y := lN (((ps_dig 8 n + ps_dig 8 n / 256) + (ps_dig 8 n + ps_dig 8 n / 256) / 65536) + ((ps_dig 8 n + ps_dig 8 n / 256) + (ps_dig 8 n + ps_dig 8 n / 256) / 65536) / 4294967296)) (lN_add _ _) ?_
  refine lv_lstore_n (lv' := [(0, .long (lN (((ps_dig 8 n + ps_dig 8 n / 256) + (ps_dig 8 n + ps_dig 8 n / 256) / 65536) + ((ps_dig 8 n + ps_dig 8 n / 256) + (ps_dig 8 n + ps_dig 8 n / 256) / 65536) / 4294967296)))]) hx hb d_Long_bitCount_54 rfl hl (by decide) rfl (fun ls hl => ?_)
  refine lv_lload_n hx hb d_Long_bitCount_55 rfl (lv_at hl 0 rfl) ?_
  refine lv_l2i (v := (lN (((ps_dig 8 n + ps_dig 8 n / 256) + (ps_dig 8 n + ps_dig 8 n / 256) / 65536) + ((ps_dig 8 n + ps_dig 8 n / 256) + (ps_dig 8 n + ps_dig 8 n / 256) / 65536) / 4294967296)).toInt32) hx hb d_Long_bitCount_56 rfl ?_
  refine lv_bipush (v := nI 127) hx hb d_Long_bitCount_57 (by decide) ?_
  refine lv_iand hx hb d_Long_bitCount_59 ?_
  refine ps_seti (y := nI (ps_pc (lN n))) (ps_k4 hn b3.2.2.2) ?_
  rw [hQ]
  exact W.iret (v := nI (ps_pc (lN n))) hx hb hr (fun zt ht _ => ⟨_, rfl, rfl, ht⟩) (fun q h => absurd h List.not_mem_nil) d_Long_bitCount_60
def rm_Places_lowest : Room := { frames := 1, cells := 0, slots := 0, locals := 21 }
abbrev ws_Places_lowest : List Cond := .code y_Places_lowest b_Places_lowest 2 (some .int) :: ps_tb
set_option maxHeartbeats 4000000 in
set_option maxRecDepth 100000 in
theorem c_Places_lowest {l : Launch} (x : Int64) (j : Nat) (hj : j < 64) (hb1 : ps_bt x j = true) (hlow : ∀ i, i < j → ps_bt x i = false) : Met l y_Places_lowest ws_Places_lowest rm_Places_lowest (va_Pc [.long x] (fun _ => True)) (vp_Si (fun r => r = nI j)) 0 0 (fun _ => False) := by
  refine ps_met (by decide) ?_
  intro p e s m args below meth c hx hb hr hml hts hown hlocks hname hv Q hQ
  obtain ⟨ha, -⟩ := hv
  have hT : ∀ w ∈ ps_tb, w.before args s = true := fun w h => hts w (List.mem_cons_of_mem _ h)
  have hown : s.vm.findClass R_Places = some m.cls := hown
  refine ps_enter ha (Nat.le_of_ble_eq_true rfl) (fun ls hl => ?_)
  have hl : lv_has ls 2 [(0, .long x)] := hl
  refine lv_lload_n hx hb d_Places_lowest_0 rfl (lv_at hl 0 rfl) ?_
  refine lv_lload_n hx hb d_Places_lowest_1 rfl (lv_at hl 0 rfl) ?_
  refine lv_lneg hx hb d_Places_lowest_2 ?_
  refine lv_land hx hb d_Places_lowest_3 ?_
  refine lv_lconst (v := 1) hx hb d_Places_lowest_4 (by decide) ?_
  refine lv_lsub hx hb d_Places_lowest_5 ?_
  refine ps_sti (As := [.long ((x &&& (-x)) - (1 : Int64))]) (rest := []) ⟨hx, hb, hml, hown, hT⟩ (c_Long_bitCount _) (va_cwS 1 hT (ps_gS ml_Places_24 st_Long_bitCount in_Long co_Long_bitCount) rfl rfl rfl cs_Long_bitCount ⟨Nat.le_of_ble_eq_true rfl, Nat.le_of_ble_eq_true rfl⟩) rfl hl.1 rfl (Nat.le_of_ble_eq_true rfl) d_Places_lowest_6 ⟨Nat.zero_le _, Nat.zero_le _⟩ (fun rr hrr => ?_)
  rw [hQ]
  exact W.iret (v := rr) hx hb hr (fun zt ht _ => ⟨_, rfl, by rw [hrr, ps_low hj hb1 hlow], ht⟩) (fun q h => absurd h List.not_mem_nil) d_Places_lowest_9

def rm_Places_has : Room := { frames := 0, cells := 0, slots := 0, locals := 0 }
abbrev ws_Places_has : List Cond := .code y_Places_has b_Places_has 2 (some .boolean) :: ps_tb
set_option maxHeartbeats 4000000 in
set_option maxRecDepth 100000 in
theorem c_Places_has {l : Launch} {D : va_G} {g : Nat → Nat} {cI cJ cT : ClassId} {σ : ps_σ} (k : Nat) (hk : k < 9) (x : Int32) : Met l y_Places_has ws_Places_has rm_Places_has (ps_Pc D ps_cl (ps_tys cI cJ cT) 33 g (ps_E g cI cJ cT σ) [.ref (g (15 + k)), .int x]) (vp_Si (fun r => (∀ j, j < 4096 → x = nI j → r = ps_bI (ps_hs (σ.2.2.2 (24 + k)) j)) ∧ ((x < 0 ∨ nI 4096 ≤ x) → r = 0))) 0 0 (fun _ => False) := by
  refine ps_met (by decide) ?_
  intro p e s m args below meth c hx hb hr hml hts hown hlocks hname hv Q hQ
  obtain ⟨ha, hP, hK⟩ := hv
  have hT : ∀ w ∈ ps_tb, w.before args s = true := fun w h => hts w (List.mem_cons_of_mem _ h)
  have hown : s.vm.findClass R_Places = some m.cls := hown
  refine ps_enter ha (Nat.le_of_ble_eq_true rfl) (fun ls hl => ?_)
  have hl : lv_has ls 2 [(0, .ref (g (15 + k))), (1, .int x)] := hl
  rcases pk_ix x (n := 4096) (by decide) with h | h | ⟨j, hj, rfl⟩
  · refine lv_iload_n hx hb d_Places_has_0 rfl (lv_at hl 1 rfl) ?_
    refine lv_if_lt (tgt := 36) hx hb d_Places_has_1 (by decide) (fun c_1 => ?_) (fun c_1 => ?_)
    · refine lv_iconst (v := nI 0) hx hb d_Places_has_36 (by decide) ?_
      rw [hQ]
      exact W.zret (v := nI 0) (ty := .boolean) hx hb hr (by decide +kernel) (fun zt ht _ => ⟨_, rfl, ⟨fun j hj e1 => absurd h (by rw [e1]; exact nI_pos (by omega)), fun _ => rfl⟩, ht⟩) (fun q h => absurd h List.not_mem_nil) d_Places_has_37
    · exact absurd h c_1
  · refine lv_iload_n hx hb d_Places_has_0 rfl (lv_at hl 1 rfl) ?_
    refine lv_if_lt (tgt := 36) hx hb d_Places_has_1 (by decide) (fun c_1 => ?_) (fun c_1 => ?_)
    · exact absurd c_1 (ps_le_nlt (by decide) h)
    · refine lv_iload_n hx hb d_Places_has_4 rfl (lv_at hl 1 rfl) ?_
      refine lv_sipush (v := nI 4096) hx hb d_Places_has_5 (by decide) ?_
      refine lv_icmp_ge (tgt := 36) hx hb d_Places_has_8 (by decide) (fun c_8 => ?_) (fun c_8 => ?_)
      · refine lv_iconst (v := nI 0) hx hb d_Places_has_36 (by decide) ?_
        rw [hQ]
        exact W.zret (v := nI 0) (ty := .boolean) hx hb hr (by decide +kernel) (fun zt ht _ => ⟨_, rfl, ⟨fun j hj e1 => absurd h (by rw [e1]; exact nI_ge hj (by decide)), fun _ => rfl⟩, ht⟩) (fun q h => absurd h List.not_mem_nil) d_Places_has_37
      · exact absurd h c_8
  · refine lv_iload_n hx hb d_Places_has_0 rfl (lv_at hl 1 rfl) ?_
    refine lv_if_lt (tgt := 36) hx hb d_Places_has_1 (by decide) (fun c_1 => ?_) (fun c_1 => ?_)
    · exact absurd c_1 (nI_pos (by omega))
    · refine lv_iload_n hx hb d_Places_has_4 rfl (lv_at hl 1 rfl) ?_
      refine lv_sipush (v := nI 4096) hx hb d_Places_has_5 (by decide) ?_
      refine lv_icmp_ge (tgt := 36) hx hb d_Places_has_8 (by decide) (fun c_8 => ?_) (fun c_8 => ?_)
      · exact absurd c_8 (nI_ge hj (by decide))
      · refine lv_aload_n hx hb d_Places_has_11 rfl (lv_at hl 0 rfl) ?_
        refine ps_get (v := .ref (g (24 + k))) hx hb hT i_Places hown hK hP (k := 15 + k) (by omega) (ps_E_pl hk) rfl 0 (by decide) (hT _ fl_Places_9) (fun _ h9 => h9) rfl d_Places_has_12 ?_
        refine lv_iload_n hx hb d_Places_has_15 rfl (lv_at hl 1 rfl) ?_
        refine lv_bipush (v := nI 6) hx hb d_Places_has_16 (by decide) ?_
        refine lv_ishr hx hb d_Places_has_18 ?_
        refine ps_seti (y := nI (j / 64)) (pk_shrN (by omega) _ 6 (by decide)) ?_
        refine ps_lald hx hb hK hP (k := 24 + k) (by omega) 1 (ps_E_wd _) rfl (i := (j / 64)) (by omega) (by decide) d_Places_has_19 ?_
        refine lv_iload_n hx hb d_Places_has_20 rfl (lv_at hl 1 rfl) ?_
        refine lv_bipush (v := nI 63) hx hb d_Places_has_21 (by decide) ?_
        refine lv_iand hx hb d_Places_has_23 ?_
        refine ps_seti (y := nI (j % 64)) (pk_andN (by omega) 6 (by decide)) ?_
        refine lv_lushr (v := ((σ.2.2.2 (24 + k) (j / 64)).toUInt64 >>> ((nI (j % 64)).toInt64.toUInt64 &&& Int64.toUInt64 63)).toInt64) hx hb d_Places_has_24 rfl ?_
        refine lv_lconst (v := 1) hx hb d_Places_has_25 (by decide) ?_
        refine lv_land hx hb d_Places_has_26 ?_
        refine lv_lconst (v := 0) hx hb d_Places_has_27 (by decide) ?_
        refine W.lcmp hx hb d_Places_has_28 ?_
        refine lv_if_eq (tgt := 36) hx hb d_Places_has_29 (by decide) (fun c_29 => ?_) (fun c_29 => ?_)
        · rw [ps_lcmp0] at c_29
          have hf : ps_hs (σ.2.2.2 (24 + k)) j = false := (ps_bit1 _ (by omega) _).mp c_29
          refine lv_iconst (v := nI 0) hx hb d_Places_has_36 (by decide) ?_
          rw [hQ]
          exact W.zret (v := nI 0) (ty := .boolean) hx hb hr (by decide +kernel) (fun zt ht _ => ⟨_, rfl, ⟨fun i hi e1 => by rw [← (nI_eq (by omega) (by omega)).mp e1, hf]; rfl, fun h => absurd h (ps_not_out hj (by decide))⟩, ht⟩) (fun q h => absurd h List.not_mem_nil) d_Places_has_37
        · rw [ps_lcmp0] at c_29
          have hf : ps_hs (σ.2.2.2 (24 + k)) j = true := ps_bit1t (by omega) c_29
          refine lv_iconst (v := nI 1) hx hb d_Places_has_32 (by decide) ?_
          refine lv_goto (tgt := 37) hx hb d_Places_has_33 (by decide) ?_
          rw [hQ]
          exact W.zret (v := nI 1) (ty := .boolean) hx hb hr (by decide +kernel) (fun zt ht _ => ⟨_, rfl, ⟨fun i hi e1 => by rw [← (nI_eq (by omega) (by omega)).mp e1, hf]; rfl, fun h => absurd h (ps_not_out hj (by decide))⟩, ht⟩) (fun q h => absurd h List.not_mem_nil) d_Places_has_37

def rm_Places_next : Room := { frames := 2, cells := 0, slots := 0, locals := 42 }
abbrev ws_Places_next : List Cond := .code y_Places_next b_Places_next 8 (some .int) :: ps_tb
set_option maxHeartbeats 4000000 in
set_option maxRecDepth 100000 in
theorem c_Places_next {l : Launch} {D : va_G} {g : Nat → Nat} {cI cJ cT : ClassId} {σ : ps_σ} (k : Nat) (hk : k < 9) (a : Nat) (ha4 : a ≤ 4096) (b : Bool) : Met l y_Places_next ws_Places_next rm_Places_next (ps_Pc D ps_cl (ps_tys cI cJ cT) 33 g (ps_E g cI cJ cT σ) [.ref (g (15 + k)), .int (nI a), .int (ps_bI b)]) (vp_Si (fun r => r = nI (ps_nx (ps_hs (σ.2.2.2 (24 + k))) b a))) 0 0 (fun _ => False) := by
  refine ps_met (by decide) ?_
  intro p e s m args below meth c hx hb hr hml hts hown hlocks hname hv Q hQ
  obtain ⟨ha, hP, hK⟩ := hv
  have hT : ∀ w ∈ ps_tb, w.before args s = true := fun w h => hts w (List.mem_cons_of_mem _ h)
  have hown : s.vm.findClass R_Places = some m.cls := hown
  refine ps_enter ha (Nat.le_of_ble_eq_true rfl) (fun ls hl => ?_)
  have hl : lv_has ls 8 [(0, .ref (g (15 + k))), (1, .int (nI a)), (2, .int (ps_bI b))] := hl
  refine lv_iload_n hx hb d_Places_next_0 rfl (lv_at hl 1 rfl) ?_
  refine lv_if_ge (tgt := 8) hx hb d_Places_next_1 (by decide) (fun c_1 => ?_) (fun c_1 => ?_)
  · refine lv_ldc2 (v := (-1)) hx hb hown (hT _ cl_Places_22) d_Places_next_8 ?_
    refine lv_iload_n hx hb d_Places_next_11 rfl (lv_at hl 1 rfl) ?_
    refine lv_bipush (v := nI 63) hx hb d_Places_next_12 (by decide) ?_
    refine lv_iand hx hb d_Places_next_14 ?_
    refine ps_seti (y := nI (a % 64)) (pk_andN (by omega) 6 (by decide)) ?_
    refine lv_lshl (v := (-1 : Int64) <<< ((nI (a % 64)).toInt64 &&& 63)) hx hb d_Places_next_15 rfl ?_
    refine lv_lstore_n (lv' := [(3, .long ((-1 : Int64) <<< ((nI (a % 64)).toInt64 &&& 63))), (0, .ref (g (15 + k))), (1, .int (nI a)), (2, .int (ps_bI b))]) hx hb d_Places_next_16 rfl hl (by decide) rfl (fun ls hl => ?_)
    refine lv_iload_n hx hb d_Places_next_17 rfl (lv_at hl 2 rfl) ?_
    refine lv_bipush (v := nI 6) hx hb d_Places_next_18 (by decide) ?_
    refine lv_ishr hx hb d_Places_next_20 ?_
    refine ps_seti (y := nI (a / 64)) (pk_shrN (by omega) _ 6 (by decide)) ?_
    refine lv_istore (lv' := [(5, .int (nI (a / 64))), (3, .long ((-1 : Int64) <<< ((nI (a % 64)).toInt64 &&& 63))), (0, .ref (g (15 + k))), (1, .int (nI a)), (2, .int (ps_bI b))]) hx hb d_Places_next_21 hl (by decide) rfl (fun ls hl => ?_)
    have L_a : ∀ (n_a : Nat) (w : Nat) (mk : Int64), (w ≤ 64) → (∀ j, j < 64 → ps_bt mk j = decide (a ≤ 64 * w + j)) → (∀ q, a ≤ q → q < 64 * w → ¬ ps_hs (σ.2.2.2 (24 + k)) q = b) → (a ≤ 64 * (w + 1)) → 64 - w < n_a → ∀ (ls : Array Slot), lv_has ls 8 [(0, .ref (g (15 + k))), (1, .int (nI a)), (2, .int (ps_bI b)), (3, .long mk), (5, .int (nI w))] → W p l e rm_Places_next s m args below meth c s.heap [] 0 0 Q (F0 m 23 ls []) := by
      intro n_a
      induction n_a with
      | zero => intro w mk hw hmk hno haw hf_a; exact absurd hf_a (Nat.not_lt_zero _)
      | succ n_a ih_a =>
        intro w mk hw hmk hno haw hf_a ls hl
        refine lv_iload hx hb d_Places_next_23 (lv_at hl 4 rfl) ?_
        refine lv_bipush (v := nI 64) hx hb d_Places_next_25 (by decide) ?_
        refine lv_icmp_ge (tgt := 88) hx hb d_Places_next_27 (by decide) (fun c_27 => ?_) (fun c_27 => ?_)
        · have hw64 : w = 64 := by have := ps_leT c_27 (by omega) (by omega); omega
          refine lv_sipush (v := nI 4096) hx hb d_Places_next_88 (by decide) ?_
          rw [hQ]
          exact W.iret (v := nI 4096) hx hb hr (fun zt ht _ => ⟨_, rfl, congrArg nI (ps_nx_miss ha4 hw64 hno).symm, ht⟩) (fun q h => absurd h List.not_mem_nil) d_Places_next_91
        · have hw64 : w < 64 := by have := ps_ltOf c_27 (by omega) (by omega); omega
          refine lv_iload_n hx hb d_Places_next_30 rfl (lv_at hl 2 rfl) ?_
          refine lv_if_eq (tgt := 44) hx hb d_Places_next_31 (by decide) (fun c_31 => ?_) (fun c_31 => ?_)
          · have eb : b = false := ps_bI_0.mp c_31
            subst eb
            refine lv_aload_n hx hb d_Places_next_44 rfl (lv_at hl 0 rfl) ?_
            refine ps_get (v := .ref (g (24 + k))) hx hb hT i_Places hown hK hP (k := 15 + k) (by omega) (ps_E_pl hk) rfl 0 (by decide) (hT _ fl_Places_9) (fun _ h9 => h9) rfl d_Places_next_45 ?_
            refine lv_iload hx hb d_Places_next_48 (lv_at hl 4 rfl) ?_
            refine ps_lald hx hb hK hP (k := 24 + k) (by omega) 1 (ps_E_wd _) rfl (i := w) (by omega) (by decide) d_Places_next_50 ?_
            refine lv_ldc2 (v := (-1)) hx hb hown (hT _ cl_Places_22) d_Places_next_51 ?_
            refine lv_lxor hx hb d_Places_next_54 ?_
            have hwv : ∀ j, j < 64 → ps_bt ((σ.2.2.2 (24 + k) w) ^^^ (-1 : Int64)) j = decide (ps_hs (σ.2.2.2 (24 + k)) (64 * w + j) = false) := fun j hj => by rw [ps_bt_not hj, ps_hs_at _ hj]; simp
            refine lv_lload_n hx hb d_Places_next_55 rfl (lv_at hl 3 rfl) ?_
            refine lv_land hx hb d_Places_next_56 ?_
            refine lv_topl (fun bits ebits => ?_)
            have hbits : ∀ j, j < 64 → ps_bt bits j = (decide (ps_hs (σ.2.2.2 (24 + k)) (64 * w + j) = false) && decide (a ≤ 64 * w + j)) := fun j hj => by rw [ebits, ps_bt_and, hwv j hj, hmk j hj]
            refine lv_lstore (lv' := [(6, .long bits), (0, .ref (g (15 + k))), (1, .int (nI a)), (2, .int (ps_bI false)), (3, .long mk), (5, .int (nI w))]) hx hb d_Places_next_57 hl (by decide) rfl (fun ls hl => ?_)
            refine lv_lload hx hb d_Places_next_59 (lv_at hl 0 rfl) ?_
            refine lv_lconst (v := 0) hx hb d_Places_next_61 (by decide) ?_
            refine W.lcmp hx hb d_Places_next_62 ?_
            refine lv_if_eq (tgt := 78) hx hb d_Places_next_63 (by decide) (fun c_63 => ?_) (fun c_63 => ?_)
            · rw [ps_lcmp0, ps_eq0] at c_63
              have hz : ∀ j, j < 64 → (decide (ps_hs (σ.2.2.2 (24 + k)) (64 * w + j) = false) && decide (a ≤ 64 * w + j)) = false := fun j hj => by rw [← hbits j hj]; exact c_63 j hj
              refine lv_ldc2 (v := (-1)) hx hb hown (hT _ cl_Places_22) d_Places_next_78 ?_
              refine lv_lstore_n (lv' := [(3, .long (-1 : Int64)), (6, .long bits), (0, .ref (g (15 + k))), (1, .int (nI a)), (2, .int (ps_bI false)), (5, .int (nI w))]) hx hb d_Places_next_81 rfl hl (by decide) rfl (fun ls hl => ?_)
              refine lv_iinc (v := (nI (w + 1))) (lv' := [(5, .int (nI (w + 1))), (3, .long (-1 : Int64)), (6, .long bits), (0, .ref (g (15 + k))), (1, .int (nI a)), (2, .int (ps_bI false))]) hx hb d_Places_next_82 hl (k := 5) rfl (nI_1 _) (by decide) rfl (fun ls hl => ?_)
              refine lv_goto (tgt := 23) hx hb d_Places_next_85 (by decide) ?_
              exact ih_a (w + 1) (-1) (by omega) (fun j hj => by rw [ps_bt_m1 j hj, decide_eq_true (by omega)]) (ps_nx_go hno hz) (by omega) (by omega)  ls (lv_sub hl [3, 4, 5, 1, 0] rfl)
            · rw [ps_lcmp0, ps_ne0] at c_63
              obtain ⟨j, hj, hj1, hj2⟩ := ps_least c_63
              refine lv_iload hx hb d_Places_next_66 (lv_at hl 5 rfl) ?_
              refine lv_bipush (v := nI 6) hx hb d_Places_next_68 (by decide) ?_
              refine lv_ishl hx hb d_Places_next_70 ?_
              refine ps_seti (y := nI (w * 64)) (pk_shlN _ 6 (by decide) (by omega)) ?_
              refine lv_lload hx hb d_Places_next_71 (lv_at hl 0 rfl) ?_
              refine ps_sti (As := [.long bits]) (rest := [.int (nI (w * 64))]) ⟨hx, hb, hml, hown, hT⟩ (c_Places_lowest _ j hj hj1 hj2) (va_cwS 1 hT (ps_gS ml_Places_34 st_Places_lowest in_Places co_Places_lowest) rfl rfl rfl cs_Places_lowest ⟨Nat.le_of_ble_eq_true rfl, Nat.le_of_ble_eq_true rfl⟩) rfl hl.1 rfl (Nat.le_of_ble_eq_true rfl) d_Places_next_73 ⟨Nat.zero_le _, Nat.zero_le _⟩ (fun rr hrr => ?_)
              subst hrr
              refine lv_iadd hx hb d_Places_next_76 ?_
              rw [hQ]
              exact W.iret (v := (nI (w * 64)) + (nI j)) hx hb hr (fun zt ht _ => ⟨_, rfl, by rw [nI_add]; exact congrArg nI (ps_nx_hit hno hbits hj hj1 hj2 hw64).symm, ht⟩) (fun q h => absurd h List.not_mem_nil) d_Places_next_77
          · have eb : b = true := ps_bI_n0.mp c_31
            subst eb
            refine lv_aload_n hx hb d_Places_next_34 rfl (lv_at hl 0 rfl) ?_
            refine ps_get (v := .ref (g (24 + k))) hx hb hT i_Places hown hK hP (k := 15 + k) (by omega) (ps_E_pl hk) rfl 0 (by decide) (hT _ fl_Places_9) (fun _ h9 => h9) rfl d_Places_next_35 ?_
            refine lv_iload hx hb d_Places_next_38 (lv_at hl 4 rfl) ?_
            refine ps_lald hx hb hK hP (k := 24 + k) (by omega) 1 (ps_E_wd _) rfl (i := w) (by omega) (by decide) d_Places_next_40 ?_
            refine lv_goto (tgt := 55) hx hb d_Places_next_41 (by decide) ?_
            have hwv : ∀ j, j < 64 → ps_bt (σ.2.2.2 (24 + k) w) j = decide (ps_hs (σ.2.2.2 (24 + k)) (64 * w + j) = true) := fun j hj => by rw [ps_hs_at _ hj]; simp
            refine lv_lload_n hx hb d_Places_next_55 rfl (lv_at hl 3 rfl) ?_
            refine lv_land hx hb d_Places_next_56 ?_
            refine lv_topl (fun bits ebits => ?_)
            have hbits : ∀ j, j < 64 → ps_bt bits j = (decide (ps_hs (σ.2.2.2 (24 + k)) (64 * w + j) = true) && decide (a ≤ 64 * w + j)) := fun j hj => by rw [ebits, ps_bt_and, hwv j hj, hmk j hj]
            refine lv_lstore (lv' := [(6, .long bits), (0, .ref (g (15 + k))), (1, .int (nI a)), (2, .int (ps_bI true)), (3, .long mk), (5, .int (nI w))]) hx hb d_Places_next_57 hl (by decide) rfl (fun ls hl => ?_)
            refine lv_lload hx hb d_Places_next_59 (lv_at hl 0 rfl) ?_
            refine lv_lconst (v := 0) hx hb d_Places_next_61 (by decide) ?_
            refine W.lcmp hx hb d_Places_next_62 ?_
            refine lv_if_eq (tgt := 78) hx hb d_Places_next_63 (by decide) (fun c_63 => ?_) (fun c_63 => ?_)
            · rw [ps_lcmp0, ps_eq0] at c_63
              have hz : ∀ j, j < 64 → (decide (ps_hs (σ.2.2.2 (24 + k)) (64 * w + j) = true) && decide (a ≤ 64 * w + j)) = false := fun j hj => by rw [← hbits j hj]; exact c_63 j hj
              refine lv_ldc2 (v := (-1)) hx hb hown (hT _ cl_Places_22) d_Places_next_78 ?_
              refine lv_lstore_n (lv' := [(3, .long (-1 : Int64)), (6, .long bits), (0, .ref (g (15 + k))), (1, .int (nI a)), (2, .int (ps_bI true)), (5, .int (nI w))]) hx hb d_Places_next_81 rfl hl (by decide) rfl (fun ls hl => ?_)
              refine lv_iinc (v := (nI (w + 1))) (lv' := [(5, .int (nI (w + 1))), (3, .long (-1 : Int64)), (6, .long bits), (0, .ref (g (15 + k))), (1, .int (nI a)), (2, .int (ps_bI true))]) hx hb d_Places_next_82 hl (k := 5) rfl (nI_1 _) (by decide) rfl (fun ls hl => ?_)
              refine lv_goto (tgt := 23) hx hb d_Places_next_85 (by decide) ?_
              exact ih_a (w + 1) (-1) (by omega) (fun j hj => by rw [ps_bt_m1 j hj, decide_eq_true (by omega)]) (ps_nx_go hno hz) (by omega) (by omega)  ls (lv_sub hl [3, 4, 5, 1, 0] rfl)
            · rw [ps_lcmp0, ps_ne0] at c_63
              obtain ⟨j, hj, hj1, hj2⟩ := ps_least c_63
              refine lv_iload hx hb d_Places_next_66 (lv_at hl 5 rfl) ?_
              refine lv_bipush (v := nI 6) hx hb d_Places_next_68 (by decide) ?_
              refine lv_ishl hx hb d_Places_next_70 ?_
              refine ps_seti (y := nI (w * 64)) (pk_shlN _ 6 (by decide) (by omega)) ?_
              refine lv_lload hx hb d_Places_next_71 (lv_at hl 0 rfl) ?_
              refine ps_sti (As := [.long bits]) (rest := [.int (nI (w * 64))]) ⟨hx, hb, hml, hown, hT⟩ (c_Places_lowest _ j hj hj1 hj2) (va_cwS 1 hT (ps_gS ml_Places_34 st_Places_lowest in_Places co_Places_lowest) rfl rfl rfl cs_Places_lowest ⟨Nat.le_of_ble_eq_true rfl, Nat.le_of_ble_eq_true rfl⟩) rfl hl.1 rfl (Nat.le_of_ble_eq_true rfl) d_Places_next_73 ⟨Nat.zero_le _, Nat.zero_le _⟩ (fun rr hrr => ?_)
              subst hrr
              refine lv_iadd hx hb d_Places_next_76 ?_
              rw [hQ]
              exact W.iret (v := (nI (w * 64)) + (nI j)) hx hb hr (fun zt ht _ => ⟨_, rfl, by rw [nI_add]; exact congrArg nI (ps_nx_hit hno hbits hj hj1 hj2 hw64).symm, ht⟩) (fun q h => absurd h List.not_mem_nil) d_Places_next_77
    exact L_a (64 - (a / 64) + 1) (a / 64) ((-1 : Int64) <<< ((nI (a % 64)).toInt64 &&& 63)) (by omega) (fun j hj => by rw [ps_shl _ (by omega) _ hj]; exact ps_nx_mask a hj) (fun q h1 h2 => absurd h2 (by omega)) (by omega) (by omega)  ls (lv_sub hl [2, 3, 4, 1, 0] rfl)
  · exact absurd (nI_pos' (by omega)) c_1

def rm_Places_size : Room := { frames := 1, cells := 0, slots := 0, locals := 21 }
abbrev ws_Places_size : List Cond := .code y_Places_size b_Places_size 3 (some .int) :: ps_tb
set_option maxHeartbeats 4000000 in
set_option maxRecDepth 100000 in
theorem c_Places_size {l : Launch} {D : va_G} {g : Nat → Nat} {cI cJ cT : ClassId} {σ : ps_σ} (k : Nat) (hk : k < 9) : Met l y_Places_size ws_Places_size rm_Places_size (ps_Pc D ps_cl (ps_tys cI cJ cT) 33 g (ps_E g cI cJ cT σ) [.ref (g (15 + k))]) (vp_Si (fun r => r = nI (ps_cn (ps_hs (σ.2.2.2 (24 + k))) 4096))) 0 0 (fun _ => False) := by
  refine ps_met (by decide) ?_
  intro p e s m args below meth c hx hb hr hml hts hown hlocks hname hv Q hQ
  obtain ⟨ha, hP, hK⟩ := hv
  have hT : ∀ w ∈ ps_tb, w.before args s = true := fun w h => hts w (List.mem_cons_of_mem _ h)
  have hown : s.vm.findClass R_Places = some m.cls := hown
  refine ps_enter ha (Nat.le_of_ble_eq_true rfl) (fun ls hl => ?_)
  have hl : lv_has ls 3 [(0, .ref (g (15 + k)))] := hl
  refine lv_iconst (v := nI 0) hx hb d_Places_size_0 (by decide) ?_
  refine lv_istore_n (lv' := [(1, .int (nI 0)), (0, .ref (g (15 + k)))]) hx hb d_Places_size_1 rfl hl (by decide) rfl (fun ls hl => ?_)
  refine lv_iconst (v := nI 0) hx hb d_Places_size_2 (by decide) ?_
  refine lv_istore_n (lv' := [(2, .int (nI 0)), (1, .int (nI 0)), (0, .ref (g (15 + k)))]) hx hb d_Places_size_3 rfl hl (by decide) rfl (fun ls hl => ?_)
  have L_a : ∀ (n_a : Nat) (i : Nat), (i ≤ 64) → 64 - i < n_a → ∀ (ls : Array Slot), lv_has ls 3 [(0, .ref (g (15 + k))), (1, .int (nI (ps_cn (ps_hs (σ.2.2.2 (24 + k))) (64 * i)))), (2, .int (nI i))] → W p l e rm_Places_size s m args below meth c s.heap [] 0 0 Q (F0 m 4 ls []) := by
    intro n_a
    induction n_a with
    | zero => intro i hi hf_a; exact absurd hf_a (Nat.not_lt_zero _)
    | succ n_a ih_a =>
      intro i hi hf_a ls hl
      refine lv_iload_n hx hb d_Places_size_4 rfl (lv_at hl 2 rfl) ?_
      refine lv_bipush (v := nI 64) hx hb d_Places_size_5 (by decide) ?_
      refine lv_icmp_ge (tgt := 28) hx hb d_Places_size_7 (by decide) (fun c_7 => ?_) (fun c_7 => ?_)
      · have hi64 : i = 64 := by have := ps_leT c_7 (by omega) (by omega); omega
        refine lv_iload_n hx hb d_Places_size_28 rfl (lv_at hl 1 rfl) ?_
        rw [hQ]
        exact W.iret (v := nI (ps_cn (ps_hs (σ.2.2.2 (24 + k))) (64 * i))) hx hb hr (fun zt ht _ => ⟨_, rfl, by rw [hi64], ht⟩) (fun q h => absurd h List.not_mem_nil) d_Places_size_29
      · have hi64 : i < 64 := by have := ps_ltOf c_7 (by omega) (by omega); omega
        refine lv_iload_n hx hb d_Places_size_10 rfl (lv_at hl 1 rfl) ?_
        refine lv_aload_n hx hb d_Places_size_11 rfl (lv_at hl 0 rfl) ?_
        refine ps_get (v := .ref (g (24 + k))) hx hb hT i_Places hown hK hP (k := 15 + k) (by omega) (ps_E_pl hk) rfl 0 (by decide) (hT _ fl_Places_9) (fun _ h9 => h9) rfl d_Places_size_12 ?_
        refine lv_iload_n hx hb d_Places_size_15 rfl (lv_at hl 2 rfl) ?_
        refine ps_lald hx hb hK hP (k := 24 + k) (by omega) 1 (ps_E_wd _) rfl (i := i) (by omega) (by decide) d_Places_size_16 ?_
        refine ps_sti (As := [.long (σ.2.2.2 (24 + k) i)]) (rest := [.int (nI (ps_cn (ps_hs (σ.2.2.2 (24 + k))) (64 * i)))]) ⟨hx, hb, hml, hown, hT⟩ (c_Long_bitCount _) (va_cwS 1 hT (ps_gS ml_Places_24 st_Long_bitCount in_Long co_Long_bitCount) rfl rfl rfl cs_Long_bitCount ⟨Nat.le_of_ble_eq_true rfl, Nat.le_of_ble_eq_true rfl⟩) rfl hl.1 rfl (Nat.le_of_ble_eq_true rfl) d_Places_size_17 ⟨Nat.zero_le _, Nat.zero_le _⟩ (fun rr hrr => ?_)
        refine lv_iadd hx hb d_Places_size_20 ?_
        refine ps_seti (y := nI (ps_cn (ps_hs (σ.2.2.2 (24 + k))) (64 * (i + 1)))) (by rw [hrr, nI_add, ps_cn_words]) ?_
        refine lv_istore_n (lv' := [(1, .int (nI (ps_cn (ps_hs (σ.2.2.2 (24 + k))) (64 * (i + 1))))), (0, .ref (g (15 + k))), (2, .int (nI i))]) hx hb d_Places_size_21 rfl hl (by decide) rfl (fun ls hl => ?_)
        refine lv_iinc (v := (nI (i + 1))) (lv' := [(2, .int (nI (i + 1))), (1, .int (nI (ps_cn (ps_hs (σ.2.2.2 (24 + k))) (64 * (i + 1))))), (0, .ref (g (15 + k)))]) hx hb d_Places_size_22 hl (k := 2) rfl (nI_1 _) (by decide) rfl (fun ls hl => ?_)
        refine lv_goto (tgt := 4) hx hb d_Places_size_25 (by decide) ?_
        exact ih_a (i + 1) (by omega) (by omega)  ls (lv_sub hl [2, 1, 0] rfl)
  exact L_a (64 - 0 + 1) 0 (by omega) (by omega)  ls (lv_sub hl [2, 1, 0] rfl)

def rm_Places_isEmpty : Room := { frames := 3, cells := 0, slots := 0, locals := 69 }
abbrev ws_Places_isEmpty : List Cond := .code y_Places_isEmpty b_Places_isEmpty 1 (some .boolean) :: ps_tb
set_option maxHeartbeats 4000000 in
set_option maxRecDepth 100000 in
theorem c_Places_isEmpty {l : Launch} {D : va_G} {g : Nat → Nat} {cI cJ cT : ClassId} {σ : ps_σ} (k : Nat) (hk : k < 9) : Met l y_Places_isEmpty ws_Places_isEmpty rm_Places_isEmpty (ps_Pc D ps_cl (ps_tys cI cJ cT) 33 g (ps_E g cI cJ cT σ) [.ref (g (15 + k))]) (vp_Si (fun r => r = ps_bI (decide (ps_nx (ps_hs (σ.2.2.2 (24 + k))) true 0 = 4096)))) 0 0 (fun _ => False) := by
  refine ps_met (by decide) ?_
  intro p e s m args below meth c hx hb hr hml hts hown hlocks hname hv Q hQ
  obtain ⟨ha, hP, hK⟩ := hv
  have hT : ∀ w ∈ ps_tb, w.before args s = true := fun w h => hts w (List.mem_cons_of_mem _ h)
  have hown : s.vm.findClass R_Places = some m.cls := hown
  refine ps_enter ha (Nat.le_of_ble_eq_true rfl) (fun ls hl => ?_)
  have hl : lv_has ls 1 [(0, .ref (g (15 + k)))] := hl
  refine lv_aload_n hx hb d_Places_isEmpty_0 rfl (lv_at hl 0 rfl) ?_
  refine lv_iconst (v := nI 0) hx hb d_Places_isEmpty_1 (by decide) ?_
  refine lv_iconst (v := nI 1) hx hb d_Places_isEmpty_2 (by decide) ?_
  refine ps_roi (k := 15 + k) (As := [.int (nI 0), .int (nI 1)]) (rest := []) ⟨hx, hb, hml, hown, hT⟩ (c_Places_next k hk 0 (by omega) true) (cwV 2 hT (ps_gV ml_Places_30 im_Places_next se_Places_next in_Places co_Places_next) rfl rfl rfl cd_Places_next ⟨Nat.le_of_ble_eq_true rfl, Nat.le_of_ble_eq_true rfl⟩) hK hP (by omega) (ps_E_pl hk) rfl rfl hl.1 rfl (Nat.le_of_ble_eq_true rfl) d_Places_isEmpty_3 ⟨Nat.zero_le _, Nat.zero_le _⟩ (fun rr hrr => ?_)
  subst hrr
  refine lv_sipush (v := nI 4096) hx hb d_Places_isEmpty_6 (by decide) ?_
  refine lv_icmp_ne (tgt := 16) hx hb d_Places_isEmpty_9 (by decide) (fun c_9 => ?_) (fun c_9 => ?_)
  · have hd : decide (ps_nx (ps_hs (σ.2.2.2 (24 + k))) true 0 = 4096) = false := decide_eq_false (fun h => c_9 (by rw [h]))
    refine lv_iconst (v := nI 0) hx hb d_Places_isEmpty_16 (by decide) ?_
    rw [hQ]
    exact W.zret (v := nI 0) (ty := .boolean) hx hb hr (by decide +kernel) (fun zt ht _ => ⟨_, rfl, by rw [hd]; rfl, ht⟩) (fun q h => absurd h List.not_mem_nil) d_Places_isEmpty_17
  · have hd : decide (ps_nx (ps_hs (σ.2.2.2 (24 + k))) true 0 = 4096) = true := decide_eq_true ((nI_eq (by have := (ps_nx_spec (ps_hs (σ.2.2.2 (24 + k))) true (p := 0) (by omega)).2.1; omega) (by decide)).mp c_9)
    refine lv_iconst (v := nI 1) hx hb d_Places_isEmpty_12 (by decide) ?_
    refine lv_goto (tgt := 17) hx hb d_Places_isEmpty_13 (by decide) ?_
    rw [hQ]
    exact W.zret (v := nI 1) (ty := .boolean) hx hb hr (by decide +kernel) (fun zt ht _ => ⟨_, rfl, by rw [hd]; rfl, ht⟩) (fun q h => absurd h List.not_mem_nil) d_Places_isEmpty_17

def rm_Places_spans : Room := { frames := 3, cells := 0, slots := 0, locals := 69 }
abbrev ws_Places_spans : List Cond := .code y_Places_spans b_Places_spans 3 (some .int) :: ps_tb
set_option maxHeartbeats 4000000 in
set_option maxRecDepth 100000 in
theorem c_Places_spans {l : Launch} {D : va_G} {g : Nat → Nat} {cI cJ cT : ClassId} {σ : ps_σ} (k : Nat) (hk : k < 9) : Met l y_Places_spans ws_Places_spans rm_Places_spans (ps_Pc D ps_cl (ps_tys cI cJ cT) 33 g (ps_E g cI cJ cT σ) [.ref (g (15 + k))]) (vp_Si (fun r => r = nI (ps_sp (ps_hs (σ.2.2.2 (24 + k)))))) 0 0 (fun _ => False) := by
  refine ps_met (by decide) ?_
  intro p e s m args below meth c hx hb hr hml hts hown hlocks hname hv Q hQ
  obtain ⟨ha, hP, hK⟩ := hv
  have hT : ∀ w ∈ ps_tb, w.before args s = true := fun w h => hts w (List.mem_cons_of_mem _ h)
  have hown : s.vm.findClass R_Places = some m.cls := hown
  refine ps_enter ha (Nat.le_of_ble_eq_true rfl) (fun ls hl => ?_)
  have hl : lv_has ls 3 [(0, .ref (g (15 + k)))] := hl
  refine lv_aload_n hx hb d_Places_spans_0 rfl (lv_at hl 0 rfl) ?_
  refine lv_iconst (v := nI 0) hx hb d_Places_spans_1 (by decide) ?_
  refine lv_iconst (v := nI 1) hx hb d_Places_spans_2 (by decide) ?_
  refine ps_roi (k := 15 + k) (As := [.int (nI 0), .int (nI 1)]) (rest := []) ⟨hx, hb, hml, hown, hT⟩ (c_Places_next k hk 0 (by omega) true) (cwV 2 hT (ps_gV ml_Places_30 im_Places_next se_Places_next in_Places co_Places_next) rfl rfl rfl cd_Places_next ⟨Nat.le_of_ble_eq_true rfl, Nat.le_of_ble_eq_true rfl⟩) hK hP (by omega) (ps_E_pl hk) rfl rfl hl.1 rfl (Nat.le_of_ble_eq_true rfl) d_Places_spans_3 ⟨Nat.zero_le _, Nat.zero_le _⟩ (fun rr hrr => ?_)
  subst hrr
  refine lv_istore_n (lv' := [(1, .int (nI (ps_nx (ps_hs (σ.2.2.2 (24 + k))) true 0))), (0, .ref (g (15 + k)))]) hx hb d_Places_spans_6 rfl hl (by decide) rfl (fun ls hl => ?_)
  refine lv_iconst (v := nI 0) hx hb d_Places_spans_7 (by decide) ?_
  refine lv_istore_n (lv' := [(2, .int (nI 0)), (1, .int (nI (ps_nx (ps_hs (σ.2.2.2 (24 + k))) true 0))), (0, .ref (g (15 + k)))]) hx hb d_Places_spans_8 rfl hl (by decide) rfl (fun ls hl => ?_)
  have L_a : ∀ (n_a : Nat) (q cnt : Nat), (q ≤ 4096) → (q < 4096 → ps_st (ps_hs (σ.2.2.2 (24 + k))) q = true) → (cnt = ps_cn (ps_st (ps_hs (σ.2.2.2 (24 + k)))) q) → 4096 - q < n_a → ∀ (ls : Array Slot), lv_has ls 3 [(0, .ref (g (15 + k))), (1, .int (nI q)), (2, .int (nI cnt))] → W p l e rm_Places_spans s m args below meth c s.heap [] 0 0 Q (F0 m 9 ls []) := by
    intro n_a
    induction n_a with
    | zero => intro q cnt hq hst hc hf_a; exact absurd hf_a (Nat.not_lt_zero _)
    | succ n_a ih_a =>
      intro q cnt hq hst hc hf_a ls hl
      refine lv_iload_n hx hb d_Places_spans_9 rfl (lv_at hl 2 rfl) ?_
      refine lv_sipush (v := nI 4096) hx hb d_Places_spans_10 (by decide) ?_
      refine lv_icmp_ge (tgt := 41) hx hb d_Places_spans_13 (by decide) (fun c_13 => ?_) (fun c_13 => ?_)
      · have hq4 : q = 4096 := by have h1 := (nI_leI (by omega) (by have := ps_cn_le (ps_st (ps_hs (σ.2.2.2 (24 + k)))) q; omega)).mp c_13; have := ps_cn_le (ps_st (ps_hs (σ.2.2.2 (24 + k)))) q; omega
        refine lv_iload_n hx hb d_Places_spans_41 rfl (lv_at hl 2 rfl) ?_
        rw [hQ]
        exact W.iret (v := nI cnt) hx hb hr (fun zt ht _ => ⟨_, rfl, by rw [hc, hq4]; rfl, ht⟩) (fun q h => absurd h List.not_mem_nil) d_Places_spans_42
      · refine lv_iload_n hx hb d_Places_spans_16 rfl (lv_at hl 1 rfl) ?_
        refine lv_sipush (v := nI 4096) hx hb d_Places_spans_17 (by decide) ?_
        refine lv_icmp_ge (tgt := 41) hx hb d_Places_spans_20 (by decide) (fun c_20 => ?_) (fun c_20 => ?_)
        · have hq4 : q = 4096 := by have := ps_leT c_20 (by omega) (by omega); omega
          refine lv_iload_n hx hb d_Places_spans_41 rfl (lv_at hl 2 rfl) ?_
          rw [hQ]
          exact W.iret (v := nI cnt) hx hb hr (fun zt ht _ => ⟨_, rfl, by rw [hc, hq4]; rfl, ht⟩) (fun q h => absurd h List.not_mem_nil) d_Places_spans_42
        · have hq4 : q < 4096 := by have := ps_ltOf c_20 (by omega) (by omega); omega
          have hn1 := ps_nx_spec (ps_hs (σ.2.2.2 (24 + k))) false (p := q) hq
          have hn3 := ps_st_next hq4 (hst hq4)
          have hn2 := (ps_nx_spec (ps_hs (σ.2.2.2 (24 + k))) true (p := ps_nx (ps_hs (σ.2.2.2 (24 + k))) false q) hn1.2.1).2.1
          have hn4 := (ps_nx_spec (ps_hs (σ.2.2.2 (24 + k))) true (p := ps_nx (ps_hs (σ.2.2.2 (24 + k))) false q) hn1.2.1).1
          have hn5 := hn3.2.1
          refine lv_aload_n hx hb d_Places_spans_23 rfl (lv_at hl 0 rfl) ?_
          refine lv_aload_n hx hb d_Places_spans_24 rfl (lv_at hl 0 rfl) ?_
          refine lv_iload_n hx hb d_Places_spans_25 rfl (lv_at hl 1 rfl) ?_
          refine lv_iconst (v := nI 0) hx hb d_Places_spans_26 (by decide) ?_
          refine ps_roi (k := 15 + k) (As := [.int (nI q), .int (nI 0)]) (rest := [.ref (g (15 + k))]) ⟨hx, hb, hml, hown, hT⟩ (c_Places_next k hk q hq false) (cwV 2 hT (ps_gV ml_Places_30 im_Places_next se_Places_next in_Places co_Places_next) rfl rfl rfl cd_Places_next ⟨Nat.le_of_ble_eq_true rfl, Nat.le_of_ble_eq_true rfl⟩) hK hP (by omega) (ps_E_pl hk) rfl rfl hl.1 rfl (Nat.le_of_ble_eq_true rfl) d_Places_spans_27 ⟨Nat.zero_le _, Nat.zero_le _⟩ (fun rr hrr => ?_)
          subst hrr
          refine lv_iconst (v := nI 1) hx hb d_Places_spans_30 (by decide) ?_
          refine ps_roi (k := 15 + k) (As := [.int (nI (ps_nx (ps_hs (σ.2.2.2 (24 + k))) false q)), .int (nI 1)]) (rest := []) ⟨hx, hb, hml, hown, hT⟩ (c_Places_next k hk _ hn1.2.1 true) (cwV 2 hT (ps_gV ml_Places_30 im_Places_next se_Places_next in_Places co_Places_next) rfl rfl rfl cd_Places_next ⟨Nat.le_of_ble_eq_true rfl, Nat.le_of_ble_eq_true rfl⟩) hK hP (by omega) (ps_E_pl hk) rfl rfl hl.1 rfl (Nat.le_of_ble_eq_true rfl) d_Places_spans_31 ⟨Nat.zero_le _, Nat.zero_le _⟩ (fun rr hrr => ?_)
          subst hrr
          refine lv_istore_n (lv' := [(1, .int (nI (ps_nx (ps_hs (σ.2.2.2 (24 + k))) true (ps_nx (ps_hs (σ.2.2.2 (24 + k))) false q)))), (0, .ref (g (15 + k))), (2, .int (nI cnt))]) hx hb d_Places_spans_34 rfl hl (by decide) rfl (fun ls hl => ?_)
          refine lv_iinc (v := (nI (cnt + 1))) (lv' := [(2, .int (nI (cnt + 1))), (1, .int (nI (ps_nx (ps_hs (σ.2.2.2 (24 + k))) true (ps_nx (ps_hs (σ.2.2.2 (24 + k))) false q)))), (0, .ref (g (15 + k)))]) hx hb d_Places_spans_35 hl (k := 2) rfl (nI_1 _) (by decide) rfl (fun ls hl => ?_)
          refine lv_goto (tgt := 9) hx hb d_Places_spans_38 (by decide) ?_
          exact ih_a (ps_nx (ps_hs (σ.2.2.2 (24 + k))) true (ps_nx (ps_hs (σ.2.2.2 (24 + k))) false q)) (cnt + 1) hn2 hn3.2.2 (by rw [hn3.1, hc]) (by omega)  ls (lv_sub hl [2, 1, 0] rfl)
  exact L_a (4096 - (ps_nx (ps_hs (σ.2.2.2 (24 + k))) true 0) + 1) (ps_nx (ps_hs (σ.2.2.2 (24 + k))) true 0) 0 ((ps_nx_spec (ps_hs (σ.2.2.2 (24 + k))) true (p := 0) (by omega)).2.1) (ps_st_0 _) ((ps_st_first _).symm) (by omega)  ls (lv_sub hl [2, 1, 0] rfl)

def rm_Places_clear : Room := { frames := 0, cells := 0, slots := 0, locals := 0 }
abbrev ws_Places_clear : List Cond := .code y_Places_clear b_Places_clear 2 none :: ps_tb
set_option maxHeartbeats 4000000 in
set_option maxRecDepth 100000 in
theorem c_Places_clear {l : Launch} {D : va_G} {g : Nat → Nat} {cI cJ cT : ClassId} {σ : ps_σ} (hg : ps_inj 33 g) (k : Nat) (hk : k < 9) : Met l y_Places_clear ws_Places_clear rm_Places_clear (ps_Pc D ps_cl (ps_tys cI cJ cT) 33 g (ps_E g cI cJ cT σ) [.ref (g (15 + k))]) (ps_Qv (S := (Nat → Int64)) D ps_cl 33 g (fun f => ps_E g cI cJ cT (ps_upB σ (24 + k) f)) (fun u => ∀ j, j < 64 → u j = 0)) 0 0 (ps_wA 33 g) := by
  refine ps_met (by decide) ?_
  intro p e s m args below meth c hx hb hr hml hts hown hlocks hname hv Q hQ
  obtain ⟨ha, hP, hK⟩ := hv
  have hT : ∀ w ∈ ps_tb, w.before args s = true := fun w h => hts w (List.mem_cons_of_mem _ h)
  have hown : s.vm.findClass R_Places = some m.cls := hown
  have hS : va_S (ps_wA 33 g) s.heap s.heap [] := va_S.rf
  refine ps_enter ha (Nat.le_of_ble_eq_true rfl) (fun ls hl => ?_)
  have hl : lv_has ls 2 [(0, .ref (g (15 + k)))] := hl
  refine lv_iconst (v := nI 0) hx hb d_Places_clear_0 (by decide) ?_
  refine lv_istore_n (lv' := [(1, .int (nI 0)), (0, .ref (g (15 + k)))]) hx hb d_Places_clear_1 rfl hl (by decide) rfl (fun ls hl => ?_)
  have L_a : ∀ (n_a : Nat) (i : Nat) (f : Nat → Int64), (i ≤ 64) → (∀ j, j < i → f j = 0) → 64 - i < n_a → ∀ (H : Heap) (locs : List Loc), va_P D ps_cl (ps_wl 33 g (ps_E g cI cJ cT (ps_upB σ (24 + k) f))) H → va_S (ps_wA 33 g) s.heap H locs → ∀ (ls : Array Slot), lv_has ls 2 [(0, .ref (g (15 + k))), (1, .int (nI i))] → W p l e rm_Places_clear s m args below meth c H locs 0 0 Q (F0 m 2 ls []) := by
    intro n_a
    induction n_a with
    | zero => intro i f hi hz hf_a; exact absurd hf_a (Nat.not_lt_zero _)
    | succ n_a ih_a =>
      intro i f hi hz hf_a H locs hP hS ls hl
      refine lv_iload_n hx hb d_Places_clear_2 rfl (lv_at hl 1 rfl) ?_
      refine lv_bipush (v := nI 64) hx hb d_Places_clear_3 (by decide) ?_
      refine lv_icmp_ge (tgt := 21) hx hb d_Places_clear_5 (by decide) (fun c_5 => ?_) (fun c_5 => ?_)
      · have hi64 : i = 64 := by have := ps_leT c_5 (by omega) (by omega); omega
        rw [hQ]
        exact W.vret hx hb hr (fun zt ht _ => ⟨⟨f, rfl, fun j hj => hz j (by omega), ps_hp ht hP⟩, hS.F ht⟩) hS.2.2 d_Places_clear_21
      · have hi64 : i < 64 := by have := ps_ltOf c_5 (by omega) (by omega); omega
        refine lv_aload_n hx hb d_Places_clear_8 rfl (lv_at hl 0 rfl) ?_
        refine ps_get (v := .ref (g (24 + k))) hx hb hT i_Places hown hK hP (k := 15 + k) (by omega) (ps_E_pl hk) rfl 0 (by decide) (hT _ fl_Places_9) (fun _ h9 => h9) rfl d_Places_clear_9 ?_
        refine lv_iload_n hx hb d_Places_clear_12 rfl (lv_at hl 1 rfl) ?_
        refine lv_lconst (v := 0) hx hb d_Places_clear_13 (by decide) ?_
        refine ps_last hx hb hK hg hP hS (k := 24 + k) (by omega) 1 (ps_E_wdB _ _) rfl (i := i) (by omega) (by decide) d_Places_clear_14 (ps_E g cI cJ cT (ps_upB σ (24 + k) (va_up f i (0 : Int64)))) (ps_E_wdB _ _) (fun i _ h => by rw [ps_E_upB h, ps_E_upB h]) (fun H locs hP hS => ?_)
        refine lv_iinc (v := (nI (i + 1))) (lv' := [(1, .int (nI (i + 1))), (0, .ref (g (15 + k)))]) hx hb d_Places_clear_15 hl (k := 1) rfl (nI_1 _) (by decide) rfl (fun ls hl => ?_)
        refine lv_goto (tgt := 2) hx hb d_Places_clear_18 (by decide) ?_
        exact ih_a (i + 1) (va_up f i (0 : Int64)) (by omega) (fun j hj => by unfold va_up; split; rfl; exact hz j (by omega)) (by omega) _ _ hP hS ls (lv_sub hl [1, 0] rfl)
  exact L_a (64 - 0 + 1) 0 (σ.2.2.2 (24 + k)) (by omega) (fun j hj => absurd hj (Nat.not_lt_zero j)) (by omega) _ _ (by rw [ps_upB_self]; exact hP) hS ls (lv_sub hl [1, 0] rfl)

def rm_Places_add : Room := { frames := 1, cells := 0, slots := 0, locals := 21 }
abbrev ws_Places_add : List Cond := .code y_Places_add b_Places_add 9 (some .int) :: ps_tb
set_option maxHeartbeats 4000000 in
set_option maxRecDepth 100000 in
theorem c_Places_add {l : Launch} {D : va_G} {g : Nat → Nat} {cI cJ cT : ClassId} {σ : ps_σ} (hg : ps_inj 33 g) (k : Nat) (hk : k < 9) (a b : Nat) (hab : a ≤ b) (hb4 : b < 4096) : Met l y_Places_add ws_Places_add rm_Places_add (ps_Pc D ps_cl (ps_tys cI cJ cT) 33 g (ps_E g cI cJ cT σ) [.ref (g (15 + k)), .int (nI a), .int (nI b)]) (ps_Qi (S := (Nat → Int64)) D ps_cl 33 g (fun f => ps_E g cI cJ cT (ps_upB σ (24 + k) f)) (fun r u => r = nI (ps_cn (ps_ad (ps_hs (σ.2.2.2 (24 + k))) a b) 4096) ∧ ∀ q, q < 4096 → ps_hs u q = (ps_hs (σ.2.2.2 (24 + k)) q || (decide (a ≤ q) && decide (q ≤ b))))) 0 0 (ps_wA 33 g) := by
  refine ps_met (by decide) ?_
  intro p e s m args below meth c hx hb hr hml hts hown hlocks hname hv Q hQ
  obtain ⟨ha, hP, hK⟩ := hv
  have hT : ∀ w ∈ ps_tb, w.before args s = true := fun w h => hts w (List.mem_cons_of_mem _ h)
  have hown : s.vm.findClass R_Places = some m.cls := hown
  have hS : va_S (ps_wA 33 g) s.heap s.heap [] := va_S.rf
  refine ps_enter ha (Nat.le_of_ble_eq_true rfl) (fun ls hl => ?_)
  have hl : lv_has ls 9 [(0, .ref (g (15 + k))), (1, .int (nI a)), (2, .int (nI b))] := hl
  refine lv_iload_n hx hb d_Places_add_0 rfl (lv_at hl 1 rfl) ?_
  refine lv_if_lt (tgt := 11) hx hb d_Places_add_1 (by decide) (fun c_1 => ?_) (fun c_1 => ?_)
  · exact absurd c_1 (nI_pos (by omega))
  · refine lv_iload_n hx hb d_Places_add_4 rfl (lv_at hl 2 rfl) ?_
    refine lv_sipush (v := nI 4096) hx hb d_Places_add_5 (by decide) ?_
    refine lv_icmp_lt (tgt := 13) hx hb d_Places_add_8 (by decide) (fun c_8 => ?_) (fun c_8 => ?_)
    · refine lv_iconst (v := nI 0) hx hb d_Places_add_13 (by decide) ?_
      refine lv_istore_n (lv' := [(3, .int (nI 0)), (0, .ref (g (15 + k))), (1, .int (nI a)), (2, .int (nI b))]) hx hb d_Places_add_14 rfl hl (by decide) rfl (fun ls hl => ?_)
      refine lv_iload_n hx hb d_Places_add_15 rfl (lv_at hl 2 rfl) ?_
      refine lv_bipush (v := nI 6) hx hb d_Places_add_16 (by decide) ?_
      refine lv_ishr hx hb d_Places_add_18 ?_
      refine ps_seti (y := nI (a / 64)) (pk_shrN (by omega) _ 6 (by decide)) ?_
      refine lv_istore (lv' := [(4, .int (nI (a / 64))), (3, .int (nI 0)), (0, .ref (g (15 + k))), (1, .int (nI a)), (2, .int (nI b))]) hx hb d_Places_add_19 hl (by decide) rfl (fun ls hl => ?_)
      have L_a : ∀ (n_a : Nat) (i fr : Nat) (f : Nat → Int64), (a / 64 ≤ i) → (i ≤ b / 64 + 1) → (fr = ps_cn (ps_ad (ps_hs (σ.2.2.2 (24 + k))) a b) (64 * i)) → (∀ j, i ≤ j → f j = σ.2.2.2 (24 + k) j) → (∀ q, q < 64 * i → ps_hs f q = (ps_hs (σ.2.2.2 (24 + k)) q || (decide (a ≤ q) && decide (q ≤ b)))) → b / 64 + 1 - i < n_a → ∀ (H : Heap) (locs : List Loc), va_P D ps_cl (ps_wl 33 g (ps_E g cI cJ cT (ps_upB σ (24 + k) f))) H → va_S (ps_wA 33 g) s.heap H locs → ∀ (ls : Array Slot), lv_has ls 9 [(0, .ref (g (15 + k))), (1, .int (nI a)), (2, .int (nI b)), (3, .int (nI fr)), (4, .int (nI i))] → W p l e rm_Places_add s m args below meth c H locs 0 0 Q (F0 m 21 ls []) := by
        intro n_a
        induction n_a with
        | zero => intro i fr f hi1 hi2 hfr hf hs hf_a; exact absurd hf_a (Nat.not_lt_zero _)
        | succ n_a ih_a =>
          intro i fr f hi1 hi2 hfr hf hs hf_a H locs hP hS ls hl
          refine lv_iload hx hb d_Places_add_21 (lv_at hl 4 rfl) ?_
          refine lv_iload_n hx hb d_Places_add_23 rfl (lv_at hl 2 rfl) ?_
          refine lv_bipush (v := nI 6) hx hb d_Places_add_24 (by decide) ?_
          refine lv_ishr hx hb d_Places_add_26 ?_
          refine ps_seti (y := nI (b / 64)) (pk_shrN (by omega) _ 6 (by decide)) ?_
          refine lv_icmp_gt (tgt := 113) hx hb d_Places_add_27 (by decide) (fun c_27 => ?_) (fun c_27 => ?_)
          · have hib : i = b / 64 + 1 := by have := ps_ltT c_27 (by omega) (by omega); omega
            refine lv_iload_n hx hb d_Places_add_113 rfl (lv_at hl 3 rfl) ?_
            rw [hQ]
            exact W.iret (v := nI fr) hx hb hr (fun zt ht _ => ⟨⟨_, f, rfl, ⟨by rw [hfr, hib, ps_ad_all hb4], ps_ad_end hb4 hib hf hs⟩, ps_hp ht hP⟩, hS.F ht⟩) hS.2.2 d_Places_add_114
          · have hib : i ≤ b / 64 := by have := ps_leOf c_27 (by omega) (by omega); omega
            refine lv_iload_n hx hb d_Places_add_30 rfl (lv_at hl 1 rfl) ?_
            refine lv_iload hx hb d_Places_add_31 (lv_at hl 4 rfl) ?_
            refine lv_bipush (v := nI 6) hx hb d_Places_add_33 (by decide) ?_
            refine lv_ishl hx hb d_Places_add_35 ?_
            refine ps_seti (y := nI (i * 64)) (pk_shlN _ 6 (by decide) (by omega)) ?_
            refine lv_isub hx hb d_Places_add_36 ?_
            refine lv_iconst (v := nI 0) hx hb d_Places_add_37 (by decide) ?_
            refine va_mmax hx hb (hml.trans hl.1.symm) hown (hT _ ml_Places_13) (hT _ st_Math_max) (hT _ in_Math) (hT _ co_Math_max) (Nat.le_of_ble_eq_true rfl) (Nat.le_of_ble_eq_true rfl) (Nat.zero_le _) (Nat.zero_le _) d_Places_add_38 ?_
            refine ps_seti (y := nI (a - i * 64)) (ps_max0 (by omega) (by omega)) ?_
            refine lv_istore (lv' := [(5, .int (nI (a - i * 64))), (0, .ref (g (15 + k))), (1, .int (nI a)), (2, .int (nI b)), (3, .int (nI fr)), (4, .int (nI i))]) hx hb d_Places_add_41 hl (by decide) rfl (fun ls hl => ?_)
            refine lv_iload_n hx hb d_Places_add_43 rfl (lv_at hl 3 rfl) ?_
            refine lv_iload hx hb d_Places_add_44 (lv_at hl 5 rfl) ?_
            refine lv_bipush (v := nI 6) hx hb d_Places_add_46 (by decide) ?_
            refine lv_ishl hx hb d_Places_add_48 ?_
            refine ps_seti (y := nI (i * 64)) (pk_shlN _ 6 (by decide) (by omega)) ?_
            refine lv_isub hx hb d_Places_add_49 ?_
            refine ps_seti (y := nI (b - i * 64)) (pk_sub (by omega)) ?_
            refine lv_bipush (v := nI 63) hx hb d_Places_add_50 (by decide) ?_
            refine va_mmin hx hb (hml.trans hl.1.symm) hown (hT _ ml_Places_19) (hT _ st_Math_min) (hT _ in_Math) (hT _ co_Math_min) (Nat.le_of_ble_eq_true rfl) (Nat.le_of_ble_eq_true rfl) (Nat.zero_le _) (Nat.zero_le _) d_Places_add_52 ?_
            refine ps_seti (y := nI (min (b - i * 64) 63)) (ps_min63 (by omega)) ?_
            refine lv_istore (lv' := [(6, .int (nI (min (b - i * 64) 63))), (5, .int (nI (a - i * 64))), (0, .ref (g (15 + k))), (1, .int (nI a)), (2, .int (nI b)), (3, .int (nI fr)), (4, .int (nI i))]) hx hb d_Places_add_55 hl (by decide) rfl (fun ls hl => ?_)
            refine lv_ldc2 (v := (-1)) hx hb hown (hT _ cl_Places_22) d_Places_add_57 ?_
            refine lv_iload hx hb d_Places_add_60 (lv_at hl 1 rfl) ?_
            refine lv_lshl (v := (-1 : Int64) <<< ((nI (a - i * 64)).toInt64 &&& 63)) hx hb d_Places_add_62 rfl ?_
            refine lv_ldc2 (v := (-1)) hx hb hown (hT _ cl_Places_22) d_Places_add_63 ?_
            refine lv_bipush (v := nI 63) hx hb d_Places_add_66 (by decide) ?_
            refine lv_iload hx hb d_Places_add_68 (lv_at hl 0 rfl) ?_
            refine lv_isub hx hb d_Places_add_70 ?_
            refine ps_seti (y := nI (63 - min (b - i * 64) 63)) (pk_sub (by omega)) ?_
            refine lv_lushr (v := ((-1 : Int64).toUInt64 >>> ((nI (63 - min (b - i * 64) 63)).toInt64.toUInt64 &&& Int64.toUInt64 63)).toInt64) hx hb d_Places_add_71 rfl ?_
            refine lv_land hx hb d_Places_add_72 ?_
            refine lv_topl (fun mk emk => ?_)
            have hmk : ∀ j, j < 64 → ps_bt mk j = (decide (a ≤ 64 * i + j) && decide (64 * i + j ≤ b)) := fun j hj => by rw [emk, ps_mask _ _ (by omega) (by omega) hj]; exact ps_ad_mask hj hib
            refine lv_lstore (lv' := [(7, .long mk), (6, .int (nI (min (b - i * 64) 63))), (5, .int (nI (a - i * 64))), (0, .ref (g (15 + k))), (1, .int (nI a)), (2, .int (nI b)), (3, .int (nI fr)), (4, .int (nI i))]) hx hb d_Places_add_73 hl (by decide) rfl (fun ls hl => ?_)
            refine lv_iload_n hx hb d_Places_add_75 rfl (lv_at hl 6 rfl) ?_
            refine lv_lload hx hb d_Places_add_76 (lv_at hl 0 rfl) ?_
            refine lv_aload_n hx hb d_Places_add_78 rfl (lv_at hl 3 rfl) ?_
            refine ps_get (v := .ref (g (24 + k))) hx hb hT i_Places hown hK hP (k := 15 + k) (by omega) (ps_E_pl hk) rfl 0 (by decide) (hT _ fl_Places_9) (fun _ h9 => h9) rfl d_Places_add_79 ?_
            refine lv_iload hx hb d_Places_add_82 (lv_at hl 7 rfl) ?_
            refine ps_lald hx hb hK hP (k := 24 + k) (by omega) 1 (ps_E_wdB _ _) rfl (i := i) (by omega) (by decide) d_Places_add_84 ?_
            refine lv_ldc2 (v := (-1)) hx hb hown (hT _ cl_Places_22) d_Places_add_85 ?_
            refine lv_lxor hx hb d_Places_add_88 ?_
            refine lv_land hx hb d_Places_add_89 ?_
            refine ps_sti (As := [.long (mk &&& ((f i) ^^^ (-1 : Int64)))]) (rest := [.int (nI fr)]) ⟨hx, hb, hml, hown, hT⟩ (c_Long_bitCount _) (va_cwS 1 hT (ps_gS ml_Places_24 st_Long_bitCount in_Long co_Long_bitCount) rfl rfl rfl cs_Long_bitCount ⟨Nat.le_of_ble_eq_true rfl, Nat.le_of_ble_eq_true rfl⟩) rfl hl.1 rfl (Nat.le_of_ble_eq_true rfl) d_Places_add_90 ⟨Nat.zero_le _, Nat.zero_le _⟩ (fun rr hrr => ?_)
            refine lv_iadd hx hb d_Places_add_93 ?_
            refine ps_seti (y := nI (fr + ps_pc (mk &&& (f i ^^^ (-1))))) (by rw [hrr, nI_add]) ?_
            refine lv_istore_n (lv' := [(3, .int (nI (fr + ps_pc (mk &&& (f i ^^^ (-1)))))), (7, .long mk), (6, .int (nI (min (b - i * 64) 63))), (5, .int (nI (a - i * 64))), (0, .ref (g (15 + k))), (1, .int (nI a)), (2, .int (nI b)), (4, .int (nI i))]) hx hb d_Places_add_94 rfl hl (by decide) rfl (fun ls hl => ?_)
            refine lv_aload_n hx hb d_Places_add_95 rfl (lv_at hl 4 rfl) ?_
            refine ps_get (v := .ref (g (24 + k))) hx hb hT i_Places hown hK hP (k := 15 + k) (by omega) (ps_E_pl hk) rfl 0 (by decide) (hT _ fl_Places_9) (fun _ h9 => h9) rfl d_Places_add_96 ?_
            refine lv_iload hx hb d_Places_add_99 (lv_at hl 7 rfl) ?_
            refine lv_dup2_11 hx hb d_Places_add_101 rfl rfl ?_
            refine ps_lald hx hb hK hP (k := 24 + k) (by omega) 1 (ps_E_wdB _ _) rfl (i := i) (by omega) (by decide) d_Places_add_102 ?_
            refine lv_lload hx hb d_Places_add_103 (lv_at hl 1 rfl) ?_
            refine lv_lor hx hb d_Places_add_105 ?_
            refine ps_last hx hb hK hg hP hS (k := 24 + k) (by omega) 1 (ps_E_wdB _ _) rfl (i := i) (by omega) (by decide) d_Places_add_106 (ps_E g cI cJ cT (ps_upB σ (24 + k) (va_up f i ((f i) ||| mk)))) (ps_E_wdB _ _) (fun i _ h => by rw [ps_E_upB h, ps_E_upB h]) (fun H locs hP hS => ?_)
            refine lv_iinc (v := (nI (i + 1))) (lv' := [(4, .int (nI (i + 1))), (3, .int (nI (fr + ps_pc (mk &&& (f i ^^^ (-1)))))), (7, .long mk), (6, .int (nI (min (b - i * 64) 63))), (5, .int (nI (a - i * 64))), (0, .ref (g (15 + k))), (1, .int (nI a)), (2, .int (nI b))]) hx hb d_Places_add_107 hl (k := 7) rfl (nI_1 _) (by decide) rfl (fun ls hl => ?_)
            refine lv_goto (tgt := 21) hx hb d_Places_add_110 (by decide) ?_
            exact ih_a (i + 1) (fr + ps_pc (mk &&& (f i ^^^ (-1)))) (va_up f i ((f i) ||| mk)) (by omega) (by omega) (ps_ad_cn hfr (hf i (Nat.le_refl i)) hmk) (fun j hj => by rw [va_up_ne _ _ (by omega)]; exact hf j (by omega)) (ps_ad_set hs (hf i (Nat.le_refl i)) hmk) (by omega) _ _ hP hS ls (lv_sub hl [5, 6, 7, 1, 0] rfl)
      exact L_a (b / 64 + 1 - (a / 64) + 1) (a / 64) 0 (σ.2.2.2 (24 + k)) (Nat.le_refl _) (by omega) ps_ad_0 (fun j _ => rfl) (fun q hq => ps_ad_low (by omega)) (by omega) _ _ (by rw [ps_upB_self]; exact hP) hS ls (lv_sub hl [2, 3, 4, 1, 0] rfl)
    · exact absurd (nI_lt (by omega) (by decide)) c_8

def rm_Places_removeAll : Room := { frames := 0, cells := 0, slots := 0, locals := 0 }
abbrev ws_Places_removeAll : List Cond := .code y_Places_removeAll b_Places_removeAll 3 none :: ps_tb
set_option maxHeartbeats 4000000 in
set_option maxRecDepth 100000 in
theorem c_Places_removeAll {l : Launch} {D : va_G} {g : Nat → Nat} {cI cJ cT : ClassId} {σ : ps_σ} (hg : ps_inj 33 g) (k : Nat) (hk : k < 9) (k2 : Nat) (hk2 : k2 < 9) (hne : k2 ≠ k) : Met l y_Places_removeAll ws_Places_removeAll rm_Places_removeAll (ps_Pc D ps_cl (ps_tys cI cJ cT) 33 g (ps_E g cI cJ cT σ) [.ref (g (15 + k)), .ref (g (15 + k2))]) (ps_Qv (S := (Nat → Int64)) D ps_cl 33 g (fun f => ps_E g cI cJ cT (ps_upB σ (24 + k) f)) (fun u => ∀ q, q < 4096 → ps_hs u q = (ps_hs (σ.2.2.2 (24 + k)) q && !ps_hs (σ.2.2.2 (24 + k2)) q))) 0 0 (ps_wA 33 g) := by
  refine ps_met (by decide) ?_
  intro p e s m args below meth c hx hb hr hml hts hown hlocks hname hv Q hQ
  obtain ⟨ha, hP, hK⟩ := hv
  have hT : ∀ w ∈ ps_tb, w.before args s = true := fun w h => hts w (List.mem_cons_of_mem _ h)
  have hown : s.vm.findClass R_Places = some m.cls := hown
  have hS : va_S (ps_wA 33 g) s.heap s.heap [] := va_S.rf
  refine ps_enter ha (Nat.le_of_ble_eq_true rfl) (fun ls hl => ?_)
  have hl : lv_has ls 3 [(0, .ref (g (15 + k))), (1, .ref (g (15 + k2)))] := hl
  refine lv_iconst (v := nI 0) hx hb d_Places_removeAll_0 (by decide) ?_
  refine lv_istore_n (lv' := [(2, .int (nI 0)), (0, .ref (g (15 + k))), (1, .ref (g (15 + k2)))]) hx hb d_Places_removeAll_1 rfl hl (by decide) rfl (fun ls hl => ?_)
  have L_a : ∀ (n_a : Nat) (i : Nat) (f : Nat → Int64), (i ≤ 64) → (∀ j, i ≤ j → f j = σ.2.2.2 (24 + k) j) → (∀ q, q < 64 * i → ps_hs f q = (ps_hs (σ.2.2.2 (24 + k)) q && !ps_hs (σ.2.2.2 (24 + k2)) q)) → 64 - i < n_a → ∀ (H : Heap) (locs : List Loc), va_P D ps_cl (ps_wl 33 g (ps_E g cI cJ cT (ps_upB σ (24 + k) f))) H → va_S (ps_wA 33 g) s.heap H locs → ∀ (ls : Array Slot), lv_has ls 3 [(0, .ref (g (15 + k))), (1, .ref (g (15 + k2))), (2, .int (nI i))] → W p l e rm_Places_removeAll s m args below meth c H locs 0 0 Q (F0 m 2 ls []) := by
    intro n_a
    induction n_a with
    | zero => intro i f hi hf hs hf_a; exact absurd hf_a (Nat.not_lt_zero _)
    | succ n_a ih_a =>
      intro i f hi hf hs hf_a H locs hP hS ls hl
      refine lv_iload_n hx hb d_Places_removeAll_2 rfl (lv_at hl 2 rfl) ?_
      refine lv_bipush (v := nI 64) hx hb d_Places_removeAll_3 (by decide) ?_
      refine lv_icmp_ge (tgt := 33) hx hb d_Places_removeAll_5 (by decide) (fun c_5 => ?_) (fun c_5 => ?_)
      · have hi64 : i = 64 := by have := ps_leT c_5 (by omega) (by omega); omega
        rw [hQ]
        exact W.vret hx hb hr (fun zt ht _ => ⟨⟨f, rfl, fun q hq => hs q (by omega), ps_hp ht hP⟩, hS.F ht⟩) hS.2.2 d_Places_removeAll_33
      · have hi64 : i < 64 := by have := ps_ltOf c_5 (by omega) (by omega); omega
        refine lv_aload_n hx hb d_Places_removeAll_8 rfl (lv_at hl 0 rfl) ?_
        refine ps_get (v := .ref (g (24 + k))) hx hb hT i_Places hown hK hP (k := 15 + k) (by omega) (ps_E_pl hk) rfl 0 (by decide) (hT _ fl_Places_9) (fun _ h9 => h9) rfl d_Places_removeAll_9 ?_
        refine lv_iload_n hx hb d_Places_removeAll_12 rfl (lv_at hl 2 rfl) ?_
        refine lv_dup2_11 hx hb d_Places_removeAll_13 rfl rfl ?_
        refine ps_lald hx hb hK hP (k := 24 + k) (by omega) 1 (ps_E_wdB _ _) rfl (i := i) (by omega) (by decide) d_Places_removeAll_14 ?_
        refine lv_aload_n hx hb d_Places_removeAll_15 rfl (lv_at hl 1 rfl) ?_
        refine ps_get (v := .ref (g (24 + k2))) hx hb hT i_Places hown hK hP (k := 15 + k2) (by omega) (ps_E_pl hk2) rfl 0 (by decide) (hT _ fl_Places_9) (fun _ h9 => h9) rfl d_Places_removeAll_16 ?_
        refine lv_iload_n hx hb d_Places_removeAll_19 rfl (lv_at hl 2 rfl) ?_
        refine ps_lald hx hb hK hP (k := 24 + k2) (by omega) 1 (by rw [ps_E_upB (by omega), ps_E_wd]) rfl (i := i) (by omega) (by decide) d_Places_removeAll_20 ?_
        refine lv_ldc2 (v := (-1)) hx hb hown (hT _ cl_Places_22) d_Places_removeAll_21 ?_
        refine lv_lxor hx hb d_Places_removeAll_24 ?_
        refine lv_land hx hb d_Places_removeAll_25 ?_
        refine ps_last hx hb hK hg hP hS (k := 24 + k) (by omega) 1 (ps_E_wdB _ _) rfl (i := i) (by omega) (by decide) d_Places_removeAll_26 (ps_E g cI cJ cT (ps_upB σ (24 + k) (va_up f i ((f i) &&& ((σ.2.2.2 (24 + k2) i) ^^^ (-1 : Int64)))))) (ps_E_wdB _ _) (fun i _ h => by rw [ps_E_upB h, ps_E_upB h]) (fun H locs hP hS => ?_)
        refine lv_iinc (v := (nI (i + 1))) (lv' := [(2, .int (nI (i + 1))), (0, .ref (g (15 + k))), (1, .ref (g (15 + k2)))]) hx hb d_Places_removeAll_27 hl (k := 2) rfl (nI_1 _) (by decide) rfl (fun ls hl => ?_)
        refine lv_goto (tgt := 2) hx hb d_Places_removeAll_30 (by decide) ?_
        exact ih_a (i + 1) (va_up f i ((f i) &&& ((σ.2.2.2 (24 + k2) i) ^^^ (-1 : Int64)))) (by omega) (fun j hj => by rw [va_up_ne _ _ (by omega)]; exact hf j (by omega)) (ps_rm_set hs (hf i (Nat.le_refl i))) (by omega) _ _ hP hS ls (lv_sub hl [1, 2, 0] rfl)
  exact L_a (64 - 0 + 1) 0 (σ.2.2.2 (24 + k)) (by omega) (fun j _ => rfl) (fun q hq => absurd hq (by omega)) (by omega) _ _ (by rw [ps_upB_self]; exact hP) hS ls (lv_sub hl [1, 2, 0] rfl)

def rm_Places_dropLast : Room := { frames := 0, cells := 0, slots := 0, locals := 0 }
abbrev ws_Places_dropLast : List Cond := .code y_Places_dropLast b_Places_dropLast 5 (some .int) :: ps_tb
set_option maxHeartbeats 4000000 in
set_option maxRecDepth 100000 in
theorem c_Places_dropLast {l : Launch} {D : va_G} {g : Nat → Nat} {cI cJ cT : ClassId} {σ : ps_σ} (hg : ps_inj 33 g) (k : Nat) (hk : k < 9) (n : Nat) (hn31 : n < 2 ^ 31) : Met l y_Places_dropLast ws_Places_dropLast rm_Places_dropLast (ps_Pc D ps_cl (ps_tys cI cJ cT) 33 g (ps_E g cI cJ cT σ) [.ref (g (15 + k)), .int (nI n)]) (ps_Qi (S := (Nat → Int64)) D ps_cl 33 g (fun f => ps_E g cI cJ cT (ps_upB σ (24 + k) f)) (fun r u => r = nI (n - ps_left (ps_hs (σ.2.2.2 (24 + k))) n 0) ∧ ∀ q, q < 4096 → ps_hs u q = ps_dl (ps_hs (σ.2.2.2 (24 + k))) n 0 q)) 0 0 (ps_wA 33 g) := by
  refine ps_met (by decide) ?_
  intro p e s m args below meth c hx hb hr hml hts hown hlocks hname hv Q hQ
  obtain ⟨ha, hP, hK⟩ := hv
  have hT : ∀ w ∈ ps_tb, w.before args s = true := fun w h => hts w (List.mem_cons_of_mem _ h)
  have hown : s.vm.findClass R_Places = some m.cls := hown
  have hS : va_S (ps_wA 33 g) s.heap s.heap [] := va_S.rf
  refine ps_enter ha (Nat.le_of_ble_eq_true rfl) (fun ls hl => ?_)
  have hl : lv_has ls 5 [(0, .ref (g (15 + k))), (1, .int (nI n))] := hl
  refine lv_iload_n hx hb d_Places_dropLast_0 rfl (lv_at hl 1 rfl) ?_
  refine lv_istore_n (lv' := [(2, .int (nI n)), (0, .ref (g (15 + k))), (1, .int (nI n))]) hx hb d_Places_dropLast_1 rfl hl (by decide) rfl (fun ls hl => ?_)
  refine lv_bipush (v := nI 63) hx hb d_Places_dropLast_2 (by decide) ?_
  refine ps_seti (y := ps_pr 64) (by decide) ?_
  refine lv_istore_n (lv' := [(3, .int (ps_pr 64)), (2, .int (nI n)), (0, .ref (g (15 + k))), (1, .int (nI n))]) hx hb d_Places_dropLast_4 rfl hl (by decide) rfl (fun ls hl => ?_)
  have L_a : ∀ (n_a : Nat) (v lf : Nat) (f : Nat → Int64), (v ≤ 64) → (lf = ps_left (ps_hs (σ.2.2.2 (24 + k))) n (64 * v)) → (∀ q, q < 4096 → ps_hs f q = ps_dl (ps_hs (σ.2.2.2 (24 + k))) n (64 * v) q) → v < n_a → ∀ (H : Heap) (locs : List Loc), va_P D ps_cl (ps_wl 33 g (ps_E g cI cJ cT (ps_upB σ (24 + k) f))) H → va_S (ps_wA 33 g) s.heap H locs → ∀ (ls : Array Slot), lv_has ls 5 [(0, .ref (g (15 + k))), (1, .int (nI n)), (2, .int (nI lf)), (3, .int (ps_pr v))] → W p l e rm_Places_dropLast s m args below meth c H locs 0 0 Q (F0 m 5 ls []) := by
    intro n_a
    induction n_a with
    | zero => intro v lf f hv64 hlf hd hf_a; exact absurd hf_a (Nat.not_lt_zero _)
    | succ n_a ih_a =>
      intro v lf f hv64 hlf hd hf_a H locs hP hS ls hl
      refine lv_iload_n hx hb d_Places_dropLast_5 rfl (lv_at hl 3 rfl) ?_
      refine lv_if_lt (tgt := 81) hx hb d_Places_dropLast_6 (by decide) (fun c_6 => ?_) (fun c_6 => ?_)
      · have hv0 : v = 0 := ps_pr_neg (by omega) c_6
        subst hv0
        refine lv_iload_n hx hb d_Places_dropLast_81 rfl (lv_at hl 1 rfl) ?_
        refine lv_iload_n hx hb d_Places_dropLast_82 rfl (lv_at hl 2 rfl) ?_
        refine lv_isub hx hb d_Places_dropLast_83 ?_
        refine ps_seti (y := nI (n - lf)) (pk_sub (by unfold ps_left at hlf; omega)) ?_
        rw [hQ]
        exact W.iret (v := nI (n - lf)) hx hb hr (fun zt ht _ => ⟨⟨_, f, rfl, ⟨by rw [hlf], hd⟩, ps_hp ht hP⟩, hS.F ht⟩) hS.2.2 d_Places_dropLast_84
      · have hv0 : ¬ v = 0 := ps_pr_pos c_6
        obtain ⟨w, rfl⟩ : ∃ z, v = z + 1 := ⟨v - 1, by omega⟩
        rw [ps_pr_s] at hl
        refine lv_bipush (v := nI 63) hx hb d_Places_dropLast_9 (by decide) ?_
        refine ps_seti (y := ps_pr 64) (by decide) ?_
        refine lv_istore (lv' := [(4, .int (ps_pr 64)), (0, .ref (g (15 + k))), (1, .int (nI n)), (2, .int (nI lf)), (3, .int (nI w))]) hx hb d_Places_dropLast_11 hl (by decide) rfl (fun ls hl => ?_)
        have L_b : ∀ (n_b : Nat) (b1 lf : Nat) (f : Nat → Int64), (b1 ≤ 64) → (lf = ps_left (ps_hs (σ.2.2.2 (24 + k))) n (64 * w + b1)) → (∀ q, q < 4096 → ps_hs f q = ps_dl (ps_hs (σ.2.2.2 (24 + k))) n (64 * w + b1) q) → b1 < n_b → ∀ (H : Heap) (locs : List Loc), va_P D ps_cl (ps_wl 33 g (ps_E g cI cJ cT (ps_upB σ (24 + k) f))) H → va_S (ps_wA 33 g) s.heap H locs → ∀ (ls : Array Slot), lv_has ls 5 [(0, .ref (g (15 + k))), (1, .int (nI n)), (2, .int (nI lf)), (3, .int (nI w)), (4, .int (ps_pr b1))] → W p l e rm_Places_dropLast s m args below meth c H locs 0 0 Q (F0 m 13 ls []) := by
          intro n_b
          induction n_b with
          | zero => intro b1 lf f hb64 hlf hd hf_b; exact absurd hf_b (Nat.not_lt_zero _)
          | succ n_b ih_b =>
            intro b1 lf f hb64 hlf hd hf_b H locs hP hS ls hl
            refine lv_iload hx hb d_Places_dropLast_13 (lv_at hl 4 rfl) ?_
            refine lv_if_lt (tgt := 75) hx hb d_Places_dropLast_15 (by decide) (fun c_15 => ?_) (fun c_15 => ?_)
            · have hb0 : b1 = 0 := ps_pr_neg (by omega) c_15
              have hlw : lf = ps_left (ps_hs (σ.2.2.2 (24 + k))) n (64 * w) := by rw [hlf, hb0]; rfl
              have hdw : ∀ q, q < 4096 → ps_hs f q = ps_dl (ps_hs (σ.2.2.2 (24 + k))) n (64 * w) q := fun q hq => by rw [hd q hq, hb0]; rfl
              refine lv_iinc (v := (ps_pr w)) (lv' := [(3, .int (ps_pr w)), (0, .ref (g (15 + k))), (1, .int (nI n)), (2, .int (nI lf)), (4, .int (ps_pr b1))]) hx hb d_Places_dropLast_75 hl (k := 3) rfl rfl (by decide) rfl (fun ls hl => ?_)
              refine lv_goto (tgt := 5) hx hb d_Places_dropLast_78 (by decide) ?_
              exact ih_a w lf f (by omega) hlw hdw (by omega) _ _ hP hS ls (lv_sub hl [1, 2, 3, 0] rfl)
            · have hb0 : ¬ b1 = 0 := ps_pr_pos c_15
              obtain ⟨b2, rfl⟩ : ∃ z, b1 = z + 1 := ⟨b1 - 1, by omega⟩
              rw [ps_pr_s] at hl
              refine lv_iload_n hx hb d_Places_dropLast_18 rfl (lv_at hl 2 rfl) ?_
              refine lv_if_le (tgt := 75) hx hb d_Places_dropLast_19 (by decide) (fun c_19 => ?_) (fun c_19 => ?_)
              · have hl0 : lf = 0 := ps_le0 (by unfold ps_left at hlf; omega) c_19
                have hdn := ps_dl_done (S := ps_hs (σ.2.2.2 (24 + k))) (n := n) (p := 64 * w + (b2 + 1)) (a := 64 * w) (by omega) (by omega) (by rw [← hlf]; exact hl0)
                have hlw : lf = ps_left (ps_hs (σ.2.2.2 (24 + k))) n (64 * w) := by rw [hdn.1, hl0]
                have hdw : ∀ q, q < 4096 → ps_hs f q = ps_dl (ps_hs (σ.2.2.2 (24 + k))) n (64 * w) q := fun q hq => by rw [hdn.2 q]; exact hd q hq
                refine lv_iinc (v := (ps_pr w)) (lv' := [(3, .int (ps_pr w)), (0, .ref (g (15 + k))), (1, .int (nI n)), (2, .int (nI lf)), (4, .int (nI b2))]) hx hb d_Places_dropLast_75 hl (k := 3) rfl rfl (by decide) rfl (fun ls hl => ?_)
                refine lv_goto (tgt := 5) hx hb d_Places_dropLast_78 (by decide) ?_
                exact ih_a w lf f (by omega) hlw hdw (by omega) _ _ hP hS ls (lv_sub hl [1, 2, 3, 0] rfl)
              · have hl0 : 0 < lf := ps_nle0 c_19
                refine lv_aload_n hx hb d_Places_dropLast_22 rfl (lv_at hl 0 rfl) ?_
                refine ps_get (v := .ref (g (24 + k))) hx hb hT i_Places hown hK hP (k := 15 + k) (by omega) (ps_E_pl hk) rfl 0 (by decide) (hT _ fl_Places_9) (fun _ h9 => h9) rfl d_Places_dropLast_23 ?_
                refine lv_iload_n hx hb d_Places_dropLast_26 rfl (lv_at hl 3 rfl) ?_
                refine ps_lald hx hb hK hP (k := 24 + k) (by omega) 1 (ps_E_wdB _ _) rfl (i := w) (by omega) (by decide) d_Places_dropLast_27 ?_
                refine lv_lconst (v := 0) hx hb d_Places_dropLast_28 (by decide) ?_
                refine W.lcmp hx hb d_Places_dropLast_29 ?_
                refine lv_if_eq (tgt := 75) hx hb d_Places_dropLast_30 (by decide) (fun c_30 => ?_) (fun c_30 => ?_)
                · rw [ps_lcmp0, ps_eq0] at c_30
                  have hfl := ps_dl_word (by omega) (by omega) hd c_30
                  have hlw : lf = ps_left (ps_hs (σ.2.2.2 (24 + k))) n (64 * w) := by rw [hfl.1]; exact hlf
                  have hdw : ∀ q, q < 4096 → ps_hs f q = ps_dl (ps_hs (σ.2.2.2 (24 + k))) n (64 * w) q := fun q hq => by rw [hfl.2 q]; exact hd q hq
                  refine lv_iinc (v := (ps_pr w)) (lv' := [(3, .int (ps_pr w)), (0, .ref (g (15 + k))), (1, .int (nI n)), (2, .int (nI lf)), (4, .int (nI b2))]) hx hb d_Places_dropLast_75 hl (k := 3) rfl rfl (by decide) rfl (fun ls hl => ?_)
                  refine lv_goto (tgt := 5) hx hb d_Places_dropLast_78 (by decide) ?_
                  exact ih_a w lf f (by omega) hlw hdw (by omega) _ _ hP hS ls (lv_sub hl [1, 2, 3, 0] rfl)
                · refine lv_aload_n hx hb d_Places_dropLast_33 rfl (lv_at hl 0 rfl) ?_
                  refine ps_get (v := .ref (g (24 + k))) hx hb hT i_Places hown hK hP (k := 15 + k) (by omega) (ps_E_pl hk) rfl 0 (by decide) (hT _ fl_Places_9) (fun _ h9 => h9) rfl d_Places_dropLast_34 ?_
                  refine lv_iload_n hx hb d_Places_dropLast_37 rfl (lv_at hl 3 rfl) ?_
                  refine ps_lald hx hb hK hP (k := 24 + k) (by omega) 1 (ps_E_wdB _ _) rfl (i := w) (by omega) (by decide) d_Places_dropLast_38 ?_
                  refine lv_iload hx hb d_Places_dropLast_39 (lv_at hl 4 rfl) ?_
                  refine lv_lushr (v := ((f w).toUInt64 >>> ((nI b2).toInt64.toUInt64 &&& Int64.toUInt64 63)).toInt64) hx hb d_Places_dropLast_41 rfl ?_
                  refine lv_lconst (v := 1) hx hb d_Places_dropLast_42 (by decide) ?_
                  refine lv_land hx hb d_Places_dropLast_43 ?_
                  refine lv_lconst (v := 0) hx hb d_Places_dropLast_44 (by decide) ?_
                  refine W.lcmp hx hb d_Places_dropLast_45 ?_
                  refine lv_if_eq (tgt := 69) hx hb d_Places_dropLast_46 (by decide) (fun c_46 => ?_) (fun c_46 => ?_)
                  · rw [ps_lcmp0] at c_46
                    have hsb := ps_dl_bit (b := b2) (by omega) (by omega) hd
                    have hno := ps_dl_none (S := ps_hs (σ.2.2.2 (24 + k))) (n := n) (q := 64 * w + b2) (by rw [← hsb]; exact (ps_bit1 _ (by omega) _).mp c_46)
                    have hlx : lf = ps_left (ps_hs (σ.2.2.2 (24 + k))) n (64 * w + b2) := by rw [hno.1]; exact hlf
                    have hdx : ∀ q, q < 4096 → ps_hs f q = ps_dl (ps_hs (σ.2.2.2 (24 + k))) n (64 * w + b2) q := fun q hq => by rw [hno.2 q]; exact hd q hq
                    refine lv_iinc (v := (ps_pr b2)) (lv' := [(4, .int (ps_pr b2)), (0, .ref (g (15 + k))), (1, .int (nI n)), (2, .int (nI lf)), (3, .int (nI w))]) hx hb d_Places_dropLast_69 hl (k := 4) rfl rfl (by decide) rfl (fun ls hl => ?_)
                    refine lv_goto (tgt := 13) hx hb d_Places_dropLast_72 (by decide) ?_
                    exact ih_b b2 lf f (by omega) hlx hdx (by omega) _ _ hP hS ls (lv_sub hl [1, 2, 3, 4, 0] rfl)
                  · rw [ps_lcmp0] at c_46
                    have hsb := ps_dl_bit (b := b2) (by omega) (by omega) hd
                    have hon := ps_dl_one (S := ps_hs (σ.2.2.2 (24 + k))) (n := n) (q := 64 * w + b2) (by omega) (by rw [← hsb]; exact ps_bit1t (by omega) c_46) (by rw [show 64 * w + b2 + 1 = 64 * w + (b2 + 1) by omega, ← hlf]; exact hl0)
                    have hlx : lf - 1 = ps_left (ps_hs (σ.2.2.2 (24 + k))) n (64 * w + b2) := by have := hon.1; rw [show 64 * w + b2 + 1 = 64 * w + (b2 + 1) by omega, ← hlf] at this; omega
                    have hdx := ps_dl_set (b := b2) (by omega) hd hon.2
                    refine lv_aload_n hx hb d_Places_dropLast_49 rfl (lv_at hl 0 rfl) ?_
                    refine ps_get (v := .ref (g (24 + k))) hx hb hT i_Places hown hK hP (k := 15 + k) (by omega) (ps_E_pl hk) rfl 0 (by decide) (hT _ fl_Places_9) (fun _ h9 => h9) rfl d_Places_dropLast_50 ?_
                    refine lv_iload_n hx hb d_Places_dropLast_53 rfl (lv_at hl 3 rfl) ?_
                    refine lv_dup2_11 hx hb d_Places_dropLast_54 rfl rfl ?_
                    refine ps_lald hx hb hK hP (k := 24 + k) (by omega) 1 (ps_E_wdB _ _) rfl (i := w) (by omega) (by decide) d_Places_dropLast_55 ?_
                    refine lv_lconst (v := 1) hx hb d_Places_dropLast_56 (by decide) ?_
                    refine lv_iload hx hb d_Places_dropLast_57 (lv_at hl 4 rfl) ?_
                    refine lv_lshl (v := (1 : Int64) <<< ((nI b2).toInt64 &&& 63)) hx hb d_Places_dropLast_59 rfl ?_
                    refine lv_ldc2 (v := (-1)) hx hb hown (hT _ cl_Places_22) d_Places_dropLast_60 ?_
                    refine lv_lxor hx hb d_Places_dropLast_63 ?_
                    refine lv_land hx hb d_Places_dropLast_64 ?_
                    refine ps_last hx hb hK hg hP hS (k := 24 + k) (by omega) 1 (ps_E_wdB _ _) rfl (i := w) (by omega) (by decide) d_Places_dropLast_65 (ps_E g cI cJ cT (ps_upB σ (24 + k) (va_up f w ((f w) &&& (((1 : Int64) <<< ((nI b2).toInt64 &&& 63)) ^^^ (-1 : Int64)))))) (ps_E_wdB _ _) (fun i _ h => by rw [ps_E_upB h, ps_E_upB h]) (fun H locs hP hS => ?_)
                    refine lv_iinc (v := (nI (lf - 1))) (lv' := [(2, .int (nI (lf - 1))), (0, .ref (g (15 + k))), (1, .int (nI n)), (3, .int (nI w)), (4, .int (nI b2))]) hx hb d_Places_dropLast_66 hl (k := 2) rfl (ps_dec1 hl0) (by decide) rfl (fun ls hl => ?_)
                    refine lv_iinc (v := (ps_pr b2)) (lv' := [(4, .int (ps_pr b2)), (2, .int (nI (lf - 1))), (0, .ref (g (15 + k))), (1, .int (nI n)), (3, .int (nI w))]) hx hb d_Places_dropLast_69 hl (k := 4) rfl rfl (by decide) rfl (fun ls hl => ?_)
                    refine lv_goto (tgt := 13) hx hb d_Places_dropLast_72 (by decide) ?_
                    exact ih_b b2 (lf - 1) (va_up f w ((f w) &&& (((1 : Int64) <<< ((nI b2).toInt64 &&& 63)) ^^^ (-1 : Int64)))) (by omega) hlx hdx (by omega) _ _ hP hS ls (lv_sub hl [2, 3, 1, 4, 0] rfl)
        exact L_b (64 + 1) 64 lf f (by omega) (by rw [hlf, Nat.mul_succ]) (fun q hq => hd q hq) (by omega) _ _ hP hS ls (lv_sub hl [1, 2, 3, 4, 0] rfl)
  exact L_a (64 + 1) 64 n (σ.2.2.2 (24 + k)) (by omega) ((ps_left_top _ _).symm) (fun q hq => (ps_dl_top _ _ hq).symm) (by omega) _ _ (by rw [ps_upB_self]; exact hP) hS ls (lv_sub hl [2, 3, 1, 0] rfl)

def rm_Places_nth : Room := { frames := 2, cells := 0, slots := 0, locals := 42 }
abbrev ws_Places_nth : List Cond := .code y_Places_nth b_Places_nth 8 (some .int) :: ps_tb
set_option maxHeartbeats 4000000 in
set_option maxRecDepth 100000 in
theorem c_Places_nth {l : Launch} {D : va_G} {g : Nat → Nat} {cI cJ cT : ClassId} {σ : ps_σ} (k : Nat) (hk : k < 9) (x q : Nat) (hq4 : q < 4096) (hsq : ps_hs (σ.2.2.2 (24 + k)) q = true) (hxq : ps_cn (ps_hs (σ.2.2.2 (24 + k))) q = x) : Met l y_Places_nth ws_Places_nth rm_Places_nth (ps_Pc D ps_cl (ps_tys cI cJ cT) 33 g (ps_E g cI cJ cT σ) [.ref (g (15 + k)), .int (nI x)]) (vp_Si (fun r => r = nI q)) 0 0 (fun _ => False) := by
  refine ps_met (by decide) ?_
  intro p e s m args below meth c hx hb hr hml hts hown hlocks hname hv Q hQ
  obtain ⟨ha, hP, hK⟩ := hv
  have hT : ∀ w ∈ ps_tb, w.before args s = true := fun w h => hts w (List.mem_cons_of_mem _ h)
  have hown : s.vm.findClass R_Places = some m.cls := hown
  refine ps_enter ha (Nat.le_of_ble_eq_true rfl) (fun ls hl => ?_)
  have hl : lv_has ls 8 [(0, .ref (g (15 + k))), (1, .int (nI x))] := hl
  refine lv_iload_n hx hb d_Places_nth_0 rfl (lv_at hl 1 rfl) ?_
  refine lv_istore_n (lv' := [(2, .int (nI x)), (0, .ref (g (15 + k))), (1, .int (nI x))]) hx hb d_Places_nth_1 rfl hl (by decide) rfl (fun ls hl => ?_)
  refine lv_iconst (v := nI 0) hx hb d_Places_nth_2 (by decide) ?_
  refine lv_istore_n (lv' := [(3, .int (nI 0)), (2, .int (nI x)), (0, .ref (g (15 + k))), (1, .int (nI x))]) hx hb d_Places_nth_3 rfl hl (by decide) rfl (fun ls hl => ?_)
  have L_a : ∀ (n_a : Nat) (i : Nat), (i ≤ q / 64) → q / 64 - i < n_a → ∀ (ls : Array Slot), lv_has ls 8 [(0, .ref (g (15 + k))), (1, .int (nI x)), (2, .int (nI (x - ps_cn (ps_hs (σ.2.2.2 (24 + k))) (64 * i)))), (3, .int (nI i))] → W p l e rm_Places_nth s m args below meth c s.heap [] 0 0 Q (F0 m 4 ls []) := by
    intro n_a
    induction n_a with
    | zero => intro i hi hf_a; exact absurd hf_a (Nat.not_lt_zero _)
    | succ n_a ih_a =>
      intro i hi hf_a ls hl
      refine lv_iload_n hx hb d_Places_nth_4 rfl (lv_at hl 3 rfl) ?_
      refine lv_bipush (v := nI 64) hx hb d_Places_nth_5 (by decide) ?_
      refine lv_icmp_ge (tgt := 77) hx hb d_Places_nth_7 (by decide) (fun c_7 => ?_) (fun c_7 => ?_)
      · exact absurd (ps_leT c_7 (by omega) (by omega)) (by omega)
      · have hle := ps_cn_mono (ps_hs (σ.2.2.2 (24 + k))) (show 64 * i ≤ q by omega)
        have hww := ps_cn_words (σ.2.2.2 (24 + k)) i
        have hx4 := ps_cn_le (ps_hs (σ.2.2.2 (24 + k))) q
        refine lv_aload_n hx hb d_Places_nth_10 rfl (lv_at hl 0 rfl) ?_
        refine ps_get (v := .ref (g (24 + k))) hx hb hT i_Places hown hK hP (k := 15 + k) (by omega) (ps_E_pl hk) rfl 0 (by decide) (hT _ fl_Places_9) (fun _ h9 => h9) rfl d_Places_nth_11 ?_
        refine lv_iload_n hx hb d_Places_nth_14 rfl (lv_at hl 3 rfl) ?_
        refine ps_lald hx hb hK hP (k := 24 + k) (by omega) 1 (ps_E_wd _) rfl (i := i) (by omega) (by decide) d_Places_nth_15 ?_
        refine lv_lstore (lv' := [(4, .long (σ.2.2.2 (24 + k) i)), (0, .ref (g (15 + k))), (1, .int (nI x)), (2, .int (nI (x - ps_cn (ps_hs (σ.2.2.2 (24 + k))) (64 * i)))), (3, .int (nI i))]) hx hb d_Places_nth_16 hl (by decide) rfl (fun ls hl => ?_)
        refine lv_lload hx hb d_Places_nth_18 (lv_at hl 0 rfl) ?_
        refine ps_sti (As := [.long (σ.2.2.2 (24 + k) i)]) (rest := []) ⟨hx, hb, hml, hown, hT⟩ (c_Long_bitCount _) (va_cwS 1 hT (ps_gS ml_Places_24 st_Long_bitCount in_Long co_Long_bitCount) rfl rfl rfl cs_Long_bitCount ⟨Nat.le_of_ble_eq_true rfl, Nat.le_of_ble_eq_true rfl⟩) rfl hl.1 rfl (Nat.le_of_ble_eq_true rfl) d_Places_nth_20 ⟨Nat.zero_le _, Nat.zero_le _⟩ (fun rr hrr => ?_)
        subst hrr
        refine lv_istore (lv' := [(6, .int (nI (ps_pc (σ.2.2.2 (24 + k) i)))), (4, .long (σ.2.2.2 (24 + k) i)), (0, .ref (g (15 + k))), (1, .int (nI x)), (2, .int (nI (x - ps_cn (ps_hs (σ.2.2.2 (24 + k))) (64 * i)))), (3, .int (nI i))]) hx hb d_Places_nth_23 hl (by decide) rfl (fun ls hl => ?_)
        refine lv_iload_n hx hb d_Places_nth_25 rfl (lv_at hl 4 rfl) ?_
        refine lv_iload hx hb d_Places_nth_26 (lv_at hl 0 rfl) ?_
        refine lv_icmp_ge (tgt := 66) hx hb d_Places_nth_28 (by decide) (fun c_28 => ?_) (fun c_28 => ?_)
        · have hlt : i < q / 64 := by
            rcases Nat.lt_or_ge i (q / 64) with z | z
            · exact z
            · have z2 : i = q / 64 := by omega
              have h1 := ps_leT c_28 (by have := ps_pc_le (σ.2.2.2 (24 + k) i); omega) (by omega)
              have h2 := ps_cn_lt (P := ps_hs (σ.2.2.2 (24 + k))) (n := 64 * (i + 1)) (j := q) (by omega) hsq
              omega
          refine lv_iload_n hx hb d_Places_nth_66 rfl (lv_at hl 4 rfl) ?_
          refine lv_iload hx hb d_Places_nth_67 (lv_at hl 0 rfl) ?_
          refine lv_isub hx hb d_Places_nth_69 ?_
          refine ps_seti (y := nI (x - ps_cn (ps_hs (σ.2.2.2 (24 + k))) (64 * (i + 1)))) (by rw [hww, pk_sub (ps_leT c_28 (by have := ps_pc_le (σ.2.2.2 (24 + k) i); omega) (by omega))]; congr 1; omega) ?_
          refine lv_istore_n (lv' := [(2, .int (nI (x - ps_cn (ps_hs (σ.2.2.2 (24 + k))) (64 * (i + 1))))), (6, .int (nI (ps_pc (σ.2.2.2 (24 + k) i)))), (4, .long (σ.2.2.2 (24 + k) i)), (0, .ref (g (15 + k))), (1, .int (nI x)), (3, .int (nI i))]) hx hb d_Places_nth_70 rfl hl (by decide) rfl (fun ls hl => ?_)
          refine lv_iinc (v := (nI (i + 1))) (lv' := [(3, .int (nI (i + 1))), (2, .int (nI (x - ps_cn (ps_hs (σ.2.2.2 (24 + k))) (64 * (i + 1))))), (6, .int (nI (ps_pc (σ.2.2.2 (24 + k) i)))), (4, .long (σ.2.2.2 (24 + k) i)), (0, .ref (g (15 + k))), (1, .int (nI x))]) hx hb d_Places_nth_71 hl (k := 5) rfl (nI_1 _) (by decide) rfl (fun ls hl => ?_)
          refine lv_goto (tgt := 4) hx hb d_Places_nth_74 (by decide) ?_
          exact ih_a (i + 1) (by omega) (by omega)  ls (lv_sub hl [4, 5, 1, 0] rfl)
        · have hlt : i = q / 64 := by
            rcases Nat.lt_or_ge i (q / 64) with z | z
            · have h1 := ps_ltOf c_28 (by omega) (by have := ps_pc_le (σ.2.2.2 (24 + k) i); omega)
              have h2 := ps_cn_mono (ps_hs (σ.2.2.2 (24 + k))) (show 64 * (i + 1) ≤ q by omega)
              omega
            · omega
          have hrk : ps_cn (ps_bt (σ.2.2.2 (24 + k) i)) (q % 64) = x - ps_cn (ps_hs (σ.2.2.2 (24 + k))) (64 * i) := by have := ps_nth_word (σ.2.2.2 (24 + k)) q; rw [← hlt] at this; omega
          have hqb : ps_bt (σ.2.2.2 (24 + k) i) (q % 64) = true := by rw [hlt]; exact hsq
          refine lv_iconst (v := nI 0) hx hb d_Places_nth_31 (by decide) ?_
          refine lv_istore (lv' := [(7, .int (nI 0)), (6, .int (nI (ps_pc (σ.2.2.2 (24 + k) i)))), (4, .long (σ.2.2.2 (24 + k) i)), (0, .ref (g (15 + k))), (1, .int (nI x)), (2, .int (nI (x - ps_cn (ps_hs (σ.2.2.2 (24 + k))) (64 * i)))), (3, .int (nI i))]) hx hb d_Places_nth_32 hl (by decide) rfl (fun ls hl => ?_)
          have L_b : ∀ (n_b : Nat) (t : Nat) (bits : Int64), (t ≤ x - ps_cn (ps_hs (σ.2.2.2 (24 + k))) (64 * i)) → (∀ j, j < 64 → ps_bt bits j = (ps_bt (σ.2.2.2 (24 + k) i) j && decide (t ≤ ps_cn (ps_bt (σ.2.2.2 (24 + k) i)) j))) → x - ps_cn (ps_hs (σ.2.2.2 (24 + k))) (64 * i) - t < n_b → ∀ (ls : Array Slot), lv_has ls 8 [(0, .ref (g (15 + k))), (2, .int (nI (x - ps_cn (ps_hs (σ.2.2.2 (24 + k))) (64 * i)))), (3, .int (nI i)), (4, .long bits), (7, .int (nI t))] → W p l e rm_Places_nth s m args below meth c s.heap [] 0 0 Q (F0 m 34 ls []) := by
            intro n_b
            induction n_b with
            | zero => intro t bits ht1 hbits hf_b; exact absurd hf_b (Nat.not_lt_zero _)
            | succ n_b ih_b =>
              intro t bits ht1 hbits hf_b ls hl
              refine lv_iload hx hb d_Places_nth_34 (lv_at hl 4 rfl) ?_
              refine lv_iload_n hx hb d_Places_nth_36 rfl (lv_at hl 1 rfl) ?_
              refine lv_icmp_ge (tgt := 55) hx hb d_Places_nth_37 (by decide) (fun c_37 => ?_) (fun c_37 => ?_)
              · have htl : t = x - ps_cn (ps_hs (σ.2.2.2 (24 + k))) (64 * i) := by have := ps_leT c_37 (by omega) (by omega); omega
                refine lv_iload_n hx hb d_Places_nth_55 rfl (lv_at hl 2 rfl) ?_
                refine lv_bipush (v := nI 6) hx hb d_Places_nth_56 (by decide) ?_
                refine lv_ishl hx hb d_Places_nth_58 ?_
                refine ps_seti (y := nI (i * 64)) (pk_shlN _ 6 (by decide) (by omega)) ?_
                refine lv_lload hx hb d_Places_nth_59 (lv_at hl 3 rfl) ?_
                refine ps_sti (As := [.long bits]) (rest := [.int (nI (i * 64))]) ⟨hx, hb, hml, hown, hT⟩ (c_Places_lowest _ (q % 64) (by omega) (by rw [hbits _ (by omega), hqb, hrk, htl, decide_eq_true (Nat.le_refl _)]; rfl) (ps_nth_low hbits hqb (by rw [hrk, htl]))) (va_cwS 1 hT (ps_gS ml_Places_34 st_Places_lowest in_Places co_Places_lowest) rfl rfl rfl cs_Places_lowest ⟨Nat.le_of_ble_eq_true rfl, Nat.le_of_ble_eq_true rfl⟩) rfl hl.1 rfl (Nat.le_of_ble_eq_true rfl) d_Places_nth_61 ⟨Nat.zero_le _, Nat.zero_le _⟩ (fun rr hrr => ?_)
                subst hrr
                refine lv_iadd hx hb d_Places_nth_64 ?_
                rw [hQ]
                exact W.iret (v := (nI (i * 64)) + (nI (q % 64))) hx hb hr (fun zt ht _ => ⟨_, rfl, by rw [nI_add]; congr 1; omega, ht⟩) (fun q h => absurd h List.not_mem_nil) d_Places_nth_65
              · have htl : t + 1 ≤ x - ps_cn (ps_hs (σ.2.2.2 (24 + k))) (64 * i) := by have := ps_ltOf c_37 (by omega) (by omega); omega
                refine lv_lload hx hb d_Places_nth_40 (lv_at hl 3 rfl) ?_
                refine lv_lload hx hb d_Places_nth_42 (lv_at hl 3 rfl) ?_
                refine lv_lconst (v := 1) hx hb d_Places_nth_44 (by decide) ?_
                refine lv_lsub hx hb d_Places_nth_45 ?_
                refine lv_land hx hb d_Places_nth_46 ?_
                refine lv_lstore (lv' := [(4, .long (bits &&& (bits - (1 : Int64)))), (0, .ref (g (15 + k))), (2, .int (nI (x - ps_cn (ps_hs (σ.2.2.2 (24 + k))) (64 * i)))), (3, .int (nI i)), (7, .int (nI t))]) hx hb d_Places_nth_47 hl (by decide) rfl (fun ls hl => ?_)
                refine lv_iinc (v := (nI (t + 1))) (lv' := [(7, .int (nI (t + 1))), (4, .long (bits &&& (bits - (1 : Int64)))), (0, .ref (g (15 + k))), (2, .int (nI (x - ps_cn (ps_hs (σ.2.2.2 (24 + k))) (64 * i)))), (3, .int (nI i))]) hx hb d_Places_nth_49 hl (k := 4) rfl (nI_1 _) (by decide) rfl (fun ls hl => ?_)
                refine lv_goto (tgt := 34) hx hb d_Places_nth_52 (by decide) ?_
                exact ih_b (t + 1) (bits &&& (bits - 1)) htl (ps_nth_step hbits (j0 := q % 64) (by omega) hqb (by omega)) (by omega)  ls (lv_sub hl [2, 3, 4, 1, 0] rfl)
          exact L_b (x - ps_cn (ps_hs (σ.2.2.2 (24 + k))) (64 * i) - 0 + 1) 0 (σ.2.2.2 (24 + k) i) (Nat.zero_le _) (fun j _ => by rw [decide_eq_true (Nat.zero_le _), Bool.and_true]) (by omega)  ls (lv_sub hl [3, 5, 6, 2, 0] rfl)
  exact L_a (q / 64 - 0 + 1) 0 (by omega) (by omega)  ls (lv_sub hl [2, 3, 1, 0] rfl)
