theorem ml_Tape_35 : (.methodLink R_Tape 35 y_String_length : Cond) ∈ ps_tb := ps_in 296 (by decide +kernel) rfl
theorem co_String_length : (.code y_String_length b_String_length 1 (some .int) : Cond) ∈ ps_tb := ps_in 299 (by decide +kernel) rfl
theorem im_String_length : (.instanceMethod y_String_length : Cond) ∈ ps_tb := ps_in 297 (by decide +kernel) rfl
theorem se_String_length : (.selects R_String y_String_length y_String_length : Cond) ∈ ps_tb := ps_in 298 (by decide +kernel) rfl
theorem ml_Tape_59 : (.methodLink R_Tape 59 y_String_charAt : Cond) ∈ ps_tb := ps_in 310 (by decide +kernel) rfl
theorem co_String_charAt : (.code y_String_charAt b_String_charAt 2 (some .char) : Cond) ∈ ps_tb := ps_in 313 (by decide +kernel) rfl
theorem im_String_charAt : (.instanceMethod y_String_charAt : Cond) ∈ ps_tb := ps_in 311 (by decide +kernel) rfl
theorem se_String_charAt : (.selects R_String y_String_charAt y_String_charAt : Cond) ∈ ps_tb := ps_in 312 (by decide +kernel) rfl
theorem ml_Tape_29 : (.methodLink R_Tape 29 y_Tape_hasHead : Cond) ∈ ps_tb := ps_in 291 (by decide +kernel) rfl
theorem co_Tape_hasHead : (.code y_Tape_hasHead b_Tape_hasHead 2 (some .boolean) : Cond) ∈ ps_tb := ps_in 294 (by decide +kernel) rfl
theorem im_Tape_hasHead : (.instanceMethod y_Tape_hasHead : Cond) ∈ ps_tb := ps_in 293 (by decide +kernel) rfl
theorem se_Tape_hasHead : (.selects R_Tape y_Tape_hasHead y_Tape_hasHead : Cond) ∈ ps_tb := ps_inS 5 (by decide +kernel) rfl
theorem ml_Tape_41 : (.methodLink R_Tape 41 y_Tape_readPart : Cond) ∈ ps_tb := ps_in 348 (by decide +kernel) rfl
theorem co_Tape_readPart : (.code y_Tape_readPart b_Tape_readPart 9 (some .int) : Cond) ∈ ps_tb := ps_in 351 (by decide +kernel) rfl
theorem im_Tape_readPart : (.instanceMethod y_Tape_readPart : Cond) ∈ ps_tb := ps_in 350 (by decide +kernel) rfl
theorem se_Tape_readPart : (.selects R_Tape y_Tape_readPart y_Tape_readPart : Cond) ∈ ps_tb := ps_inS 7 (by decide +kernel) rfl
theorem cd_String_charAt : y_String_charAt.cls = R_String ∧ y_String_charAt.cls ≠ "java/lang/invoke/MethodHandle" ∧ y_String_charAt.cls ≠ "java/lang/invoke/VarHandle" ∧ (parseMethodDescriptor y_String_charAt.desc).map (fun d => d.parameters.length) = some 1 := by decide +kernel
theorem cd_String_length : y_String_length.cls = R_String ∧ y_String_length.cls ≠ "java/lang/invoke/MethodHandle" ∧ y_String_length.cls ≠ "java/lang/invoke/VarHandle" ∧ (parseMethodDescriptor y_String_length.desc).map (fun d => d.parameters.length) = some 0 := by decide +kernel
theorem cd_Tape_hasHead : y_Tape_hasHead.cls = R_Tape ∧ y_Tape_hasHead.cls ≠ "java/lang/invoke/MethodHandle" ∧ y_Tape_hasHead.cls ≠ "java/lang/invoke/VarHandle" ∧ (parseMethodDescriptor y_Tape_hasHead.desc).map (fun d => d.parameters.length) = some 0 := by decide +kernel
theorem cd_Tape_readPart : y_Tape_readPart.cls = R_Tape ∧ y_Tape_readPart.cls ≠ "java/lang/invoke/MethodHandle" ∧ y_Tape_readPart.cls ≠ "java/lang/invoke/VarHandle" ∧ (parseMethodDescriptor y_Tape_readPart.desc).map (fun d => d.parameters.length) = some 2 := by decide +kernel
def rm_Tape_hasHead : Room := { frames := 4, cells := 0, slots := 0, locals := 85 }
abbrev ws_Tape_hasHead : List Cond := .code y_Tape_hasHead b_Tape_hasHead 2 (some .boolean) :: ps_tb
set_option maxHeartbeats 4000000 in
set_option maxRecDepth 100000 in
theorem c_Tape_hasHead {l : Launch} {D : va_G} {g : Nat → Nat} {cI cJ cT : ClassId} {σ : ps_σ} {aK aV : Nat} {vo : Option Nat} (n : Nat) (hn : σ.1 1 1 = nI n) (hn60 : n ≤ 60) : Met l y_Tape_hasHead ws_Tape_hasHead rm_Tape_hasHead (ps_PcS D ps_cl (ps_tys cI cJ cT) 33 g (ps_E g cI cJ cT σ) aK aV vo [.ref (g 1)]) (vp_Si (fun r => (r = 1 ∧ ps_hh (σ.2.2.1 2) n) ∨ (r = 0 ∧ ¬ ps_hh (σ.2.2.1 2) n))) 0 0 (fun _ => False) := by
  refine ps_met (by decide) ?_
  intro p e s m args below meth c hx hb hr hml hts hown hlocks hname hv Q hQ
  obtain ⟨ha, ⟨hP, hK⟩, hT0⟩ := hv
  have hT : ∀ w ∈ ps_tb, w.before args s = true := fun w h => hts w (List.mem_cons_of_mem _ h)
  have hown : s.vm.findClass R_Tape = some m.cls := hown
  refine ps_enter ha (Nat.le_of_ble_eq_true rfl) (fun ls hl => ?_)
  have hl : lv_has ls 2 [(0, .ref (g 1))] := hl
  refine lv_iconst (v := nI 0) hx hb d_Tape_hasHead_0 (by decide) ?_
  refine lv_istore_n (lv' := [(1, .int (nI 0)), (0, .ref (g 1))]) hx hb d_Tape_hasHead_1 rfl hl (by decide) rfl (fun ls hl => ?_)
  have L_a : ∀ (n_a : Nat) (k : Nat), (k ≤ 6) → (∀ j, j < k → ps_sg (σ.2.2.1 2) n j = ps_hb j) → 6 - k < n_a → ∀ (ls : Array Slot), lv_has ls 2 [(0, .ref (g 1)), (1, .int (nI k))] → W p l e rm_Tape_hasHead s m args below meth c s.heap [] 0 0 Q (F0 m 2 ls []) := by
    intro n_a
    induction n_a with
    | zero => intro k hk he hf_a; exact absurd hf_a (Nat.not_lt_zero _)
    | succ n_a ih_a =>
      intro k hk he hf_a ls hl
      refine lv_iload_n hx hb d_Tape_hasHead_2 rfl (lv_at hl 1 rfl) ?_
      refine va_ldcS hx hb hown hT0.2.2.2.2.2.2 d_Tape_hasHead_3 ?_
      refine ps_stri (aK := aK) (aV := aV) (vo := vo) (As := []) (rest := [.int (nI k)]) ⟨hx, hb, hml, hown, hT⟩ c_String_length (cwV 0 hT (ps_gV ml_Tape_35 im_String_length se_String_length in_String co_String_length) rfl rfl rfl cd_String_length ⟨Nat.le_of_ble_eq_true rfl, Nat.le_of_ble_eq_true rfl⟩) hT0 rfl hl.1 rfl (Nat.le_of_ble_eq_true rfl) d_Tape_hasHead_5 ⟨Nat.zero_le _, Nat.zero_le _⟩ (fun rr hrr => ?_)
      subst hrr
      refine lv_icmp_ge (tgt := 33) hx hb d_Tape_hasHead_8 (by decide) (fun c_8 => ?_) (fun c_8 => ?_)
      · have hk6 : k = 6 := by have := ps_leT c_8 (by omega) (by omega); omega
        refine lv_iconst (v := nI 1) hx hb d_Tape_hasHead_33 (by decide) ?_
        rw [hQ]
        exact W.zret (v := nI 1) (ty := .boolean) hx hb hr (by decide +kernel) (fun zt ht _ => ⟨_, rfl, Or.inl ⟨rfl, fun j hj => he j (by omega)⟩, ht⟩) (fun q h => absurd h List.not_mem_nil) d_Tape_hasHead_34
      · have hk6 : k < 6 := by have := ps_ltOf c_8 (by omega) (by omega); omega
        refine lv_aload_n hx hb d_Tape_hasHead_11 rfl (lv_at hl 0 rfl) ?_
        refine lv_iload_n hx hb d_Tape_hasHead_12 rfl (lv_at hl 1 rfl) ?_
        refine ps_roi (k := 1) (As := [.int (nI k)]) (rest := []) ⟨hx, hb, hml, hown, hT⟩ (c_Tape_signAt n hn hn60 (k) (by omega)) (cwV 1 hT (ps_gV ml_Tape_45 im_Tape_signAt se_Tape_signAt in_Tape co_Tape_signAt) rfl rfl rfl cd_Tape_signAt ⟨Nat.le_of_ble_eq_true rfl, Nat.le_of_ble_eq_true rfl⟩) hK hP (by omega) ps_E_1 rfl rfl hl.1 rfl (Nat.le_of_ble_eq_true rfl) d_Tape_hasHead_13 ⟨Nat.zero_le _, Nat.zero_le _⟩ (fun rr hrr => ?_)
        subst hrr
        refine va_ldcS hx hb hown hT0.2.2.2.2.2.2 d_Tape_hasHead_16 ?_
        refine lv_iload_n hx hb d_Tape_hasHead_18 rfl (lv_at hl 1 rfl) ?_
        refine ps_stri (aK := aK) (aV := aV) (vo := vo) (As := [.int (nI k)]) (rest := [.int (ps_sg (σ.2.2.1 2) n (k))]) ⟨hx, hb, hml, hown, hT⟩ (c_String_charAt k hk6) (cwV 1 hT (ps_gV ml_Tape_59 im_String_charAt se_String_charAt in_String co_String_charAt) rfl rfl rfl cd_String_charAt ⟨Nat.le_of_ble_eq_true rfl, Nat.le_of_ble_eq_true rfl⟩) hT0 rfl hl.1 rfl (Nat.le_of_ble_eq_true rfl) d_Tape_hasHead_19 ⟨Nat.zero_le _, Nat.zero_le _⟩ (fun rr hrr => ?_)
        subst hrr
        refine lv_icmp_eq (tgt := 27) hx hb d_Tape_hasHead_22 (by decide) (fun c_22 => ?_) (fun c_22 => ?_)
        · refine lv_iinc (v := (nI (k + 1))) (lv' := [(1, .int (nI (k + 1))), (0, .ref (g 1))]) hx hb d_Tape_hasHead_27 hl (k := 1) rfl (nI_1 _) (by decide) rfl (fun ls hl => ?_)
          refine lv_goto (tgt := 2) hx hb d_Tape_hasHead_30 (by decide) ?_
          exact ih_a (k + 1) (by omega) (fun j hj => by
            rcases Nat.lt_or_ge j k with z | z
            · exact he j z
            · have z2 : j = k := by omega
              rw [z2]; exact c_22) (by omega)  ls (lv_sub hl [1, 0] rfl)
        · refine lv_iconst (v := nI 0) hx hb d_Tape_hasHead_25 (by decide) ?_
          rw [hQ]
          exact W.zret (v := nI 0) (ty := .boolean) hx hb hr (by decide +kernel) (fun zt ht _ => ⟨_, rfl, Or.inr ⟨rfl, fun h => c_22 (h k hk6)⟩, ht⟩) (fun q h => absurd h List.not_mem_nil) d_Tape_hasHead_26
  exact L_a (6 - 0 + 1) 0 (by omega) (fun j hj => absurd hj (Nat.not_lt_zero j)) (by omega)  ls (lv_sub hl [1, 0] rfl)

def rm_Tape_readParts : Room := { frames := 5, cells := 0, slots := 0, locals := 106 }
abbrev ws_Tape_readParts : List Cond := .code y_Tape_readParts b_Tape_readParts 3 (some .int) :: ps_tb
set_option maxHeartbeats 4000000 in
set_option maxRecDepth 100000 in
theorem c_Tape_readParts {l : Launch} {D : va_G} {g : Nat → Nat} {cI cJ cT : ClassId} {σ : ps_σ} {aK aV : Nat} {vo : Option Nat} (hg : ps_inj 33 g) (n : Nat) (hn : σ.1 1 1 = nI n) (hn60 : n ≤ 60) : Met l y_Tape_readParts ws_Tape_readParts rm_Tape_readParts (ps_PcS D ps_cl (ps_tys cI cJ cT) 33 g (ps_E g cI cJ cT σ) aK aV vo [.ref (g 1)]) (ps_Qi (S := ps_σ) D ps_cl 33 g (fun u => ps_E g cI cJ cT u) (fun r u => ∃ fb fh : Nat → Int32, u = ps_upA (ps_upA σ 3 fb) 4 fh ∧ ((∃ L : List (Int32 × Int32), ps_hh (σ.2.2.1 2) n ∧ ps_rdF (σ.2.2.1 2) n 6 6 = some L ∧ r = nI L.length ∧ ∀ i, (hi : i < L.length) → fb i = L[i].1 ∧ fh i = L[i].2) ∨ ((ps_hh (σ.2.2.1 2) n → ps_rdF (σ.2.2.1 2) n 6 6 = none) ∧ r = nI 0)))) 0 0 (ps_wA 33 g) := by
  refine ps_met (by decide) ?_
  intro p e s m args below meth c hx hb hr hml hts hown hlocks hname hv Q hQ
  obtain ⟨ha, ⟨hP, hK⟩, hT0⟩ := hv
  have hT : ∀ w ∈ ps_tb, w.before args s = true := fun w h => hts w (List.mem_cons_of_mem _ h)
  have hown : s.vm.findClass R_Tape = some m.cls := hown
  have hS : va_S (ps_wA 33 g) s.heap s.heap [] := va_S.rf
  refine ps_enter ha (Nat.le_of_ble_eq_true rfl) (fun ls hl => ?_)
  have hl : lv_has ls 3 [(0, .ref (g 1))] := hl
  refine lv_aload_n hx hb d_Tape_readParts_0 rfl (lv_at hl 0 rfl) ?_
  refine ps_roiS (k := 1) (As := []) (rest := []) ⟨hx, hb, hml, hown, hT⟩ (c_Tape_hasHead n hn hn60) (cwV 0 hT (ps_gV ml_Tape_29 im_Tape_hasHead se_Tape_hasHead in_Tape co_Tape_hasHead) rfl rfl rfl cd_Tape_hasHead ⟨Nat.le_of_ble_eq_true rfl, Nat.le_of_ble_eq_true rfl⟩) hT0 hK hP (by omega) ps_E_1 rfl rfl hl.1 rfl (Nat.le_of_ble_eq_true rfl) d_Tape_readParts_1 ⟨Nat.zero_le _, Nat.zero_le _⟩ (fun rr hz => ?_)
  refine lv_if_ne (tgt := 9) hx hb d_Tape_readParts_4 (by decide) (fun c_4 => ?_) (fun c_4 => ?_)
  · have hhd : ps_hh (σ.2.2.1 2) n := hz.elim (fun z => z.2) (fun z => absurd z.1 c_4)
    refine va_ldcS hx hb hown hT0.2.2.2.2.2.2 d_Tape_readParts_9 ?_
    refine ps_stri (aK := aK) (aV := aV) (vo := vo) (As := []) (rest := []) ⟨hx, hb, hml, hown, hT⟩ c_String_length (cwV 0 hT (ps_gV ml_Tape_35 im_String_length se_String_length in_String co_String_length) rfl rfl rfl cd_String_length ⟨Nat.le_of_ble_eq_true rfl, Nat.le_of_ble_eq_true rfl⟩) hT0 rfl hl.1 rfl (Nat.le_of_ble_eq_true rfl) d_Tape_readParts_11 ⟨Nat.zero_le _, Nat.zero_le _⟩ (fun rr hrr => ?_)
    subst hrr
    refine lv_istore_n (lv' := [(1, .int (nI 6)), (0, .ref (g 1))]) hx hb d_Tape_readParts_14 rfl hl (by decide) rfl (fun ls hl => ?_)
    refine lv_iconst (v := nI 0) hx hb d_Tape_readParts_15 (by decide) ?_
    refine lv_istore_n (lv' := [(2, .int (nI 0)), (1, .int (nI 6)), (0, .ref (g 1))]) hx hb d_Tape_readParts_16 rfl hl (by decide) rfl (fun ls hl => ?_)
    have L_a : ∀ (n_a : Nat) (k a : Nat) (P : List (Int32 × Int32)) (fb fh : Nat → Int32), (k ≤ 6) → (a ≤ 60) → (ps_rdF (σ.2.2.1 2) n 6 6 = (ps_rdF (σ.2.2.1 2) n (6 - k) a).map (fun L => P ++ L)) → (P.length = k) → (∀ i, (hi : i < P.length) → fb i = P[i].1 ∧ fh i = P[i].2) → 6 - k < n_a → ∀ (H : Heap) (locs : List Loc), va_P D ps_cl (ps_wl 33 g (ps_E g cI cJ cT (ps_upA (ps_upA σ 3 fb) 4 fh))) H → va_S (ps_wA 33 g) s.heap H locs → ∀ (ls : Array Slot), lv_has ls 3 [(0, .ref (g 1)), (1, .int (nI a)), (2, .int (nI k))] → W p l e rm_Tape_readParts s m args below meth c H locs 0 0 Q (F0 m 17 ls []) := by
      intro n_a
      induction n_a with
      | zero => intro k a P fb fh hk ha6 hrd hpl hpt hf_a; exact absurd hf_a (Nat.not_lt_zero _)
      | succ n_a ih_a =>
        intro k a P fb fh hk ha6 hrd hpl hpt hf_a H locs hP hS ls hl
        refine lv_iload_n hx hb d_Tape_readParts_17 rfl (lv_at hl 2 rfl) ?_
        refine lv_bipush (v := nI 6) hx hb d_Tape_readParts_18 (by decide) ?_
        refine lv_icmp_ge (tgt := 70) hx hb d_Tape_readParts_20 (by decide) (fun c_20 => ?_) (fun c_20 => ?_)
        · have hk6 : k = 6 := by have := ps_leT c_20 (by omega) (by omega); omega
          refine lv_iconst (v := nI 0) hx hb d_Tape_readParts_70 (by decide) ?_
          rw [hQ]
          exact W.iret (v := nI 0) hx hb hr (fun zt ht _ => ⟨⟨_, _, rfl, ⟨_, _, rfl, Or.inr ⟨fun _ => by rw [hrd, hk6]; rfl, rfl⟩⟩, ps_hp ht hP⟩, hS.F ht⟩) hS.2.2 d_Tape_readParts_71
        · have hk6 : k < 6 := by have := ps_ltOf c_20 (by omega) (by omega); omega
          refine lv_aload_n hx hb d_Tape_readParts_23 rfl (lv_at hl 0 rfl) ?_
          refine lv_iload_n hx hb d_Tape_readParts_24 rfl (lv_at hl 2 rfl) ?_
          refine lv_iload_n hx hb d_Tape_readParts_25 rfl (lv_at hl 1 rfl) ?_
          refine ps_wri (k := 1) (As := [.int (nI k), .int (nI a)]) (rest := []) ⟨hx, hb, hml, hown, hT⟩ (c_Tape_readPart (σ := ps_upA (ps_upA σ 3 fb) 4 fh) hg n hn hn60 k hk6 a (by omega)) (cwV 2 hT (ps_gV ml_Tape_41 im_Tape_readPart se_Tape_readPart in_Tape co_Tape_readPart) rfl rfl rfl cd_Tape_readPart ⟨Nat.le_of_ble_eq_true rfl, Nat.le_of_ble_eq_true rfl⟩) hK hP hS (fun _ h => h) (by omega) rfl rfl rfl hl.1 rfl (Nat.le_of_ble_eq_true rfl) d_Tape_readParts_26 ⟨Nat.zero_le _, Nat.zero_le _⟩ (fun rr u H locs hz hP hS _ => ?_)
          have hz0 : (∃ E lo hi, ps_rp (σ.2.2.1 2) n a = some (E, lo, hi) ∧ rr = nI E ∧ u = ps_upA (ps_upA (ps_upA (ps_upA σ 3 fb) 4 fh) 3 (va_up fb k lo)) 4 (va_up fh k hi)) ∨ (ps_rp (σ.2.2.1 2) n a = none ∧ rr = -1 ∧ u = ps_upA (ps_upA σ 3 fb) 4 fh) := hz
          clear hz
          rcases hz0 with ⟨E, lo, hi, hz, rfl, rfl⟩ | ⟨hz, rfl, rfl⟩
          · rw [ps_A43, ps_AA, ps_AA] at hP
            have hE60 : E < 2 ^ 30 := ps_rp_lt ha6 hz
            refine lv_istore_n (lv' := [(1, .int (nI E)), (0, .ref (g 1)), (2, .int (nI k))]) hx hb d_Tape_readParts_29 rfl hl (by decide) rfl (fun ls hl => ?_)
            refine lv_iload_n hx hb d_Tape_readParts_30 rfl (lv_at hl 0 rfl) ?_
            refine lv_iconst (v := -1) hx hb d_Tape_readParts_31 (by decide) ?_
            refine lv_icmp_ne (tgt := 37) hx hb d_Tape_readParts_32 (by decide) (fun c_32 => ?_) (fun c_32 => ?_)
            · refine lv_iload_n hx hb d_Tape_readParts_37 rfl (lv_at hl 0 rfl) ?_
              refine lv_aload_n hx hb d_Tape_readParts_38 rfl (lv_at hl 1 rfl) ?_
              refine ps_get (v := .int (σ.1 1 1)) hx hb hT i_Tape hown hK hP (k := 1) (by omega) rfl rfl 1 (by decide) (hT _ fl_Tape_15) (fun _ h9 => h9) rfl d_Tape_readParts_39 ?_
              refine ps_seti (y := nI n) hn ?_
              refine lv_icmp_ne (tgt := 49) hx hb d_Tape_readParts_42 (by decide) (fun c_42 => ?_) (fun c_42 => ?_)
              · have c_42n : ¬ E = n := fun h => c_42 (by rw [h])
                refine lv_aload_n hx hb d_Tape_readParts_49 rfl (lv_at hl 1 rfl) ?_
                refine lv_iload_n hx hb d_Tape_readParts_50 rfl (lv_at hl 0 rfl) ?_
                refine ps_roi (k := 1) (As := [.int (nI E)]) (rest := []) ⟨hx, hb, hml, hown, hT⟩ (c_Tape_signAt (σ := (ps_upA (ps_upA σ 3 (va_up fb k lo)) 4 (va_up fh k hi))) n hn hn60 (E) (by omega)) (cwV 1 hT (ps_gV ml_Tape_45 im_Tape_signAt se_Tape_signAt in_Tape co_Tape_signAt) rfl rfl rfl cd_Tape_signAt ⟨Nat.le_of_ble_eq_true rfl, Nat.le_of_ble_eq_true rfl⟩) hK hP (by omega) rfl rfl rfl hl.1 rfl (Nat.le_of_ble_eq_true rfl) d_Tape_readParts_51 ⟨Nat.zero_le _, Nat.zero_le _⟩ (fun rr hrr => ?_)
                subst hrr
                refine lv_bipush (v := nI 44) hx hb d_Tape_readParts_54 (by decide) ?_
                refine lv_icmp_eq (tgt := 61) hx hb d_Tape_readParts_56 (by decide) (fun c_56 => ?_) (fun c_56 => ?_)
                · refine lv_iinc (v := (nI (E + 1))) (lv' := [(1, .int (nI (E + 1))), (0, .ref (g 1)), (2, .int (nI k))]) hx hb d_Tape_readParts_61 hl (k := 0) rfl (nI_1 _) (by decide) rfl (fun ls hl => ?_)
                  refine lv_iinc (v := (nI (k + 1))) (lv' := [(2, .int (nI (k + 1))), (1, .int (nI (E + 1))), (0, .ref (g 1))]) hx hb d_Tape_readParts_64 hl (k := 2) rfl (nI_1 _) (by decide) rfl (fun ls hl => ?_)
                  refine lv_goto (tgt := 17) hx hb d_Tape_readParts_67 (by decide) ?_
                  exact ih_a (k + 1) (E + 1) (P ++ [(lo, hi)]) (va_up fb k lo) (va_up fh k hi) (by omega) (by have := ps_sg_lt c_56 (by decide); omega) (by rw [hrd, ps_rdF_more (by omega) hz c_42n c_56, show 6 - k - 1 = 6 - (k + 1) by omega]; simp [Option.map_map, Function.comp_def]) (by simp [hpl]) (ps_pt_add hpl hpt) (by omega) _ _ hP hS ls (lv_sub hl [2, 1, 0] rfl)
                · refine lv_iconst (v := nI 0) hx hb d_Tape_readParts_59 (by decide) ?_
                  rw [hQ]
                  exact W.iret (v := nI 0) hx hb hr (fun zt ht _ => ⟨⟨_, _, rfl, ⟨_, _, rfl, Or.inr ⟨fun _ => by rw [hrd, ps_rdF_stop hz c_42n c_56]; rfl, rfl⟩⟩, ps_hp ht hP⟩, hS.F ht⟩) hS.2.2 d_Tape_readParts_60
              · have c_42e : E = n := (nI_eq (by omega) (by omega)).mp c_42
                subst c_42e
                refine lv_iload_n hx hb d_Tape_readParts_45 rfl (lv_at hl 2 rfl) ?_
                refine lv_iconst (v := nI 1) hx hb d_Tape_readParts_46 (by decide) ?_
                refine lv_iadd hx hb d_Tape_readParts_47 ?_
                refine ps_seti (y := nI (k + 1)) (nI_1 k) ?_
                rw [hQ]
                exact W.iret (v := nI (k + 1)) hx hb hr (fun zt ht _ => ⟨⟨_, _, rfl, ⟨_, _, rfl, Or.inl ⟨P ++ [(lo, hi)], hhd, by rw [hrd, ps_rdF_last (by omega) hz]; rfl, by simp [hpl], ps_pt_add hpl hpt⟩⟩, ps_hp ht hP⟩, hS.F ht⟩) hS.2.2 d_Tape_readParts_48
            · exact absurd c_32 (ps_nI_m1 (by omega))
          · refine lv_istore_n (lv' := [(1, .int (-1)), (0, .ref (g 1)), (2, .int (nI k))]) hx hb d_Tape_readParts_29 rfl hl (by decide) rfl (fun ls hl => ?_)
            refine lv_iload_n hx hb d_Tape_readParts_30 rfl (lv_at hl 0 rfl) ?_
            refine lv_iconst (v := -1) hx hb d_Tape_readParts_31 (by decide) ?_
            refine lv_icmp_ne (tgt := 37) hx hb d_Tape_readParts_32 (by decide) (fun c_32 => ?_) (fun c_32 => ?_)
            · exact absurd rfl c_32
            · refine lv_iconst (v := nI 0) hx hb d_Tape_readParts_35 (by decide) ?_
              rw [hQ]
              exact W.iret (v := nI 0) hx hb hr (fun zt ht _ => ⟨⟨_, _, rfl, ⟨_, _, rfl, Or.inr ⟨fun _ => by rw [hrd, ps_rdF_none hz]; rfl, rfl⟩⟩, ps_hp ht hP⟩, hS.F ht⟩) hS.2.2 d_Tape_readParts_36
    exact L_a (6 - 0 + 1) 0 6 ([]) (σ.2.2.1 3) (σ.2.2.1 4) (by omega) (by omega) (by simp) rfl (fun i hi => absurd hi (Nat.not_lt_zero i)) (by omega) _ _ (by rw [ps_upA_self, ps_upA_self]; exact hP) hS ls (lv_sub hl [2, 1, 0] rfl)
  · have hhd : ¬ ps_hh (σ.2.2.1 2) n := hz.elim (fun z => absurd (z.1.symm.trans c_4) (by decide)) (fun z => z.2)
    refine lv_iconst (v := nI 0) hx hb d_Tape_readParts_7 (by decide) ?_
    rw [hQ]
    exact W.iret (v := nI 0) hx hb hr (fun zt ht _ => ⟨⟨_, σ, rfl, ⟨_, _, by rw [ps_upA_self, ps_upA_self], Or.inr ⟨fun h => absurd h hhd, rfl⟩⟩, ps_hp ht hP⟩, hS.F ht⟩) hS.2.2 d_Tape_readParts_8
