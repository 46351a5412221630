theorem fl_Shelf_10 : (.fieldLink R_Shelf 10 R_Shelf "tape" "LPieceShelf$Tape;" : Cond) ∈ ps_tb := ps_in 131 (by decide +kernel) rfl
theorem ml_Shelf_41 : (.methodLink R_Shelf 41 y_Tape_append : Cond) ∈ ps_tb := ps_in 154 (by decide +kernel) rfl
theorem co_Tape_append : (.code y_Tape_append b_Tape_append 6 (some .boolean) : Cond) ∈ ps_tb := ps_in 157 (by decide +kernel) rfl
theorem im_Tape_append : (.instanceMethod y_Tape_append : Cond) ∈ ps_tb := ps_in 155 (by decide +kernel) rfl
theorem se_Tape_append : (.selects R_Tape y_Tape_append y_Tape_append : Cond) ∈ ps_tb := ps_in 156 (by decide +kernel) rfl
theorem fl_Shelf_26 : (.fieldLink R_Shelf 26 R_Shelf "reply" "LPieceShelf$Reply;" : Cond) ∈ ps_tb := ps_in 133 (by decide +kernel) rfl
theorem ml_Shelf_106 : (.methodLink R_Shelf 106 y_Reply_number : Cond) ∈ ps_tb := ps_in 250 (by decide +kernel) rfl
theorem co_Reply_number : (.code y_Reply_number b_Reply_number 2 (some .int) : Cond) ∈ ps_tb := ps_in 253 (by decide +kernel) rfl
theorem im_Reply_number : (.instanceMethod y_Reply_number : Cond) ∈ ps_tb := ps_in 251 (by decide +kernel) rfl
theorem se_Reply_number : (.selects R_Reply y_Reply_number y_Reply_number : Cond) ∈ ps_tb := ps_in 252 (by decide +kernel) rfl
theorem ml_Shelf_45 : (.methodLink R_Shelf 45 y_Shelf_find : Cond) ∈ ps_tb := ps_in 166 (by decide +kernel) rfl
theorem co_Shelf_find : (.code y_Shelf_find b_Shelf_find 2 (some (.object "PieceShelf$Thing")) : Cond) ∈ ps_tb := ps_in 169 (by decide +kernel) rfl
theorem im_Shelf_find : (.instanceMethod y_Shelf_find : Cond) ∈ ps_tb := ps_in 168 (by decide +kernel) rfl
theorem se_Shelf_find : (.selects R_Shelf y_Shelf_find y_Shelf_find : Cond) ∈ ps_tb := ps_inS 0 (by decide +kernel) rfl
theorem ml_Shelf_49 : (.methodLink R_Shelf 49 y_Thing_describe : Cond) ∈ ps_tb := ps_in 170 (by decide +kernel) rfl
theorem co_Thing_describe : (.code y_Thing_describe b_Thing_describe 3 none : Cond) ∈ ps_tb := ps_in 173 (by decide +kernel) rfl
theorem in_Thing : (.initialized R_Thing : Cond) ∈ ps_tb := ps_in 3 (by decide +kernel) rfl
theorem im_Thing_describe : (.instanceMethod y_Thing_describe : Cond) ∈ ps_tb := ps_in 171 (by decide +kernel) rfl
theorem se_Thing_describe : (.selects R_Thing y_Thing_describe y_Thing_describe : Cond) ∈ ps_tb := ps_in 172 (by decide +kernel) rfl
theorem ml_Shelf_53 : (.methodLink R_Shelf 53 y_Thing_lose : Cond) ∈ ps_tb := ps_in 182 (by decide +kernel) rfl
theorem co_Thing_lose : (.code y_Thing_lose b_Thing_lose 1 none : Cond) ∈ ps_tb := ps_in 185 (by decide +kernel) rfl
theorem im_Thing_lose : (.instanceMethod y_Thing_lose : Cond) ∈ ps_tb := ps_in 183 (by decide +kernel) rfl
theorem se_Thing_lose : (.selects R_Thing y_Thing_lose y_Thing_lose : Cond) ∈ ps_tb := ps_in 184 (by decide +kernel) rfl
theorem fl_Shelf_84 : (.fieldLink R_Shelf 84 R_Thing "length" "I" : Cond) ∈ ps_tb := ps_in 67 (by decide +kernel) rfl
theorem ml_Shelf_142 : (.methodLink R_Shelf 142 y_Places_spans : Cond) ∈ ps_tb := ps_in 262 (by decide +kernel) rfl
theorem co_Places_spans : (.code y_Places_spans b_Places_spans 3 (some .int) : Cond) ∈ ps_tb := ps_in 265 (by decide +kernel) rfl
theorem im_Places_spans : (.instanceMethod y_Places_spans : Cond) ∈ ps_tb := ps_in 263 (by decide +kernel) rfl
theorem se_Places_spans : (.selects R_Places y_Places_spans y_Places_spans : Cond) ∈ ps_tb := ps_in 264 (by decide +kernel) rfl
theorem ml_Shelf_145 : (.methodLink R_Shelf 145 y_Thing_firstMissing : Cond) ∈ ps_tb := ps_in 266 (by decide +kernel) rfl
theorem co_Thing_firstMissing : (.code y_Thing_firstMissing b_Thing_firstMissing 2 (some .int) : Cond) ∈ ps_tb := ps_in 269 (by decide +kernel) rfl
theorem im_Thing_firstMissing : (.instanceMethod y_Thing_firstMissing : Cond) ∈ ps_tb := ps_in 267 (by decide +kernel) rfl
theorem se_Thing_firstMissing : (.selects R_Thing y_Thing_firstMissing y_Thing_firstMissing : Cond) ∈ ps_tb := ps_in 268 (by decide +kernel) rfl
theorem ml_Shelf_148 : (.methodLink R_Shelf 148 y_Places_has : Cond) ∈ ps_tb := ps_in 275 (by decide +kernel) rfl
theorem co_Places_has : (.code y_Places_has b_Places_has 2 (some .boolean) : Cond) ∈ ps_tb := ps_in 278 (by decide +kernel) rfl
theorem im_Places_has : (.instanceMethod y_Places_has : Cond) ∈ ps_tb := ps_in 276 (by decide +kernel) rfl
theorem se_Places_has : (.selects R_Places y_Places_has y_Places_has : Cond) ∈ ps_tb := ps_in 277 (by decide +kernel) rfl
theorem cd_Places_has : y_Places_has.cls = R_Places ∧ y_Places_has.cls ≠ "java/lang/invoke/MethodHandle" ∧ y_Places_has.cls ≠ "java/lang/invoke/VarHandle" ∧ (parseMethodDescriptor y_Places_has.desc).map (fun d => d.parameters.length) = some 1 := by decide +kernel
theorem cd_Places_spans : y_Places_spans.cls = R_Places ∧ y_Places_spans.cls ≠ "java/lang/invoke/MethodHandle" ∧ y_Places_spans.cls ≠ "java/lang/invoke/VarHandle" ∧ (parseMethodDescriptor y_Places_spans.desc).map (fun d => d.parameters.length) = some 0 := by decide +kernel
theorem cd_Reply_number : y_Reply_number.cls = R_Reply ∧ y_Reply_number.cls ≠ "java/lang/invoke/MethodHandle" ∧ y_Reply_number.cls ≠ "java/lang/invoke/VarHandle" ∧ (parseMethodDescriptor y_Reply_number.desc).map (fun d => d.parameters.length) = some 1 := by decide +kernel
theorem cd_Shelf_find : y_Shelf_find.cls = R_Shelf ∧ y_Shelf_find.cls ≠ "java/lang/invoke/MethodHandle" ∧ y_Shelf_find.cls ≠ "java/lang/invoke/VarHandle" ∧ (parseMethodDescriptor y_Shelf_find.desc).map (fun d => d.parameters.length) = some 1 := by decide +kernel
theorem cd_Tape_append : y_Tape_append.cls = R_Tape ∧ y_Tape_append.cls ≠ "java/lang/invoke/MethodHandle" ∧ y_Tape_append.cls ≠ "java/lang/invoke/VarHandle" ∧ (parseMethodDescriptor y_Tape_append.desc).map (fun d => d.parameters.length) = some 2 := by decide +kernel
theorem cd_Thing_describe : y_Thing_describe.cls = R_Thing ∧ y_Thing_describe.cls ≠ "java/lang/invoke/MethodHandle" ∧ y_Thing_describe.cls ≠ "java/lang/invoke/VarHandle" ∧ (parseMethodDescriptor y_Thing_describe.desc).map (fun d => d.parameters.length) = some 2 := by decide +kernel
theorem cd_Thing_firstMissing : y_Thing_firstMissing.cls = R_Thing ∧ y_Thing_firstMissing.cls ≠ "java/lang/invoke/MethodHandle" ∧ y_Thing_firstMissing.cls ≠ "java/lang/invoke/VarHandle" ∧ (parseMethodDescriptor y_Thing_firstMissing.desc).map (fun d => d.parameters.length) = some 0 := by decide +kernel
theorem cd_Thing_lose : y_Thing_lose.cls = R_Thing ∧ y_Thing_lose.cls ≠ "java/lang/invoke/MethodHandle" ∧ y_Thing_lose.cls ≠ "java/lang/invoke/VarHandle" ∧ (parseMethodDescriptor y_Thing_lose.desc).map (fun d => d.parameters.length) = some 0 := by decide +kernel
def rm_Shelf_type : Room := { frames := 2, cells := 0, slots := 0, locals := 47 }
abbrev ws_Shelf_type : List Cond := .code y_Shelf_type b_Shelf_type 4 (some .boolean) :: ps_tb
set_option maxHeartbeats 4000000 in
set_option maxRecDepth 100000 in
theorem c_Shelf_type {l : Launch} {D : va_G} {g : Nat → Nat} {cI cJ cT : ClassId} {σ : ps_σ} (hg : ps_inj 33 g) (t : Nat) (hn : σ.1 1 1 = nI t) (hn60 : t ≤ 60) (x : Int64) (nx : Int32) : Met l y_Shelf_type ws_Shelf_type rm_Shelf_type (ps_Pc D ps_cl (ps_tys cI cJ cT) 33 g (ps_E g cI cJ cT σ) [.ref (g 0), .long x, .int nx]) (ps_Qi (S := ps_σ) D ps_cl 33 g (fun u => ps_E g cI cJ cT u) (fun r u => (∃ nn : Nat, nx = nI nn ∧ 1 ≤ nn ∧ ps_tyOK x nx t ∧ t + nn ≤ 60 ∧ r = 1 ∧ ∃ f : Nat → Int32, u = ps_upI (ps_upA σ 2 f) 1 1 (nI (t + nn)) ∧ (∀ i, i < t → f i = σ.2.2.1 2 i) ∧ ∀ i, i < nn → f (t + i) = nI (ps_by x (nn - 1 - i))) ∨ (¬ ps_tyOK x nx t ∧ r = 0 ∧ u = σ))) 0 0 (ps_wA 33 g) := by
  refine ps_met (by decide) ?_
  intro p e s m args below meth c hx hb hr hml hts hown hlocks hname hv Q hQ
  obtain ⟨ha, hP, hK⟩ := hv
  have hT : ∀ w ∈ ps_tb, w.before args s = true := fun w h => hts w (List.mem_cons_of_mem _ h)
  have hown : s.vm.findClass R_Shelf = some m.cls := hown
  have hS : va_S (ps_wA 33 g) s.heap s.heap [] := va_S.rf
  refine ps_enter ha (Nat.le_of_ble_eq_true rfl) (fun ls hl => ?_)
  have hl : lv_has ls 4 [(0, .ref (g 0)), (1, .long x), (3, .int nx)] := hl
  refine lv_aload_n hx hb d_Shelf_type_0 rfl (lv_at hl 0 rfl) ?_
  refine ps_get (v := .ref (g 1)) hx hb hT i_Shelf hown hK hP (k := 0) (by omega) ps_E_0 rfl 0 (by decide) (hT _ fl_Shelf_10) (fun _ h9 => h9) rfl d_Shelf_type_1 ?_
  refine lv_lload_n hx hb d_Shelf_type_4 rfl (lv_at hl 1 rfl) ?_
  refine lv_iload_n hx hb d_Shelf_type_5 rfl (lv_at hl 2 rfl) ?_
  refine ps_wri (k := 1) (As := [.long x, .int nx]) (rest := []) ⟨hx, hb, hml, hown, hT⟩ (c_Tape_append hg t hn hn60 x nx) (cwV 2 hT (ps_gV ml_Shelf_41 im_Tape_append se_Tape_append in_Tape co_Tape_append) rfl rfl rfl cd_Tape_append ⟨Nat.le_of_ble_eq_true rfl, Nat.le_of_ble_eq_true rfl⟩) hK hP hS (fun _ h => h) (by omega) ps_E_1 rfl rfl hl.1 rfl (Nat.le_of_ble_eq_true rfl) d_Shelf_type_6 ⟨Nat.zero_le _, Nat.zero_le _⟩ (fun rr u1 H locs hz hP hS _ => ?_)
  have hz2 := hz
  rcases hz with ⟨nn, e1, e2, e3, e4, rfl, e5⟩ | ⟨e1, rfl, e2⟩
  · rw [hQ]
    exact W.zret (v := (1 : Int32)) (ty := .boolean) hx hb hr (by decide +kernel) (fun zt ht _ => ⟨⟨_, u1, rfl, hz2, ps_hp ht hP⟩, hS.F ht⟩) hS.2.2 d_Shelf_type_9
  · rw [hQ]
    exact W.zret (v := (0 : Int32)) (ty := .boolean) hx hb hr (by decide +kernel) (fun zt ht _ => ⟨⟨_, u1, rfl, hz2, ps_hp ht hP⟩, hS.F ht⟩) hS.2.2 d_Shelf_type_9

def rm_Shelf_told : Room := { frames := 1, cells := 0, slots := 0, locals := 21 }
abbrev ws_Shelf_told : List Cond := .code y_Shelf_told b_Shelf_told 2 (some .int) :: ps_tb
set_option maxHeartbeats 4000000 in
set_option maxRecDepth 100000 in
theorem c_Shelf_told {l : Launch} {D : va_G} {g : Nat → Nat} {cI cJ cT : ClassId} {σ : ps_σ} (x : Int32) : Met l y_Shelf_told ws_Shelf_told rm_Shelf_told (ps_Pc D ps_cl (ps_tys cI cJ cT) 33 g (ps_E g cI cJ cT σ) [.ref (g 0), .int x]) (vp_Si (fun r => r = ps_num σ x)) 0 0 (fun _ => False) := by
  refine ps_met (by decide) ?_
  intro p e s m args below meth c hx hb hr hml hts hown hlocks hname hv Q hQ
  obtain ⟨ha, hP, hK⟩ := hv
  have hT : ∀ w ∈ ps_tb, w.before args s = true := fun w h => hts w (List.mem_cons_of_mem _ h)
  have hown : s.vm.findClass R_Shelf = some m.cls := hown
  refine ps_enter ha (Nat.le_of_ble_eq_true rfl) (fun ls hl => ?_)
  have hl : lv_has ls 2 [(0, .ref (g 0)), (1, .int x)] := hl
  refine lv_aload_n hx hb d_Shelf_told_0 rfl (lv_at hl 0 rfl) ?_
  refine ps_get (v := .ref (g 6)) hx hb hT i_Shelf hown hK hP (k := 0) (by omega) ps_E_0 rfl 2 (by decide) (hT _ fl_Shelf_26) (fun _ h9 => h9) rfl d_Shelf_told_1 ?_
  refine lv_iload_n hx hb d_Shelf_told_4 rfl (lv_at hl 1 rfl) ?_
  refine ps_roi (k := 6) (As := [.int x]) (rest := []) ⟨hx, hb, hml, hown, hT⟩ (c_Reply_number x) (cwV 1 hT (ps_gV ml_Shelf_106 im_Reply_number se_Reply_number in_Reply co_Reply_number) rfl rfl rfl cd_Reply_number ⟨Nat.le_of_ble_eq_true rfl, Nat.le_of_ble_eq_true rfl⟩) hK hP (by omega) ps_E_6 rfl rfl hl.1 rfl (Nat.le_of_ble_eq_true rfl) d_Shelf_told_5 ⟨Nat.zero_le _, Nat.zero_le _⟩ (fun rr hrr => ?_)
  rw [hQ]
  exact W.iret (v := rr) hx hb hr (fun zt ht _ => ⟨_, rfl, hrr, ht⟩) (fun q h => absurd h List.not_mem_nil) d_Shelf_told_8

def rm_Shelf_thing : Room := { frames := 2, cells := 0, slots := 0, locals := 43 }
abbrev ws_Shelf_thing : List Cond := .code y_Shelf_thing b_Shelf_thing 5 (some .boolean) :: ps_tb
set_option maxHeartbeats 4000000 in
set_option maxRecDepth 100000 in
theorem c_Shelf_thing {l : Launch} {D : va_G} {g : Nat → Nat} {cI cJ cT : ClassId} {σ : ps_σ} (hg : ps_inj 33 g) (x ln tg : Int32) : Met l y_Shelf_thing ws_Shelf_thing rm_Shelf_thing (ps_Pc D ps_cl (ps_tys cI cJ cT) 33 g (ps_E g cI cJ cT σ) [.ref (g 0), .int x, .int ln, .int tg]) (ps_Qi (S := ps_σ) D ps_cl 33 g (fun u => ps_E g cI cJ cT u) (fun r u => (∃ j : Nat, j < 6 ∧ x = nI j ∧ ¬ ln < 0 ∧ ln ≤ nI 4095 ∧ r = 1 ∧ ∃ f : Nat → Int64, u = ps_upI (ps_upI (ps_upB σ (24 + j) f) (9 + j) 1 ln) (9 + j) 2 tg ∧ (((ln = σ.1 (9 + j) 1 ∧ tg = σ.1 (9 + j) 2) ∧ f = σ.2.2.2 (24 + j)) ∨ (¬ (ln = σ.1 (9 + j) 1 ∧ tg = σ.1 (9 + j) 2) ∧ ∀ i, i < 64 → f i = 0))) ∨ (((x < 0 ∨ nI 6 ≤ x) ∨ ln < 0 ∨ ¬ ln ≤ nI 4095) ∧ r = 0 ∧ u = σ))) 0 0 (ps_wA 33 g) := by
  refine ps_met (by decide) ?_
  intro p e s m args below meth c hx hb hr hml hts hown hlocks hname hv Q hQ
  obtain ⟨ha, hP, hK⟩ := hv
  have hT : ∀ w ∈ ps_tb, w.before args s = true := fun w h => hts w (List.mem_cons_of_mem _ h)
  have hown : s.vm.findClass R_Shelf = some m.cls := hown
  have hS : va_S (ps_wA 33 g) s.heap s.heap [] := va_S.rf
  refine ps_enter ha (Nat.le_of_ble_eq_true rfl) (fun ls hl => ?_)
  have hl : lv_has ls 5 [(0, .ref (g 0)), (1, .int x), (2, .int ln), (3, .int tg)] := hl
  refine lv_aload_n hx hb d_Shelf_thing_0 rfl (lv_at hl 0 rfl) ?_
  refine lv_iload_n hx hb d_Shelf_thing_1 rfl (lv_at hl 1 rfl) ?_
  refine ps_roq (k := 0) (As := [.int x]) (rest := []) ⟨hx, hb, hml, hown, hT⟩ (c_Shelf_find (σ := σ) x) (cwV 1 hT (ps_gV ml_Shelf_45 im_Shelf_find se_Shelf_find in_Shelf co_Shelf_find) rfl rfl rfl cd_Shelf_find ⟨Nat.le_of_ble_eq_true rfl, Nat.le_of_ble_eq_true rfl⟩) hK hP (by omega) ps_E_0 rfl rfl hl.1 rfl (Nat.le_of_ble_eq_true rfl) d_Shelf_thing_2 ⟨Nat.zero_le _, Nat.zero_le _⟩ (fun rr hrr => ?_)
  rcases hrr with ⟨j, hj, rfl, rfl⟩ | ⟨hno, rfl⟩
  · refine lv_astore (lv' := [(4, .ref (g (9 + j))), (0, .ref (g 0)), (1, .int (nI j)), (2, .int ln), (3, .int tg)]) hx hb d_Shelf_thing_5 hl (by decide) rfl (fun ls hl => ?_)
    refine lv_aload hx hb d_Shelf_thing_7 (lv_at hl 0 rfl) ?_
    refine lv_ifnull hx hb d_Shelf_thing_9 ?_
    refine lv_iload_n hx hb d_Shelf_thing_12 rfl (lv_at hl 3 rfl) ?_
    refine lv_if_lt (tgt := 23) hx hb d_Shelf_thing_13 (by decide) (fun c_13 => ?_) (fun c_13 => ?_)
    · refine lv_iconst (v := nI 0) hx hb d_Shelf_thing_23 (by decide) ?_
      rw [hQ]
      exact W.zret (v := nI 0) (ty := .boolean) hx hb hr (by decide +kernel) (fun zt ht _ => ⟨⟨_, σ, rfl, Or.inr ⟨Or.inr (Or.inl c_13), rfl, rfl⟩, ps_hp ht hP⟩, hS.F ht⟩) hS.2.2 d_Shelf_thing_24
    · refine lv_iload_n hx hb d_Shelf_thing_16 rfl (lv_at hl 3 rfl) ?_
      refine lv_sipush (v := nI 4095) hx hb d_Shelf_thing_17 (by decide) ?_
      refine lv_icmp_le (tgt := 25) hx hb d_Shelf_thing_20 (by decide) (fun c_20 => ?_) (fun c_20 => ?_)
      · refine lv_aload hx hb d_Shelf_thing_25 (lv_at hl 0 rfl) ?_
        refine lv_iload_n hx hb d_Shelf_thing_27 rfl (lv_at hl 3 rfl) ?_
        refine lv_iload_n hx hb d_Shelf_thing_28 rfl (lv_at hl 4 rfl) ?_
        refine ps_wrv (k := 9 + j) (As := [.int ln, .int tg]) (rest := []) ⟨hx, hb, hml, hown, hT⟩ (c_Thing_describe (σ := σ) hg j hj ln tg) (cwV 2 hT (ps_gV ml_Shelf_49 im_Thing_describe se_Thing_describe in_Thing co_Thing_describe) rfl rfl rfl cd_Thing_describe ⟨Nat.le_of_ble_eq_true rfl, Nat.le_of_ble_eq_true rfl⟩) hK hP hS (fun _ h => h) (by omega) (ps_E_th hj) rfl rfl hl.1 rfl (Nat.le_of_ble_eq_true rfl) d_Shelf_thing_29 ⟨Nat.zero_le _, Nat.zero_le _⟩ (fun u1 H locs hz hP hS _ => ?_)
        refine lv_iconst (v := nI 1) hx hb d_Shelf_thing_32 (by decide) ?_
        rw [hQ]
        exact W.zret (v := nI 1) (ty := .boolean) hx hb hr (by decide +kernel) (fun zt ht _ => ⟨⟨_, u1, rfl, Or.inl ⟨j, hj, rfl, c_13, c_20, rfl, hz⟩, ps_hp ht hP⟩, hS.F ht⟩) hS.2.2 d_Shelf_thing_33
      · refine lv_iconst (v := nI 0) hx hb d_Shelf_thing_23 (by decide) ?_
        rw [hQ]
        exact W.zret (v := nI 0) (ty := .boolean) hx hb hr (by decide +kernel) (fun zt ht _ => ⟨⟨_, σ, rfl, Or.inr ⟨Or.inr (Or.inr c_20), rfl, rfl⟩, ps_hp ht hP⟩, hS.F ht⟩) hS.2.2 d_Shelf_thing_24
  · refine lv_astoreN (lv' := [(4, .null), (0, .ref (g 0)), (1, .int x), (2, .int ln), (3, .int tg)]) hx hb d_Shelf_thing_5 hl (by decide) rfl (fun ls hl => ?_)
    refine lv_aloadN hx hb d_Shelf_thing_7 (lv_at hl 0 rfl) ?_
    refine lv_ifnullN (tgt := 23) hx hb d_Shelf_thing_9 (by decide) ?_
    refine lv_iconst (v := nI 0) hx hb d_Shelf_thing_23 (by decide) ?_
    rw [hQ]
    exact W.zret (v := nI 0) (ty := .boolean) hx hb hr (by decide +kernel) (fun zt ht _ => ⟨⟨_, σ, rfl, Or.inr ⟨Or.inl hno, rfl, rfl⟩, ps_hp ht hP⟩, hS.F ht⟩) hS.2.2 d_Shelf_thing_24

def rm_Shelf_forget : Room := { frames := 2, cells := 0, slots := 0, locals := 41 }
abbrev ws_Shelf_forget : List Cond := .code y_Shelf_forget b_Shelf_forget 3 (some .boolean) :: ps_tb
set_option maxHeartbeats 4000000 in
set_option maxRecDepth 100000 in
theorem c_Shelf_forget {l : Launch} {D : va_G} {g : Nat → Nat} {cI cJ cT : ClassId} {σ : ps_σ} (hg : ps_inj 33 g) (x : Int32) : Met l y_Shelf_forget ws_Shelf_forget rm_Shelf_forget (ps_Pc D ps_cl (ps_tys cI cJ cT) 33 g (ps_E g cI cJ cT σ) [.ref (g 0), .int x]) (ps_Qi (S := ps_σ) D ps_cl 33 g (fun u => ps_E g cI cJ cT u) (fun r u => (∃ j : Nat, j < 6 ∧ x = nI j ∧ r = 1 ∧ ∃ f : Nat → Int64, u = ps_upB (ps_upI σ (9 + j) 1 (-1)) (24 + j) f ∧ ∀ i, i < 64 → f i = 0) ∨ ((x < 0 ∨ nI 6 ≤ x) ∧ r = 0 ∧ u = σ))) 0 0 (ps_wA 33 g) := by
  refine ps_met (by decide) ?_
  intro p e s m args below meth c hx hb hr hml hts hown hlocks hname hv Q hQ
  obtain ⟨ha, hP, hK⟩ := hv
  have hT : ∀ w ∈ ps_tb, w.before args s = true := fun w h => hts w (List.mem_cons_of_mem _ h)
  have hown : s.vm.findClass R_Shelf = some m.cls := hown
  have hS : va_S (ps_wA 33 g) s.heap s.heap [] := va_S.rf
  refine ps_enter ha (Nat.le_of_ble_eq_true rfl) (fun ls hl => ?_)
  have hl : lv_has ls 3 [(0, .ref (g 0)), (1, .int x)] := hl
  refine lv_aload_n hx hb d_Shelf_forget_0 rfl (lv_at hl 0 rfl) ?_
  refine lv_iload_n hx hb d_Shelf_forget_1 rfl (lv_at hl 1 rfl) ?_
  refine ps_roq (k := 0) (As := [.int x]) (rest := []) ⟨hx, hb, hml, hown, hT⟩ (c_Shelf_find (σ := σ) x) (cwV 1 hT (ps_gV ml_Shelf_45 im_Shelf_find se_Shelf_find in_Shelf co_Shelf_find) rfl rfl rfl cd_Shelf_find ⟨Nat.le_of_ble_eq_true rfl, Nat.le_of_ble_eq_true rfl⟩) hK hP (by omega) ps_E_0 rfl rfl hl.1 rfl (Nat.le_of_ble_eq_true rfl) d_Shelf_forget_2 ⟨Nat.zero_le _, Nat.zero_le _⟩ (fun rr hrr => ?_)
  rcases hrr with ⟨j, hj, rfl, rfl⟩ | ⟨hno, rfl⟩
  · refine lv_astore_n (lv' := [(2, .ref (g (9 + j))), (0, .ref (g 0)), (1, .int (nI j))]) hx hb d_Shelf_forget_5 rfl hl (by decide) rfl (fun ls hl => ?_)
    refine lv_aload_n hx hb d_Shelf_forget_6 rfl (lv_at hl 0 rfl) ?_
    refine lv_ifnonnull (tgt := 12) hx hb d_Shelf_forget_7 (by decide) ?_
    refine lv_aload_n hx hb d_Shelf_forget_12 rfl (lv_at hl 0 rfl) ?_
    refine ps_wrv (k := 9 + j) (As := []) (rest := []) ⟨hx, hb, hml, hown, hT⟩ (c_Thing_lose (σ := σ) hg j hj) (cwV 0 hT (ps_gV ml_Shelf_53 im_Thing_lose se_Thing_lose in_Thing co_Thing_lose) rfl rfl rfl cd_Thing_lose ⟨Nat.le_of_ble_eq_true rfl, Nat.le_of_ble_eq_true rfl⟩) hK hP hS (fun _ h => h) (by omega) (ps_E_th hj) rfl rfl hl.1 rfl (Nat.le_of_ble_eq_true rfl) d_Shelf_forget_13 ⟨Nat.zero_le _, Nat.zero_le _⟩ (fun u1 H locs hz hP hS _ => ?_)
    refine lv_iconst (v := nI 1) hx hb d_Shelf_forget_16 (by decide) ?_
    rw [hQ]
    exact W.zret (v := nI 1) (ty := .boolean) hx hb hr (by decide +kernel) (fun zt ht _ => ⟨⟨_, u1, rfl, Or.inl ⟨j, hj, rfl, rfl, hz⟩, ps_hp ht hP⟩, hS.F ht⟩) hS.2.2 d_Shelf_forget_17
  · refine lv_astore_nN (lv' := [(2, .null), (0, .ref (g 0)), (1, .int x)]) hx hb d_Shelf_forget_5 rfl hl (by decide) rfl (fun ls hl => ?_)
    refine lv_aload_nN hx hb d_Shelf_forget_6 rfl (lv_at hl 0 rfl) ?_
    refine lv_ifnonnullN hx hb d_Shelf_forget_7 ?_
    refine lv_iconst (v := nI 0) hx hb d_Shelf_forget_10 (by decide) ?_
    rw [hQ]
    exact W.zret (v := nI 0) (ty := .boolean) hx hb hr (by decide +kernel) (fun zt ht _ => ⟨⟨_, σ, rfl, Or.inr ⟨hno, rfl, rfl⟩, ps_hp ht hP⟩, hS.F ht⟩) hS.2.2 d_Shelf_forget_11

def rm_Shelf_about : Room := { frames := 4, cells := 0, slots := 0, locals := 91 }
abbrev ws_Shelf_about : List Cond := .code y_Shelf_about b_Shelf_about 4 (some .int) :: ps_tb
set_option maxHeartbeats 4000000 in
set_option maxRecDepth 100000 in
theorem c_Shelf_about {l : Launch} {D : va_G} {g : Nat → Nat} {cI cJ cT : ClassId} {σ : ps_σ} (x y : Int32) : Met l y_Shelf_about ws_Shelf_about rm_Shelf_about (ps_Pc D ps_cl (ps_tys cI cJ cT) 33 g (ps_E g cI cJ cT σ) [.ref (g 0), .int x, .int y]) (vp_Si (fun r => (∃ j : Nat, j < 6 ∧ x = nI j ∧ r = ps_abt σ j y) ∨ ((x < 0 ∨ nI 6 ≤ x) ∧ r = -1))) 0 0 (fun _ => False) := by
  refine ps_met (by decide) ?_
  intro p e s m args below meth c hx hb hr hml hts hown hlocks hname hv Q hQ
  obtain ⟨ha, hP, hK⟩ := hv
  have hT : ∀ w ∈ ps_tb, w.before args s = true := fun w h => hts w (List.mem_cons_of_mem _ h)
  have hown : s.vm.findClass R_Shelf = some m.cls := hown
  refine ps_enter ha (Nat.le_of_ble_eq_true rfl) (fun ls hl => ?_)
  have hl : lv_has ls 4 [(0, .ref (g 0)), (1, .int x), (2, .int y)] := hl
  refine lv_aload_n hx hb d_Shelf_about_0 rfl (lv_at hl 0 rfl) ?_
  refine lv_iload_n hx hb d_Shelf_about_1 rfl (lv_at hl 1 rfl) ?_
  refine ps_roq (k := 0) (As := [.int x]) (rest := []) ⟨hx, hb, hml, hown, hT⟩ (c_Shelf_find (σ := σ) x) (cwV 1 hT (ps_gV ml_Shelf_45 im_Shelf_find se_Shelf_find in_Shelf co_Shelf_find) rfl rfl rfl cd_Shelf_find ⟨Nat.le_of_ble_eq_true rfl, Nat.le_of_ble_eq_true rfl⟩) hK hP (by omega) ps_E_0 rfl rfl hl.1 rfl (Nat.le_of_ble_eq_true rfl) d_Shelf_about_2 ⟨Nat.zero_le _, Nat.zero_le _⟩ (fun rr hrr => ?_)
  rcases hrr with ⟨j, hj, rfl, rfl⟩ | ⟨hno, rfl⟩
  · refine lv_astore_n (lv' := [(3, .ref (g (9 + j))), (0, .ref (g 0)), (1, .int (nI j)), (2, .int y)]) hx hb d_Shelf_about_5 rfl hl (by decide) rfl (fun ls hl => ?_)
    refine lv_aload_n hx hb d_Shelf_about_6 rfl (lv_at hl 0 rfl) ?_
    refine lv_ifnonnull (tgt := 12) hx hb d_Shelf_about_7 (by decide) ?_
    rcases ps_sw4 y with h | rfl | rfl | rfl | rfl
    · refine lv_iload_n hx hb d_Shelf_about_12 rfl (lv_at hl 3 rfl) ?_
      refine lv_tableOut (tgt := 70) hx hb d_Shelf_about_13 h (by decide) ?_
      refine lv_iconst (v := -1) hx hb d_Shelf_about_70 (by decide) ?_
      rw [hQ]
      exact W.iret (v := -1) hx hb hr (fun zt ht _ => ⟨_, rfl, Or.inl ⟨j, hj, rfl, (ps_abt_out h).symm⟩, ht⟩) (fun q h => absurd h List.not_mem_nil) d_Shelf_about_71
    · refine lv_iload_n hx hb d_Shelf_about_12 rfl (lv_at hl 3 rfl) ?_
      refine lv_tableIn (tgt := 44) (off := 31) hx hb d_Shelf_about_13 (by decide) (by decide) (by decide) (by decide) ?_
      refine lv_aload_n hx hb d_Shelf_about_44 rfl (lv_at hl 0 rfl) ?_
      refine ps_get (v := .int (σ.1 (9 + j) 1)) hx hb hT i_Thing hown hK hP (k := 9 + j) (by omega) (ps_E_th hj) rfl 1 (by decide) (hT _ fl_Shelf_84) (fun _ h9 => h9) rfl d_Shelf_about_45 ?_
      rw [hQ]
      exact W.iret (v := σ.1 (9 + j) 1) hx hb hr (fun zt ht _ => ⟨_, rfl, Or.inl ⟨j, hj, rfl, rfl⟩, ht⟩) (fun q h => absurd h List.not_mem_nil) d_Shelf_about_48
    · refine lv_iload_n hx hb d_Shelf_about_12 rfl (lv_at hl 3 rfl) ?_
      refine lv_tableIn (tgt := 49) (off := 36) hx hb d_Shelf_about_13 (by decide) (by decide) (by decide) (by decide) ?_
      refine lv_aload_n hx hb d_Shelf_about_49 rfl (lv_at hl 0 rfl) ?_
      refine ps_get (v := .ref (g (15 + j))) hx hb hT i_Thing hown hK hP (k := 9 + j) (by omega) (ps_E_th hj) rfl 0 (by decide) (hT _ fl_Shelf_60) (fun _ h9 => h9) rfl d_Shelf_about_50 ?_
      refine ps_roi (k := 15 + j) (As := []) (rest := []) ⟨hx, hb, hml, hown, hT⟩ (c_Places_size j (by omega)) (cwV 0 hT (ps_gV ml_Shelf_139 im_Places_size se_Places_size in_Places co_Places_size) rfl rfl rfl cd_Places_size ⟨Nat.le_of_ble_eq_true rfl, Nat.le_of_ble_eq_true rfl⟩) hK hP (by omega) (ps_E_pl (by omega)) rfl rfl hl.1 rfl (Nat.le_of_ble_eq_true rfl) d_Shelf_about_53 ⟨Nat.zero_le _, Nat.zero_le _⟩ (fun rr hrr => ?_)
      rw [hQ]
      exact W.iret (v := rr) hx hb hr (fun zt ht _ => ⟨_, rfl, Or.inl ⟨j, hj, rfl, hrr⟩, ht⟩) (fun q h => absurd h List.not_mem_nil) d_Shelf_about_56
    · refine lv_iload_n hx hb d_Shelf_about_12 rfl (lv_at hl 3 rfl) ?_
      refine lv_tableIn (tgt := 57) (off := 44) hx hb d_Shelf_about_13 (by decide) (by decide) (by decide) (by decide) ?_
      refine lv_aload_n hx hb d_Shelf_about_57 rfl (lv_at hl 0 rfl) ?_
      refine ps_get (v := .ref (g (15 + j))) hx hb hT i_Thing hown hK hP (k := 9 + j) (by omega) (ps_E_th hj) rfl 0 (by decide) (hT _ fl_Shelf_60) (fun _ h9 => h9) rfl d_Shelf_about_58 ?_
      refine ps_roi (k := 15 + j) (As := []) (rest := []) ⟨hx, hb, hml, hown, hT⟩ (c_Places_spans j (by omega)) (cwV 0 hT (ps_gV ml_Shelf_142 im_Places_spans se_Places_spans in_Places co_Places_spans) rfl rfl rfl cd_Places_spans ⟨Nat.le_of_ble_eq_true rfl, Nat.le_of_ble_eq_true rfl⟩) hK hP (by omega) (ps_E_pl (by omega)) rfl rfl hl.1 rfl (Nat.le_of_ble_eq_true rfl) d_Shelf_about_61 ⟨Nat.zero_le _, Nat.zero_le _⟩ (fun rr hrr => ?_)
      rw [hQ]
      exact W.iret (v := rr) hx hb hr (fun zt ht _ => ⟨_, rfl, Or.inl ⟨j, hj, rfl, hrr⟩, ht⟩) (fun q h => absurd h List.not_mem_nil) d_Shelf_about_64
    · refine lv_iload_n hx hb d_Shelf_about_12 rfl (lv_at hl 3 rfl) ?_
      refine lv_tableIn (tgt := 65) (off := 52) hx hb d_Shelf_about_13 (by decide) (by decide) (by decide) (by decide) ?_
      refine lv_aload_n hx hb d_Shelf_about_65 rfl (lv_at hl 0 rfl) ?_
      refine ps_roi (k := 9 + j) (As := []) (rest := []) ⟨hx, hb, hml, hown, hT⟩ (c_Thing_firstMissing j hj) (cwV 0 hT (ps_gV ml_Shelf_145 im_Thing_firstMissing se_Thing_firstMissing in_Thing co_Thing_firstMissing) rfl rfl rfl cd_Thing_firstMissing ⟨Nat.le_of_ble_eq_true rfl, Nat.le_of_ble_eq_true rfl⟩) hK hP (by omega) (ps_E_th hj) rfl rfl hl.1 rfl (Nat.le_of_ble_eq_true rfl) d_Shelf_about_66 ⟨Nat.zero_le _, Nat.zero_le _⟩ (fun rr hrr => ?_)
      rw [hQ]
      exact W.iret (v := rr) hx hb hr (fun zt ht _ => ⟨_, rfl, Or.inl ⟨j, hj, rfl, hrr⟩, ht⟩) (fun q h => absurd h List.not_mem_nil) d_Shelf_about_69
  · refine lv_astore_nN (lv' := [(3, .null), (0, .ref (g 0)), (1, .int x), (2, .int y)]) hx hb d_Shelf_about_5 rfl hl (by decide) rfl (fun ls hl => ?_)
    refine lv_aload_nN hx hb d_Shelf_about_6 rfl (lv_at hl 0 rfl) ?_
    refine lv_ifnonnullN hx hb d_Shelf_about_7 ?_
    refine lv_iconst (v := -1) hx hb d_Shelf_about_10 (by decide) ?_
    rw [hQ]
    exact W.iret (v := -1) hx hb hr (fun zt ht _ => ⟨_, rfl, Or.inr ⟨hno, rfl⟩, ht⟩) (fun q h => absurd h List.not_mem_nil) d_Shelf_about_11

def rm_Shelf_held : Room := { frames := 1, cells := 0, slots := 0, locals := 21 }
abbrev ws_Shelf_held : List Cond := .code y_Shelf_held b_Shelf_held 4 (some .boolean) :: ps_tb
set_option maxHeartbeats 4000000 in
set_option maxRecDepth 100000 in
theorem c_Shelf_held {l : Launch} {D : va_G} {g : Nat → Nat} {cI cJ cT : ClassId} {σ : ps_σ} (x y : Int32) : Met l y_Shelf_held ws_Shelf_held rm_Shelf_held (ps_Pc D ps_cl (ps_tys cI cJ cT) 33 g (ps_E g cI cJ cT σ) [.ref (g 0), .int x, .int y]) (vp_Si (fun r => (∃ j q : Nat, j < 6 ∧ q < 4096 ∧ x = nI j ∧ y = nI q ∧ r = ps_bI (ps_hs (σ.2.2.2 (24 + j)) q)) ∨ (((x < 0 ∨ nI 6 ≤ x) ∨ y < 0 ∨ nI 4096 ≤ y) ∧ r = 0))) 0 0 (fun _ => False) := by
  refine ps_met (by decide) ?_
  intro p e s m args below meth c hx hb hr hml hts hown hlocks hname hv Q hQ
  obtain ⟨ha, hP, hK⟩ := hv
  have hT : ∀ w ∈ ps_tb, w.before args s = true := fun w h => hts w (List.mem_cons_of_mem _ h)
  have hown : s.vm.findClass R_Shelf = some m.cls := hown
  refine ps_enter ha (Nat.le_of_ble_eq_true rfl) (fun ls hl => ?_)
  have hl : lv_has ls 4 [(0, .ref (g 0)), (1, .int x), (2, .int y)] := hl
  refine lv_aload_n hx hb d_Shelf_held_0 rfl (lv_at hl 0 rfl) ?_
  refine lv_iload_n hx hb d_Shelf_held_1 rfl (lv_at hl 1 rfl) ?_
  refine ps_roq (k := 0) (As := [.int x]) (rest := []) ⟨hx, hb, hml, hown, hT⟩ (c_Shelf_find (σ := σ) x) (cwV 1 hT (ps_gV ml_Shelf_45 im_Shelf_find se_Shelf_find in_Shelf co_Shelf_find) rfl rfl rfl cd_Shelf_find ⟨Nat.le_of_ble_eq_true rfl, Nat.le_of_ble_eq_true rfl⟩) hK hP (by omega) ps_E_0 rfl rfl hl.1 rfl (Nat.le_of_ble_eq_true rfl) d_Shelf_held_2 ⟨Nat.zero_le _, Nat.zero_le _⟩ (fun rr hrr => ?_)
  rcases hrr with ⟨j, hj, rfl, rfl⟩ | ⟨hno, rfl⟩
  · refine lv_astore_n (lv' := [(3, .ref (g (9 + j))), (0, .ref (g 0)), (1, .int (nI j)), (2, .int y)]) hx hb d_Shelf_held_5 rfl hl (by decide) rfl (fun ls hl => ?_)
    refine lv_aload_n hx hb d_Shelf_held_6 rfl (lv_at hl 0 rfl) ?_
    refine lv_ifnull hx hb d_Shelf_held_7 ?_
    refine lv_aload_n hx hb d_Shelf_held_10 rfl (lv_at hl 0 rfl) ?_
    refine ps_get (v := .ref (g (15 + j))) hx hb hT i_Thing hown hK hP (k := 9 + j) (by omega) (ps_E_th hj) rfl 0 (by decide) (hT _ fl_Shelf_60) (fun _ h9 => h9) rfl d_Shelf_held_11 ?_
    refine lv_iload_n hx hb d_Shelf_held_14 rfl (lv_at hl 3 rfl) ?_
    refine ps_roi (k := 15 + j) (As := [.int y]) (rest := []) ⟨hx, hb, hml, hown, hT⟩ (c_Places_has j (by omega) y) (cwV 1 hT (ps_gV ml_Shelf_148 im_Places_has se_Places_has in_Places co_Places_has) rfl rfl rfl cd_Places_has ⟨Nat.le_of_ble_eq_true rfl, Nat.le_of_ble_eq_true rfl⟩) hK hP (by omega) (ps_E_pl (by omega)) rfl rfl hl.1 rfl (Nat.le_of_ble_eq_true rfl) d_Shelf_held_15 ⟨Nat.zero_le _, Nat.zero_le _⟩ (fun rr hrr => ?_)
    refine lv_if_eq (tgt := 25) hx hb d_Shelf_held_18 (by decide) (fun c_18 => ?_) (fun c_18 => ?_)
    · refine lv_iconst (v := nI 0) hx hb d_Shelf_held_25 (by decide) ?_
      rw [hQ]
      exact W.zret (v := nI 0) (ty := .boolean) hx hb hr (by decide +kernel) (fun zt ht _ => ⟨_, rfl, ps_held0 hj hrr c_18, ht⟩) (fun q h => absurd h List.not_mem_nil) d_Shelf_held_26
    · refine lv_iconst (v := nI 1) hx hb d_Shelf_held_21 (by decide) ?_
      refine lv_goto (tgt := 26) hx hb d_Shelf_held_22 (by decide) ?_
      rw [hQ]
      exact W.zret (v := nI 1) (ty := .boolean) hx hb hr (by decide +kernel) (fun zt ht _ => ⟨_, rfl, ps_held1 hj hrr c_18, ht⟩) (fun q h => absurd h List.not_mem_nil) d_Shelf_held_26
  · refine lv_astore_nN (lv' := [(3, .null), (0, .ref (g 0)), (1, .int x), (2, .int y)]) hx hb d_Shelf_held_5 rfl hl (by decide) rfl (fun ls hl => ?_)
    refine lv_aload_nN hx hb d_Shelf_held_6 rfl (lv_at hl 0 rfl) ?_
    refine lv_ifnullN (tgt := 25) hx hb d_Shelf_held_7 (by decide) ?_
    refine lv_iconst (v := nI 0) hx hb d_Shelf_held_25 (by decide) ?_
    rw [hQ]
    exact W.zret (v := nI 0) (ty := .boolean) hx hb hr (by decide +kernel) (fun zt ht _ => ⟨_, rfl, Or.inr ⟨Or.inl hno, rfl⟩, ht⟩) (fun q h => absurd h List.not_mem_nil) d_Shelf_held_26
