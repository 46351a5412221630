theorem ml_Shelf_56 : (.methodLink R_Shelf 56 y_Thing_accepts : Cond) ∈ ps_tb := ps_in 190 (by decide +kernel) rfl
theorem co_Thing_accepts : (.code y_Thing_accepts b_Thing_accepts 4 (some .boolean) : Cond) ∈ ps_tb := ps_in 193 (by decide +kernel) rfl
theorem im_Thing_accepts : (.instanceMethod y_Thing_accepts : Cond) ∈ ps_tb := ps_in 191 (by decide +kernel) rfl
theorem se_Thing_accepts : (.selects R_Thing y_Thing_accepts y_Thing_accepts : Cond) ∈ ps_tb := ps_in 192 (by decide +kernel) rfl
theorem ml_Shelf_64 : (.methodLink R_Shelf 64 y_Places_add : Cond) ∈ ps_tb := ps_in 194 (by decide +kernel) rfl
theorem ml_Shelf_70 : (.methodLink R_Shelf 70 y_Shelf_noteUse : Cond) ∈ ps_tb := ps_in 211 (by decide +kernel) rfl
theorem co_Shelf_noteUse : (.code y_Shelf_noteUse b_Shelf_noteUse 2 none : Cond) ∈ ps_tb := ps_in 214 (by decide +kernel) rfl
theorem im_Shelf_noteUse : (.instanceMethod y_Shelf_noteUse : Cond) ∈ ps_tb := ps_in 213 (by decide +kernel) rfl
theorem se_Shelf_noteUse : (.selects R_Shelf y_Shelf_noteUse y_Shelf_noteUse : Cond) ∈ ps_tb := ps_inS 1 (by decide +kernel) rfl
theorem ml_Shelf_74 : (.methodLink R_Shelf 74 y_Shelf_makeRoom : Cond) ∈ ps_tb := ps_in 215 (by decide +kernel) rfl
theorem co_Shelf_makeRoom : (.code y_Shelf_makeRoom b_Shelf_makeRoom 4 none : Cond) ∈ ps_tb := ps_in 218 (by decide +kernel) rfl
theorem im_Shelf_makeRoom : (.instanceMethod y_Shelf_makeRoom : Cond) ∈ ps_tb := ps_in 217 (by decide +kernel) rfl
theorem se_Shelf_makeRoom : (.selects R_Shelf y_Shelf_makeRoom y_Shelf_makeRoom : Cond) ∈ ps_tb := ps_inS 2 (by decide +kernel) rfl
theorem fl_Shelf_34 : (.fieldLink R_Shelf 34 R_Shelf "cost" "I" : Cond) ∈ ps_tb := ps_in 135 (by decide +kernel) rfl
theorem cd_Shelf_makeRoom : y_Shelf_makeRoom.cls = R_Shelf ∧ y_Shelf_makeRoom.cls ≠ "java/lang/invoke/MethodHandle" ∧ y_Shelf_makeRoom.cls ≠ "java/lang/invoke/VarHandle" ∧ (parseMethodDescriptor y_Shelf_makeRoom.desc).map (fun d => d.parameters.length) = some 0 := by decide +kernel
theorem cd_Shelf_noteUse : y_Shelf_noteUse.cls = R_Shelf ∧ y_Shelf_noteUse.cls ≠ "java/lang/invoke/MethodHandle" ∧ y_Shelf_noteUse.cls ≠ "java/lang/invoke/VarHandle" ∧ (parseMethodDescriptor y_Shelf_noteUse.desc).map (fun d => d.parameters.length) = some 1 := by decide +kernel
theorem cd_Thing_accepts : y_Thing_accepts.cls = R_Thing ∧ y_Thing_accepts.cls ≠ "java/lang/invoke/MethodHandle" ∧ y_Thing_accepts.cls ≠ "java/lang/invoke/VarHandle" ∧ (parseMethodDescriptor y_Thing_accepts.desc).map (fun d => d.parameters.length) = some 3 := by decide +kernel
def rm_Shelf_got : Room := { frames := 6, cells := 0, slots := 0, locals := 135 }
abbrev ws_Shelf_got : List Cond := .code y_Shelf_got b_Shelf_got 7 (some .int) :: ps_tb
set_option maxHeartbeats 4000000 in
set_option maxRecDepth 100000 in
theorem c_Shelf_got {l : Launch} {D : va_G} {g : Nat → Nat} {cI cJ cT : ClassId} {σ : ps_σ} (hg : ps_inj 33 g) (rm1 : Nat) (hrm : σ.1 0 3 = nI rm1) (hrm2 : rm1 ≤ 20000) (hln : ∀ t, t < 6 → σ.1 (9 + t) 1 = -1 ∨ ∃ z : Nat, z ≤ 4095 ∧ σ.1 (9 + t) 1 = nI z) (x xa xb tg : Int32) : Met l y_Shelf_got ws_Shelf_got rm_Shelf_got (ps_Pc D ps_cl (ps_tys cI cJ cT) 33 g (ps_E g cI cJ cT σ) [.ref (g 0), .int x, .int xa, .int xb, .int tg]) (ps_Qi (S := ps_σ) D ps_cl 33 g (fun u => ps_E g cI cJ cT u) (fun r u => (∃ j a b : Nat, j < 6 ∧ x = nI j ∧ xa = nI a ∧ xb = nI b ∧ a ≤ b ∧ b < 4095 ∧ ps_acc σ j (nI a) (nI b) tg ∧ r = nI (ps_cn (ps_ad (ps_hs (σ.2.2.2 (24 + j))) a b) 4096) ∧ ∃ f6 : Nat → Int64, (∀ q, q < 4096 → ps_hs f6 q = (ps_hs (σ.2.2.2 (24 + j)) q || (decide (a ≤ q) && decide (q ≤ b)))) ∧ ps_sB (ps_upU (ps_upU (ps_upB σ (24 + j) f6) 0 (σ.2.1 0 + 1)) (9 + j) (σ.2.1 0 + 1)) u ∧ ∀ t, t < 6 → ∀ q, q < 4096 → ps_hs (u.2.2.2 (24 + t)) q = ps_evF (ps_US (ps_upU (ps_upU (ps_upB σ (24 + j) f6) 0 (σ.2.1 0 + 1)) (9 + j) (σ.2.1 0 + 1))) 6 (ps_totF (ps_upU (ps_upU (ps_upB σ (24 + j) f6) 0 (σ.2.1 0 + 1)) (9 + j) (σ.2.1 0 + 1)) 6 - rm1) (ps_SS (ps_upU (ps_upU (ps_upB σ (24 + j) f6) 0 (σ.2.1 0 + 1)) (9 + j) (σ.2.1 0 + 1))) t q) ∨ (((x < 0 ∨ nI 6 ≤ x) ∨ ∃ j : Nat, j < 6 ∧ x = nI j ∧ ¬ ps_acc σ j xa xb tg) ∧ r = -1 ∧ u = σ))) 0 0 (ps_wA 33 g) := by
  refine ps_met (by decide) ?_
  intro p e s m args below meth c hx hb hr hml hts hown hlocks hname hv Q hQ
  obtain ⟨ha, hP, hK⟩ := hv
  have hT : ∀ w ∈ ps_tb, w.before args s = true := fun w h => hts w (List.mem_cons_of_mem _ h)
  have hown : s.vm.findClass R_Shelf = some m.cls := hown
  have hS : va_S (ps_wA 33 g) s.heap s.heap [] := va_S.rf
  refine ps_enter ha (Nat.le_of_ble_eq_true rfl) (fun ls hl => ?_)
  have hl : lv_has ls 7 [(0, .ref (g 0)), (1, .int x), (2, .int xa), (3, .int xb), (4, .int tg)] := hl
  refine lv_aload_n hx hb d_Shelf_got_0 rfl (lv_at hl 0 rfl) ?_
  refine lv_iload_n hx hb d_Shelf_got_1 rfl (lv_at hl 1 rfl) ?_
  refine ps_roq (k := 0) (As := [.int x]) (rest := []) ⟨hx, hb, hml, hown, hT⟩ (c_Shelf_find (σ := σ) x) (cwV 1 hT (ps_gV ml_Shelf_45 im_Shelf_find se_Shelf_find in_Shelf co_Shelf_find) rfl rfl rfl cd_Shelf_find ⟨Nat.le_of_ble_eq_true rfl, Nat.le_of_ble_eq_true rfl⟩) hK hP (by omega) ps_E_0 rfl rfl hl.1 rfl (Nat.le_of_ble_eq_true rfl) d_Shelf_got_2 ⟨Nat.zero_le _, Nat.zero_le _⟩ (fun rr hrr => ?_)
  rcases hrr with ⟨j, hj, rfl, rfl⟩ | ⟨hno, rfl⟩
  · refine lv_astore (lv' := [(5, .ref (g (9 + j))), (0, .ref (g 0)), (1, .int (nI j)), (2, .int xa), (3, .int xb), (4, .int tg)]) hx hb d_Shelf_got_5 hl (by decide) rfl (fun ls hl => ?_)
    refine lv_aload hx hb d_Shelf_got_7 (lv_at hl 0 rfl) ?_
    refine lv_ifnull hx hb d_Shelf_got_9 ?_
    refine lv_aload hx hb d_Shelf_got_12 (lv_at hl 0 rfl) ?_
    refine lv_iload_n hx hb d_Shelf_got_14 rfl (lv_at hl 3 rfl) ?_
    refine lv_iload_n hx hb d_Shelf_got_15 rfl (lv_at hl 4 rfl) ?_
    refine lv_iload hx hb d_Shelf_got_16 (lv_at hl 5 rfl) ?_
    refine ps_roi (k := 9 + j) (As := [.int xa, .int xb, .int tg]) (rest := []) ⟨hx, hb, hml, hown, hT⟩ (c_Thing_accepts j hj xa xb tg) (cwV 3 hT (ps_gV ml_Shelf_56 im_Thing_accepts se_Thing_accepts in_Thing co_Thing_accepts) rfl rfl rfl cd_Thing_accepts ⟨Nat.le_of_ble_eq_true rfl, Nat.le_of_ble_eq_true rfl⟩) hK hP (by omega) (ps_E_th hj) rfl rfl hl.1 rfl (Nat.le_of_ble_eq_true rfl) d_Shelf_got_18 ⟨Nat.zero_le _, Nat.zero_le _⟩ (fun rr hrr => ?_)
    rcases hrr with ⟨rfl, hac⟩ | ⟨rfl, hac⟩
    · obtain ⟨a, b, rfl, rfl, hab, hb4⟩ := ps_acc_nat (hln j hj) hac
      refine lv_if_ne (tgt := 26) hx hb d_Shelf_got_21 (by decide) (fun c_21 => ?_) (fun c_21 => ?_)
      · refine lv_aload hx hb d_Shelf_got_26 (lv_at hl 0 rfl) ?_
        refine ps_get (v := .ref (g (15 + j))) hx hb hT i_Thing hown hK hP (k := 9 + j) (by omega) (ps_E_th hj) rfl 0 (by decide) (hT _ fl_Shelf_60) (fun _ h9 => h9) rfl d_Shelf_got_28 ?_
        refine lv_iload_n hx hb d_Shelf_got_31 rfl (lv_at hl 3 rfl) ?_
        refine lv_iload_n hx hb d_Shelf_got_32 rfl (lv_at hl 4 rfl) ?_
        refine ps_wri (k := 15 + j) (As := [.int (nI a), .int (nI b)]) (rest := []) ⟨hx, hb, hml, hown, hT⟩ (c_Places_add (σ := σ) hg j (by omega) a b hab (by omega)) (cwV 2 hT (ps_gV ml_Shelf_64 im_Places_add se_Places_add in_Places co_Places_add) rfl rfl rfl cd_Places_add ⟨Nat.le_of_ble_eq_true rfl, Nat.le_of_ble_eq_true rfl⟩) hK hP hS (fun _ h => h) (by omega) (ps_E_pl (by omega)) rfl rfl hl.1 rfl (Nat.le_of_ble_eq_true rfl) d_Shelf_got_33 ⟨Nat.zero_le _, Nat.zero_le _⟩ (fun rr f6 H locs hz hP hS _ => ?_)
        refine lv_istore (lv' := [(6, .int rr), (5, .ref (g (9 + j))), (0, .ref (g 0)), (1, .int (nI j)), (2, .int (nI a)), (3, .int (nI b)), (4, .int tg)]) hx hb d_Shelf_got_36 hl (by decide) rfl (fun ls hl => ?_)
        refine lv_aload_n hx hb d_Shelf_got_38 rfl (lv_at hl 2 rfl) ?_
        refine lv_aload hx hb d_Shelf_got_39 (lv_at hl 1 rfl) ?_
        refine ps_wrv (k := 0) (As := [.ref (g (9 + j))]) (rest := []) ⟨hx, hb, hml, hown, hT⟩ (c_Shelf_noteUse (σ := ps_upB σ (24 + j) f6) hg j hj) (cwV 1 hT (ps_gV ml_Shelf_70 im_Shelf_noteUse se_Shelf_noteUse in_Shelf co_Shelf_noteUse) rfl rfl rfl cd_Shelf_noteUse ⟨Nat.le_of_ble_eq_true rfl, Nat.le_of_ble_eq_true rfl⟩) hK hP hS (fun _ h => h) (by omega) rfl rfl rfl hl.1 rfl (Nat.le_of_ble_eq_true rfl) d_Shelf_got_41 ⟨Nat.zero_le _, Nat.zero_le _⟩ (fun u1 H locs hu1 hP hS _ => ?_)
        have hu1 : u1 = ps_upU (ps_upU (ps_upB σ (24 + j) f6) 0 (σ.2.1 0 + 1)) (9 + j) (σ.2.1 0 + 1) := hu1
        refine lv_aload_n hx hb d_Shelf_got_44 rfl (lv_at hl 2 rfl) ?_
        refine ps_wrv (k := 0) (As := []) (rest := []) ⟨hx, hb, hml, hown, hT⟩ (c_Shelf_makeRoom (σ := u1) hg rm1 (by rw [hu1]; exact hrm) hrm2) (cwV 0 hT (ps_gV ml_Shelf_74 im_Shelf_makeRoom se_Shelf_makeRoom in_Shelf co_Shelf_makeRoom) rfl rfl rfl cd_Shelf_makeRoom ⟨Nat.le_of_ble_eq_true rfl, Nat.le_of_ble_eq_true rfl⟩) hK hP hS (fun _ h => h) (by omega) ps_E_0 rfl rfl hl.1 rfl (Nat.le_of_ble_eq_true rfl) d_Shelf_got_45 ⟨Nat.zero_le _, Nat.zero_le _⟩ (fun u2 H locs hu2 hP hS _ => ?_)
        rw [hu1] at hu2
        refine lv_iload hx hb d_Shelf_got_48 (lv_at hl 0 rfl) ?_
        rw [hQ]
        exact W.iret (v := rr) hx hb hr (fun zt ht _ => ⟨⟨_, u2, rfl, Or.inl ⟨j, a, b, hj, rfl, rfl, rfl, hab, hb4, hac, hz.1, f6, hz.2, hu2.1, hu2.2⟩, ps_hp ht hP⟩, hS.F ht⟩) hS.2.2 d_Shelf_got_50
      · exact absurd c_21 (by decide)
    · refine lv_if_ne (tgt := 26) hx hb d_Shelf_got_21 (by decide) (fun c_21 => ?_) (fun c_21 => ?_)
      · exact absurd rfl c_21
      · refine lv_iconst (v := -1) hx hb d_Shelf_got_24 (by decide) ?_
        rw [hQ]
        exact W.iret (v := -1) hx hb hr (fun zt ht _ => ⟨⟨_, σ, rfl, Or.inr ⟨Or.inr ⟨j, hj, rfl, hac⟩, rfl, rfl⟩, ps_hp ht hP⟩, hS.F ht⟩) hS.2.2 d_Shelf_got_25
  · refine lv_astoreN (lv' := [(5, .null), (0, .ref (g 0)), (1, .int x), (2, .int xa), (3, .int xb), (4, .int tg)]) hx hb d_Shelf_got_5 hl (by decide) rfl (fun ls hl => ?_)
    refine lv_aloadN hx hb d_Shelf_got_7 (lv_at hl 0 rfl) ?_
    refine lv_ifnullN (tgt := 24) hx hb d_Shelf_got_9 (by decide) ?_
    refine lv_iconst (v := -1) hx hb d_Shelf_got_24 (by decide) ?_
    rw [hQ]
    exact W.iret (v := -1) hx hb hr (fun zt ht _ => ⟨⟨_, σ, rfl, Or.inr ⟨Or.inl hno, rfl, rfl⟩, ps_hp ht hP⟩, hS.F ht⟩) hS.2.2 d_Shelf_got_25

def rm_Shelf_set : Room := { frames := 6, cells := 0, slots := 0, locals := 135 }
abbrev ws_Shelf_set : List Cond := .code y_Shelf_set b_Shelf_set 3 (some .boolean) :: ps_tb
set_option maxHeartbeats 4000000 in
set_option maxRecDepth 100000 in
theorem c_Shelf_set {l : Launch} {D : va_G} {g : Nat → Nat} {cI cJ cT : ClassId} {σ : ps_σ} (hg : ps_inj 33 g) (x y : Int32) : Met l y_Shelf_set ws_Shelf_set rm_Shelf_set (ps_Pc D ps_cl (ps_tys cI cJ cT) 33 g (ps_E g cI cJ cT σ) [.ref (g 0), .int x, .int y]) (ps_Qi (S := ps_σ) D ps_cl 33 g (fun u => ps_E g cI cJ cT u) (fun r u => (x = nI 0 ∧ ∃ v : Nat, y = nI v ∧ v ≤ 20000 ∧ r = 1 ∧ ps_sB (ps_upI σ 0 3 y) u ∧ ∀ t, t < 6 → ∀ q, q < 4096 → ps_hs (u.2.2.2 (24 + t)) q = ps_evF (ps_US σ) 6 (ps_totF σ 6 - v) (ps_SS σ) t q) ∨ (x = nI 1 ∧ ∃ v : Nat, y = nI v ∧ v ≤ 1000 ∧ r = 1 ∧ u = ps_upI σ 0 4 y) ∨ (¬ (x = nI 0 ∧ ¬ y < 0 ∧ y ≤ nI 20000) ∧ ¬ (x = nI 1 ∧ ¬ y < 0 ∧ y ≤ nI 1000) ∧ r = 0 ∧ u = σ))) 0 0 (ps_wA 33 g) := by
  refine ps_met (by decide) ?_
  intro p e s m args below meth c hx hb hr hml hts hown hlocks hname hv Q hQ
  obtain ⟨ha, hP, hK⟩ := hv
  have hT : ∀ w ∈ ps_tb, w.before args s = true := fun w h => hts w (List.mem_cons_of_mem _ h)
  have hown : s.vm.findClass R_Shelf = some m.cls := hown
  have hS : va_S (ps_wA 33 g) s.heap s.heap [] := va_S.rf
  refine ps_enter ha (Nat.le_of_ble_eq_true rfl) (fun ls hl => ?_)
  have hl : lv_has ls 3 [(0, .ref (g 0)), (1, .int x), (2, .int y)] := hl
  refine lv_iload_n hx hb d_Shelf_set_0 rfl (lv_at hl 1 rfl) ?_
  refine lv_if_ne (tgt := 26) hx hb d_Shelf_set_1 (by decide) (fun c_1 => ?_) (fun c_1 => ?_)
  · refine lv_iload_n hx hb d_Shelf_set_26 rfl (lv_at hl 1 rfl) ?_
    refine lv_iconst (v := nI 1) hx hb d_Shelf_set_27 (by decide) ?_
    refine lv_icmp_ne (tgt := 49) hx hb d_Shelf_set_28 (by decide) (fun c_28 => ?_) (fun c_28 => ?_)
    · refine lv_iconst (v := nI 0) hx hb d_Shelf_set_49 (by decide) ?_
      rw [hQ]
      exact W.zret (v := nI 0) (ty := .boolean) hx hb hr (by decide +kernel) (fun zt ht _ => ⟨⟨_, σ, rfl, Or.inr (Or.inr ⟨fun h => c_1 (by rw [h.1]; rfl), fun h => c_28 h.1, rfl, rfl⟩), ps_hp ht hP⟩, hS.F ht⟩) hS.2.2 d_Shelf_set_50
    · refine lv_iload_n hx hb d_Shelf_set_31 rfl (lv_at hl 2 rfl) ?_
      refine lv_if_lt (tgt := 49) hx hb d_Shelf_set_32 (by decide) (fun c_32 => ?_) (fun c_32 => ?_)
      · refine lv_iconst (v := nI 0) hx hb d_Shelf_set_49 (by decide) ?_
        rw [hQ]
        exact W.zret (v := nI 0) (ty := .boolean) hx hb hr (by decide +kernel) (fun zt ht _ => ⟨⟨_, σ, rfl, Or.inr (Or.inr ⟨fun h => c_1 (by rw [h.1]; rfl), fun h => h.2.1 c_32, rfl, rfl⟩), ps_hp ht hP⟩, hS.F ht⟩) hS.2.2 d_Shelf_set_50
      · refine lv_iload_n hx hb d_Shelf_set_35 rfl (lv_at hl 2 rfl) ?_
        refine lv_sipush (v := nI 1000) hx hb d_Shelf_set_36 (by decide) ?_
        refine lv_icmp_gt (tgt := 49) hx hb d_Shelf_set_39 (by decide) (fun c_39 => ?_) (fun c_39 => ?_)
        · refine lv_iconst (v := nI 0) hx hb d_Shelf_set_49 (by decide) ?_
          rw [hQ]
          exact W.zret (v := nI 0) (ty := .boolean) hx hb hr (by decide +kernel) (fun zt ht _ => ⟨⟨_, σ, rfl, Or.inr (Or.inr ⟨fun h => c_1 (by rw [h.1]; rfl), fun h => Int32.not_le.mpr c_39 h.2.2, rfl, rfl⟩), ps_hp ht hP⟩, hS.F ht⟩) hS.2.2 d_Shelf_set_50
        · obtain ⟨v, rfl, hv⟩ := ps_toN c_32 (Int32.not_lt.mp c_39) (by decide)
          refine lv_aload_n hx hb d_Shelf_set_42 rfl (lv_at hl 0 rfl) ?_
          refine lv_iload_n hx hb d_Shelf_set_43 rfl (lv_at hl 2 rfl) ?_
          refine ps_put (v := .int (nI v)) (ty := .int) hx hb hT i_Shelf t_Shelf t_Shelf_ok n_Shelf hown hK hg hP hS (k := 0) (by omega) ps_E_0 rfl 4 (by decide) (hT _ fl_Shelf_34) (fun _ h9 => h9) rfl (by decide +kernel) rfl rfl (Nat.le_of_ble_eq_true rfl) d_Shelf_set_44 (ps_E g cI cJ cT (ps_upI σ 0 4 (nI v))) rfl (fun i _ h => by apply ps_E_ext <;> first | rfl | simp [ps_upI, ps_upU, ps_upA, ps_upB, va_up, h]) (fun H locs hP hS => ?_)
          refine lv_iconst (v := nI 1) hx hb d_Shelf_set_47 (by decide) ?_
          rw [hQ]
          exact W.zret (v := nI 1) (ty := .boolean) hx hb hr (by decide +kernel) (fun zt ht _ => ⟨⟨_, (ps_upI σ 0 4 (nI v)), rfl, Or.inr (Or.inl ⟨c_28, v, rfl, hv, rfl, rfl⟩), ps_hp ht hP⟩, hS.F ht⟩) hS.2.2 d_Shelf_set_48
  · have hx0 : x = nI 0 := c_1
    refine lv_iload_n hx hb d_Shelf_set_4 rfl (lv_at hl 2 rfl) ?_
    refine lv_if_lt (tgt := 26) hx hb d_Shelf_set_5 (by decide) (fun c_5 => ?_) (fun c_5 => ?_)
    · refine lv_iload_n hx hb d_Shelf_set_26 rfl (lv_at hl 1 rfl) ?_
      refine lv_iconst (v := nI 1) hx hb d_Shelf_set_27 (by decide) ?_
      refine lv_icmp_ne (tgt := 49) hx hb d_Shelf_set_28 (by decide) (fun c_28 => ?_) (fun c_28 => ?_)
      · refine lv_iconst (v := nI 0) hx hb d_Shelf_set_49 (by decide) ?_
        rw [hQ]
        exact W.zret (v := nI 0) (ty := .boolean) hx hb hr (by decide +kernel) (fun zt ht _ => ⟨⟨_, σ, rfl, Or.inr (Or.inr ⟨fun h => h.2.1 c_5, fun h => c_28 h.1, rfl, rfl⟩), ps_hp ht hP⟩, hS.F ht⟩) hS.2.2 d_Shelf_set_50
      · refine lv_iload_n hx hb d_Shelf_set_31 rfl (lv_at hl 2 rfl) ?_
        refine lv_if_lt (tgt := 49) hx hb d_Shelf_set_32 (by decide) (fun c_32 => ?_) (fun c_32 => ?_)
        · refine lv_iconst (v := nI 0) hx hb d_Shelf_set_49 (by decide) ?_
          rw [hQ]
          exact W.zret (v := nI 0) (ty := .boolean) hx hb hr (by decide +kernel) (fun zt ht _ => ⟨⟨_, σ, rfl, Or.inr (Or.inr ⟨fun h => h.2.1 c_5, fun h => h.2.1 c_32, rfl, rfl⟩), ps_hp ht hP⟩, hS.F ht⟩) hS.2.2 d_Shelf_set_50
        · refine lv_iload_n hx hb d_Shelf_set_35 rfl (lv_at hl 2 rfl) ?_
          refine lv_sipush (v := nI 1000) hx hb d_Shelf_set_36 (by decide) ?_
          refine lv_icmp_gt (tgt := 49) hx hb d_Shelf_set_39 (by decide) (fun c_39 => ?_) (fun c_39 => ?_)
          · refine lv_iconst (v := nI 0) hx hb d_Shelf_set_49 (by decide) ?_
            rw [hQ]
            exact W.zret (v := nI 0) (ty := .boolean) hx hb hr (by decide +kernel) (fun zt ht _ => ⟨⟨_, σ, rfl, Or.inr (Or.inr ⟨fun h => h.2.1 c_5, fun h => Int32.not_le.mpr c_39 h.2.2, rfl, rfl⟩), ps_hp ht hP⟩, hS.F ht⟩) hS.2.2 d_Shelf_set_50
          · obtain ⟨v, rfl, hv⟩ := ps_toN c_32 (Int32.not_lt.mp c_39) (by decide)
            refine lv_aload_n hx hb d_Shelf_set_42 rfl (lv_at hl 0 rfl) ?_
            refine lv_iload_n hx hb d_Shelf_set_43 rfl (lv_at hl 2 rfl) ?_
            refine ps_put (v := .int (nI v)) (ty := .int) hx hb hT i_Shelf t_Shelf t_Shelf_ok n_Shelf hown hK hg hP hS (k := 0) (by omega) ps_E_0 rfl 4 (by decide) (hT _ fl_Shelf_34) (fun _ h9 => h9) rfl (by decide +kernel) rfl rfl (Nat.le_of_ble_eq_true rfl) d_Shelf_set_44 (ps_E g cI cJ cT (ps_upI σ 0 4 (nI v))) rfl (fun i _ h => by apply ps_E_ext <;> first | rfl | simp [ps_upI, ps_upU, ps_upA, ps_upB, va_up, h]) (fun H locs hP hS => ?_)
            refine lv_iconst (v := nI 1) hx hb d_Shelf_set_47 (by decide) ?_
            rw [hQ]
            exact W.zret (v := nI 1) (ty := .boolean) hx hb hr (by decide +kernel) (fun zt ht _ => ⟨⟨_, (ps_upI σ 0 4 (nI v)), rfl, Or.inr (Or.inl ⟨c_28, v, rfl, hv, rfl, rfl⟩), ps_hp ht hP⟩, hS.F ht⟩) hS.2.2 d_Shelf_set_48
    · refine lv_iload_n hx hb d_Shelf_set_8 rfl (lv_at hl 2 rfl) ?_
      refine lv_sipush (v := nI 20000) hx hb d_Shelf_set_9 (by decide) ?_
      refine lv_icmp_gt (tgt := 26) hx hb d_Shelf_set_12 (by decide) (fun c_12 => ?_) (fun c_12 => ?_)
      · refine lv_iload_n hx hb d_Shelf_set_26 rfl (lv_at hl 1 rfl) ?_
        refine lv_iconst (v := nI 1) hx hb d_Shelf_set_27 (by decide) ?_
        refine lv_icmp_ne (tgt := 49) hx hb d_Shelf_set_28 (by decide) (fun c_28 => ?_) (fun c_28 => ?_)
        · refine lv_iconst (v := nI 0) hx hb d_Shelf_set_49 (by decide) ?_
          rw [hQ]
          exact W.zret (v := nI 0) (ty := .boolean) hx hb hr (by decide +kernel) (fun zt ht _ => ⟨⟨_, σ, rfl, Or.inr (Or.inr ⟨fun h => Int32.not_le.mpr c_12 h.2.2, fun h => c_28 h.1, rfl, rfl⟩), ps_hp ht hP⟩, hS.F ht⟩) hS.2.2 d_Shelf_set_50
        · refine lv_iload_n hx hb d_Shelf_set_31 rfl (lv_at hl 2 rfl) ?_
          refine lv_if_lt (tgt := 49) hx hb d_Shelf_set_32 (by decide) (fun c_32 => ?_) (fun c_32 => ?_)
          · refine lv_iconst (v := nI 0) hx hb d_Shelf_set_49 (by decide) ?_
            rw [hQ]
            exact W.zret (v := nI 0) (ty := .boolean) hx hb hr (by decide +kernel) (fun zt ht _ => ⟨⟨_, σ, rfl, Or.inr (Or.inr ⟨fun h => Int32.not_le.mpr c_12 h.2.2, fun h => h.2.1 c_32, rfl, rfl⟩), ps_hp ht hP⟩, hS.F ht⟩) hS.2.2 d_Shelf_set_50
          · refine lv_iload_n hx hb d_Shelf_set_35 rfl (lv_at hl 2 rfl) ?_
            refine lv_sipush (v := nI 1000) hx hb d_Shelf_set_36 (by decide) ?_
            refine lv_icmp_gt (tgt := 49) hx hb d_Shelf_set_39 (by decide) (fun c_39 => ?_) (fun c_39 => ?_)
            · refine lv_iconst (v := nI 0) hx hb d_Shelf_set_49 (by decide) ?_
              rw [hQ]
              exact W.zret (v := nI 0) (ty := .boolean) hx hb hr (by decide +kernel) (fun zt ht _ => ⟨⟨_, σ, rfl, Or.inr (Or.inr ⟨fun h => Int32.not_le.mpr c_12 h.2.2, fun h => Int32.not_le.mpr c_39 h.2.2, rfl, rfl⟩), ps_hp ht hP⟩, hS.F ht⟩) hS.2.2 d_Shelf_set_50
            · obtain ⟨v, rfl, hv⟩ := ps_toN c_32 (Int32.not_lt.mp c_39) (by decide)
              refine lv_aload_n hx hb d_Shelf_set_42 rfl (lv_at hl 0 rfl) ?_
              refine lv_iload_n hx hb d_Shelf_set_43 rfl (lv_at hl 2 rfl) ?_
              refine ps_put (v := .int (nI v)) (ty := .int) hx hb hT i_Shelf t_Shelf t_Shelf_ok n_Shelf hown hK hg hP hS (k := 0) (by omega) ps_E_0 rfl 4 (by decide) (hT _ fl_Shelf_34) (fun _ h9 => h9) rfl (by decide +kernel) rfl rfl (Nat.le_of_ble_eq_true rfl) d_Shelf_set_44 (ps_E g cI cJ cT (ps_upI σ 0 4 (nI v))) rfl (fun i _ h => by apply ps_E_ext <;> first | rfl | simp [ps_upI, ps_upU, ps_upA, ps_upB, va_up, h]) (fun H locs hP hS => ?_)
              refine lv_iconst (v := nI 1) hx hb d_Shelf_set_47 (by decide) ?_
              rw [hQ]
              exact W.zret (v := nI 1) (ty := .boolean) hx hb hr (by decide +kernel) (fun zt ht _ => ⟨⟨_, (ps_upI σ 0 4 (nI v)), rfl, Or.inr (Or.inl ⟨c_28, v, rfl, hv, rfl, rfl⟩), ps_hp ht hP⟩, hS.F ht⟩) hS.2.2 d_Shelf_set_48
      · obtain ⟨v, rfl, hv⟩ := ps_toN c_5 (Int32.not_lt.mp c_12) (by decide)
        refine lv_aload_n hx hb d_Shelf_set_15 rfl (lv_at hl 0 rfl) ?_
        refine lv_iload_n hx hb d_Shelf_set_16 rfl (lv_at hl 2 rfl) ?_
        refine ps_put (v := .int (nI v)) (ty := .int) hx hb hT i_Shelf t_Shelf t_Shelf_ok n_Shelf hown hK hg hP hS (k := 0) (by omega) ps_E_0 rfl 3 (by decide) (hT _ fl_Shelf_30) (fun _ h9 => h9) rfl (by decide +kernel) rfl rfl (Nat.le_of_ble_eq_true rfl) d_Shelf_set_17 (ps_E g cI cJ cT (ps_upI σ 0 3 (nI v))) rfl (fun i _ h => by apply ps_E_ext <;> first | rfl | simp [ps_upI, ps_upU, ps_upA, ps_upB, va_up, h]) (fun H locs hP hS => ?_)
        refine lv_aload_n hx hb d_Shelf_set_20 rfl (lv_at hl 0 rfl) ?_
        refine ps_wrv (k := 0) (As := []) (rest := []) ⟨hx, hb, hml, hown, hT⟩ (c_Shelf_makeRoom (σ := ps_upI σ 0 3 (nI v)) hg v rfl hv) (cwV 0 hT (ps_gV ml_Shelf_74 im_Shelf_makeRoom se_Shelf_makeRoom in_Shelf co_Shelf_makeRoom) rfl rfl rfl cd_Shelf_makeRoom ⟨Nat.le_of_ble_eq_true rfl, Nat.le_of_ble_eq_true rfl⟩) hK hP hS (fun _ h => h) (by omega) rfl rfl rfl hl.1 rfl (Nat.le_of_ble_eq_true rfl) d_Shelf_set_21 ⟨Nat.zero_le _, Nat.zero_le _⟩ (fun u2 H locs hu2 hP hS _ => ?_)
        refine lv_iconst (v := nI 1) hx hb d_Shelf_set_24 (by decide) ?_
        rw [hQ]
        exact W.zret (v := nI 1) (ty := .boolean) hx hb hr (by decide +kernel) (fun zt ht _ => ⟨⟨_, u2, rfl, Or.inl ⟨hx0, v, rfl, hv, rfl, hu2.1, hu2.2⟩, ps_hp ht hP⟩, hS.F ht⟩) hS.2.2 d_Shelf_set_25
