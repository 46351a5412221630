theorem ml_Shelf_164 : (.methodLink R_Shelf 164 y_Shelf_keptInAll : Cond) ∈ ps_tb := ps_in 219 (by decide +kernel) rfl
theorem co_Shelf_keptInAll : (.code y_Shelf_keptInAll b_Shelf_keptInAll 3 (some .int) : Cond) ∈ ps_tb := ps_in 222 (by decide +kernel) rfl
theorem in_Shelf : (.initialized R_Shelf : Cond) ∈ ps_tb := ps_in 1 (by decide +kernel) rfl
theorem im_Shelf_keptInAll : (.instanceMethod y_Shelf_keptInAll : Cond) ∈ ps_tb := ps_in 221 (by decide +kernel) rfl
theorem se_Shelf_keptInAll : (.selects R_Shelf y_Shelf_keptInAll y_Shelf_keptInAll : Cond) ∈ ps_tb := ps_inS 3 (by decide +kernel) rfl
theorem fl_Shelf_30 : (.fieldLink R_Shelf 30 R_Shelf "room" "I" : Cond) ∈ ps_tb := ps_in 134 (by decide +kernel) rfl
theorem ml_Shelf_167 : (.methodLink R_Shelf 167 y_Shelf_longestUnused : Cond) ∈ ps_tb := ps_in 227 (by decide +kernel) rfl
theorem co_Shelf_longestUnused : (.code y_Shelf_longestUnused b_Shelf_longestUnused 4 (some (.object "PieceShelf$Thing")) : Cond) ∈ ps_tb := ps_in 230 (by decide +kernel) rfl
theorem im_Shelf_longestUnused : (.instanceMethod y_Shelf_longestUnused : Cond) ∈ ps_tb := ps_in 229 (by decide +kernel) rfl
theorem se_Shelf_longestUnused : (.selects R_Shelf y_Shelf_longestUnused y_Shelf_longestUnused : Cond) ∈ ps_tb := ps_inS 4 (by decide +kernel) rfl
theorem ml_Shelf_171 : (.methodLink R_Shelf 171 y_Places_dropLast : Cond) ∈ ps_tb := ps_in 242 (by decide +kernel) rfl
theorem co_Places_dropLast : (.code y_Places_dropLast b_Places_dropLast 5 (some .int) : Cond) ∈ ps_tb := ps_in 245 (by decide +kernel) rfl
theorem im_Places_dropLast : (.instanceMethod y_Places_dropLast : Cond) ∈ ps_tb := ps_in 243 (by decide +kernel) rfl
theorem se_Places_dropLast : (.selects R_Places y_Places_dropLast y_Places_dropLast : Cond) ∈ ps_tb := ps_in 244 (by decide +kernel) rfl
theorem cd_Places_dropLast : y_Places_dropLast.cls = R_Places ∧ y_Places_dropLast.cls ≠ "java/lang/invoke/MethodHandle" ∧ y_Places_dropLast.cls ≠ "java/lang/invoke/VarHandle" ∧ (parseMethodDescriptor y_Places_dropLast.desc).map (fun d => d.parameters.length) = some 1 := by decide +kernel
theorem cd_Shelf_keptInAll : y_Shelf_keptInAll.cls = R_Shelf ∧ y_Shelf_keptInAll.cls ≠ "java/lang/invoke/MethodHandle" ∧ y_Shelf_keptInAll.cls ≠ "java/lang/invoke/VarHandle" ∧ (parseMethodDescriptor y_Shelf_keptInAll.desc).map (fun d => d.parameters.length) = some 0 := by decide +kernel
theorem cd_Shelf_longestUnused : y_Shelf_longestUnused.cls = R_Shelf ∧ y_Shelf_longestUnused.cls ≠ "java/lang/invoke/MethodHandle" ∧ y_Shelf_longestUnused.cls ≠ "java/lang/invoke/VarHandle" ∧ (parseMethodDescriptor y_Shelf_longestUnused.desc).map (fun d => d.parameters.length) = some 0 := by decide +kernel
def rm_Shelf_makeRoom : Room := { frames := 5, cells := 0, slots := 0, locals := 112 }
abbrev ws_Shelf_makeRoom : List Cond := .code y_Shelf_makeRoom b_Shelf_makeRoom 4 none :: ps_tb
set_option maxHeartbeats 4000000 in
set_option maxRecDepth 100000 in
theorem c_Shelf_makeRoom {l : Launch} {D : va_G} {g : Nat → Nat} {cI cJ cT : ClassId} {σ : ps_σ} (hg : ps_inj 33 g) (rm1 : Nat) (hrm : σ.1 0 3 = nI rm1) (hrm2 : rm1 ≤ 20000) : Met l y_Shelf_makeRoom ws_Shelf_makeRoom rm_Shelf_makeRoom (ps_Pc D ps_cl (ps_tys cI cJ cT) 33 g (ps_E g cI cJ cT σ) [.ref (g 0)]) (ps_Qv (S := ps_σ) D ps_cl 33 g (fun u => ps_E g cI cJ cT u) (fun u => ps_sB σ u ∧ ∀ t, t < 6 → ∀ q, q < 4096 → ps_hs (u.2.2.2 (24 + t)) q = ps_evF (ps_US σ) 6 (ps_totF σ 6 - rm1) (ps_SS σ) t q)) 0 0 (ps_wA 33 g) := by
  refine ps_met (by decide) ?_
  intro p e s m args below meth c hx hb hr hml hts hown hlocks hname hv Q hQ
  obtain ⟨ha, hP, hK⟩ := hv
  have hT : ∀ w ∈ ps_tb, w.before args s = true := fun w h => hts w (List.mem_cons_of_mem _ h)
  have hown : s.vm.findClass R_Shelf = some m.cls := hown
  have hS : va_S (ps_wA 33 g) s.heap s.heap [] := va_S.rf
  refine ps_enter ha (Nat.le_of_ble_eq_true rfl) (fun ls hl => ?_)
  have hl : lv_has ls 4 [(0, .ref (g 0))] := hl
  refine lv_aload_n hx hb d_Shelf_makeRoom_0 rfl (lv_at hl 0 rfl) ?_
  refine ps_roi (k := 0) (As := []) (rest := []) ⟨hx, hb, hml, hown, hT⟩ c_Shelf_keptInAll (cwV 0 hT (ps_gV ml_Shelf_164 im_Shelf_keptInAll se_Shelf_keptInAll in_Shelf co_Shelf_keptInAll) rfl rfl rfl cd_Shelf_keptInAll ⟨Nat.le_of_ble_eq_true rfl, Nat.le_of_ble_eq_true rfl⟩) hK hP (by omega) ps_E_0 rfl rfl hl.1 rfl (Nat.le_of_ble_eq_true rfl) d_Shelf_makeRoom_1 ⟨Nat.zero_le _, Nat.zero_le _⟩ (fun rr hrr => ?_)
  obtain ⟨n1, en1⟩ : ∃ z, z = ps_totF σ 6 := ⟨_, rfl⟩
  have hn1 : n1 ≤ 24576 := by rw [en1]; exact ps_totF_le σ 6
  have hrr : rr = nI n1 := by rw [en1]; exact hrr
  subst hrr
  refine lv_aload_n hx hb d_Shelf_makeRoom_4 rfl (lv_at hl 0 rfl) ?_
  refine ps_get (v := .int (σ.1 0 3)) hx hb hT i_Shelf hown hK hP (k := 0) (by omega) ps_E_0 rfl 3 (by decide) (hT _ fl_Shelf_30) (fun _ h9 => h9) rfl d_Shelf_makeRoom_5 ?_
  refine ps_seti (y := nI rm1) hrm ?_
  refine lv_isub hx hb d_Shelf_makeRoom_8 ?_
  rcases Nat.lt_or_ge rm1 n1 with hrn | hrn
  · refine ps_seti (y := nI (n1 - rm1)) (pk_sub (by omega)) ?_
    refine lv_istore_n (lv' := [(1, .int (nI (n1 - rm1))), (0, .ref (g 0))]) hx hb d_Shelf_makeRoom_9 rfl hl (by decide) rfl (fun ls hl => ?_)
    refine lv_iconst (v := nI 0) hx hb d_Shelf_makeRoom_10 (by decide) ?_
    refine lv_istore_n (lv' := [(2, .int (nI 0)), (1, .int (nI (n1 - rm1))), (0, .ref (g 0))]) hx hb d_Shelf_makeRoom_11 rfl hl (by decide) rfl (fun ls hl => ?_)
    have L_a : ∀ (n_a : Nat) (k ov : Nat) (τ : ps_σ) (Z : Nat → Nat → Bool), (k ≤ 6) → (ov < 2 ^ 30) → (ps_sB σ τ) → (∀ t, t < 6 → ∀ q, q < 4096 → ps_hs (τ.2.2.2 (24 + t)) q = Z t q) → (ps_evF (ps_US σ) 6 (n1 - rm1) (ps_SS σ) = ps_evF (ps_US σ) (6 - k) ov Z) → 6 - k < n_a → ∀ (H : Heap) (locs : List Loc), va_P D ps_cl (ps_wl 33 g (ps_E g cI cJ cT (τ))) H → va_S (ps_wA 33 g) s.heap H locs → ∀ (ls : Array Slot), lv_has ls 4 [(0, .ref (g 0)), (1, .int (nI ov)), (2, .int (nI k))] → W p l e rm_Shelf_makeRoom s m args below meth c H locs 0 0 Q (F0 m 12 ls []) := by
      intro n_a
      induction n_a with
      | zero => intro k ov τ Z hk hov hsB hS1 hev hf_a; exact absurd hf_a (Nat.not_lt_zero _)
      | succ n_a ih_a =>
        intro k ov τ Z hk hov hsB hS1 hev hf_a H locs hP hS ls hl
        refine lv_iload_n hx hb d_Shelf_makeRoom_12 rfl (lv_at hl 2 rfl) ?_
        refine lv_bipush (v := nI 6) hx hb d_Shelf_makeRoom_13 (by decide) ?_
        refine lv_icmp_ge (tgt := 48) hx hb d_Shelf_makeRoom_15 (by decide) (fun c_15 => ?_) (fun c_15 => ?_)
        · have hk6 : k = 6 := by have := ps_leT c_15 (by omega) (by omega); omega
          have hend : ps_evF (ps_US σ) (6 - k) ov Z = Z := by rw [hk6]; rfl
          rw [hQ]
          exact W.vret hx hb hr (fun zt ht _ => ⟨⟨τ, rfl, ⟨hsB, fun t h6 q hq => by rw [← en1, hS1 t h6 q hq, hev, hend]⟩, ps_hp ht hP⟩, hS.F ht⟩) hS.2.2 d_Shelf_makeRoom_48
        · have hk6 : k < 6 := by have := ps_ltOf c_15 (by omega) (by omega); omega
          refine lv_iload_n hx hb d_Shelf_makeRoom_18 rfl (lv_at hl 1 rfl) ?_
          refine lv_if_le (tgt := 48) hx hb d_Shelf_makeRoom_19 (by decide) (fun c_19 => ?_) (fun c_19 => ?_)
          · have hov0 : ov = 0 := ps_le0 (by omega) c_19
            have hend : ps_evF (ps_US σ) (6 - k) ov Z = Z := by rw [hov0, ps_evF_0]
            rw [hQ]
            exact W.vret hx hb hr (fun zt ht _ => ⟨⟨τ, rfl, ⟨hsB, fun t h6 q hq => by rw [← en1, hS1 t h6 q hq, hev, hend]⟩, ps_hp ht hP⟩, hS.F ht⟩) hS.2.2 d_Shelf_makeRoom_48
          · have hov0 : 0 < ov := ps_nle0 c_19
            refine lv_aload_n hx hb d_Shelf_makeRoom_22 rfl (lv_at hl 0 rfl) ?_
            refine ps_roq (k := 0) (As := []) (rest := []) ⟨hx, hb, hml, hown, hT⟩ (c_Shelf_longestUnused (σ := τ)) (cwV 0 hT (ps_gV ml_Shelf_167 im_Shelf_longestUnused se_Shelf_longestUnused in_Shelf co_Shelf_longestUnused) rfl rfl rfl cd_Shelf_longestUnused ⟨Nat.le_of_ble_eq_true rfl, Nat.le_of_ble_eq_true rfl⟩) hK hP (by omega) ps_E_0 rfl rfl hl.1 rfl (Nat.le_of_ble_eq_true rfl) d_Shelf_makeRoom_23 ⟨Nat.zero_le _, Nat.zero_le _⟩ (fun rr hrr => ?_)
            have hro : rr = Option.map (fun t => g (9 + t)) (ps_oldF (ps_US σ) Z 6) := by
              rw [hrr, ps_oldF_congr 6 hS1]
              have eu : ps_US τ = ps_US σ := by unfold ps_US; rw [hsB.2.1]
              rw [eu]
            clear hrr
            rcases ho : ps_oldF (ps_US σ) Z 6 with _ | o
            · rw [ho] at hro
              subst hro
              refine lv_astore_nN (lv' := [(3, .null), (0, .ref (g 0)), (1, .int (nI ov)), (2, .int (nI k))]) hx hb d_Shelf_makeRoom_26 rfl hl (by decide) rfl (fun ls hl => ?_)
              refine lv_aload_nN hx hb d_Shelf_makeRoom_27 rfl (lv_at hl 0 rfl) ?_
              refine lv_ifnullN (tgt := 42) hx hb d_Shelf_makeRoom_28 (by decide) ?_
              refine lv_iinc (v := (nI (k + 1))) (lv' := [(2, .int (nI (k + 1))), (3, .null), (0, .ref (g 0)), (1, .int (nI ov))]) hx hb d_Shelf_makeRoom_42 hl (k := 3) rfl (nI_1 _) (by decide) rfl (fun ls hl => ?_)
              refine lv_goto (tgt := 12) hx hb d_Shelf_makeRoom_45 (by decide) ?_
              exact ih_a (k + 1) ov (τ) Z (by omega) hov hsB hS1 (by rw [hev, ps_evF_n (by omega) (by omega) ho]; rfl) (by omega) _ _ hP hS ls (lv_sub hl [2, 3, 0] rfl)
            · rw [ho] at hro
              subst hro
              have ho6 := ps_oldF_lt _ _ _ _ ho
              refine lv_astore_n (lv' := [(3, .ref (g (9 + o))), (0, .ref (g 0)), (1, .int (nI ov)), (2, .int (nI k))]) hx hb d_Shelf_makeRoom_26 rfl hl (by decide) rfl (fun ls hl => ?_)
              refine lv_aload_n hx hb d_Shelf_makeRoom_27 rfl (lv_at hl 0 rfl) ?_
              refine lv_ifnull hx hb d_Shelf_makeRoom_28 ?_
              refine lv_iload_n hx hb d_Shelf_makeRoom_31 rfl (lv_at hl 2 rfl) ?_
              refine lv_aload_n hx hb d_Shelf_makeRoom_32 rfl (lv_at hl 0 rfl) ?_
              refine ps_get (v := .ref (g (15 + o))) hx hb hT i_Thing hown hK hP (k := 9 + o) (by omega) (ps_E_th ho6) rfl 0 (by decide) (hT _ fl_Shelf_60) (fun _ h9 => h9) rfl d_Shelf_makeRoom_33 ?_
              refine lv_iload_n hx hb d_Shelf_makeRoom_36 rfl (lv_at hl 2 rfl) ?_
              refine ps_wri (k := 15 + o) (As := [.int (nI ov)]) (rest := [.int (nI ov)]) ⟨hx, hb, hml, hown, hT⟩ (c_Places_dropLast (σ := τ) hg o (by omega) ov (by omega)) (cwV 1 hT (ps_gV ml_Shelf_171 im_Places_dropLast se_Places_dropLast in_Places co_Places_dropLast) rfl rfl rfl cd_Places_dropLast ⟨Nat.le_of_ble_eq_true rfl, Nat.le_of_ble_eq_true rfl⟩) hK hP hS (fun _ h => h) (by omega) (ps_E_pl (by omega)) rfl rfl hl.1 rfl (Nat.le_of_ble_eq_true rfl) d_Shelf_makeRoom_37 ⟨Nat.zero_le _, Nat.zero_le _⟩ (fun rr f6 H locs hz hP hS _ => ?_)
              obtain ⟨hz1, hz2⟩ := hz
              rw [ps_left_congr (by omega) (hS1 o ho6)] at hz1
              subst hz1
              refine lv_isub hx hb d_Shelf_makeRoom_40 ?_
              refine ps_seti (y := nI (ps_left (Z o) ov 0)) (by rw [pk_sub (by omega)]; congr 1; have := ps_left_le (Z o) ov 0; omega) ?_
              refine lv_istore_n (lv' := [(1, .int (nI (ps_left (Z o) ov 0))), (3, .ref (g (9 + o))), (0, .ref (g 0)), (2, .int (nI k))]) hx hb d_Shelf_makeRoom_41 rfl hl (by decide) rfl (fun ls hl => ?_)
              refine lv_iinc (v := (nI (k + 1))) (lv' := [(2, .int (nI (k + 1))), (1, .int (nI (ps_left (Z o) ov 0))), (3, .ref (g (9 + o))), (0, .ref (g 0))]) hx hb d_Shelf_makeRoom_42 hl (k := 3) rfl (nI_1 _) (by decide) rfl (fun ls hl => ?_)
              refine lv_goto (tgt := 12) hx hb d_Shelf_makeRoom_45 (by decide) ?_
              exact ih_a (k + 1) (ps_left (Z o) ov 0) (ps_upB τ (24 + o) f6) (va_up Z o (ps_dl (Z o) ov 0)) (by omega) (by have := ps_left_le (Z o) ov 0; omega) (ps_sB_up ho6 hsB) (ps_ev_step ho6 hS1 hz2) (by rw [hev, ps_evF_s (by omega) (by omega) ho]; rfl) (by omega) _ _ hP hS ls (lv_sub hl [3, 1, 0] rfl)
    exact L_a (6 - 0 + 1) 0 (n1 - rm1) (σ) (ps_SS σ) (by omega) (by omega) (ps_sB_rf σ) (fun t _ q _ => rfl) rfl (by omega) _ _ hP hS ls (lv_sub hl [2, 1, 0] rfl)
  · have hle : nI n1 - nI rm1 ≤ 0 := ps_sub_le (by omega) hrn
    refine lv_istore_n (lv' := [(1, .int ((nI n1) - (nI rm1))), (0, .ref (g 0))]) hx hb d_Shelf_makeRoom_9 rfl hl (by decide) rfl (fun ls hl => ?_)
    refine lv_iconst (v := nI 0) hx hb d_Shelf_makeRoom_10 (by decide) ?_
    refine lv_istore_n (lv' := [(2, .int (nI 0)), (1, .int ((nI n1) - (nI rm1))), (0, .ref (g 0))]) hx hb d_Shelf_makeRoom_11 rfl hl (by decide) rfl (fun ls hl => ?_)
    refine lv_iload_n hx hb d_Shelf_makeRoom_12 rfl (lv_at hl 0 rfl) ?_
    refine lv_bipush (v := nI 6) hx hb d_Shelf_makeRoom_13 (by decide) ?_
    refine lv_icmp_ge (tgt := 48) hx hb d_Shelf_makeRoom_15 (by decide) (fun c_15 => ?_) (fun c_15 => ?_)
    · exact absurd (ps_leT c_15 (by decide) (by decide)) (by decide)
    · refine lv_iload_n hx hb d_Shelf_makeRoom_18 rfl (lv_at hl 1 rfl) ?_
      refine lv_if_le (tgt := 48) hx hb d_Shelf_makeRoom_19 (by decide) (fun c_19 => ?_) (fun c_19 => ?_)
      · rw [hQ]
        exact W.vret hx hb hr (fun zt ht _ => ⟨⟨σ, rfl, ⟨ps_sB_rf σ, fun t _ q _ => by rw [← en1, show n1 - rm1 = 0 by omega, ps_evF_0]⟩, ps_hp ht hP⟩, hS.F ht⟩) hS.2.2 d_Shelf_makeRoom_48
      · exact absurd hle c_19
