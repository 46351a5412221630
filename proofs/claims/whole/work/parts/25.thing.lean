theorem fl_Thing_22 : (.fieldLink R_Thing 22 R_Thing "tag" "I" : Cond) ∈ ps_tb := ps_in 68 (by decide +kernel) rfl
theorem fl_Thing_18 : (.fieldLink R_Thing 18 R_Thing "length" "I" : Cond) ∈ ps_tb := ps_in 66 (by decide +kernel) rfl
theorem fl_Thing_12 : (.fieldLink R_Thing 12 R_Thing "kept" "LPieceShelf$Places;" : Cond) ∈ ps_tb := ps_in 64 (by decide +kernel) rfl
theorem ml_Thing_29 : (.methodLink R_Thing 29 y_Places_clear : Cond) ∈ ps_tb := ps_in 174 (by decide +kernel) rfl
theorem ml_Thing_32 : (.methodLink R_Thing 32 y_Places_next : Cond) ∈ ps_tb := ps_in 270 (by decide +kernel) rfl
def rm_Thing_accepts : Room := { frames := 0, cells := 0, slots := 0, locals := 0 }
abbrev ws_Thing_accepts : List Cond := .code y_Thing_accepts b_Thing_accepts 4 (some .boolean) :: ps_tb
set_option maxHeartbeats 4000000 in
set_option maxRecDepth 100000 in
theorem c_Thing_accepts {l : Launch} {D : va_G} {g : Nat → Nat} {cI cJ cT : ClassId} {σ : ps_σ} (t : Nat) (ht6 : t < 6) (a b tg : Int32) : Met l y_Thing_accepts ws_Thing_accepts rm_Thing_accepts (ps_Pc D ps_cl (ps_tys cI cJ cT) 33 g (ps_E g cI cJ cT σ) [.ref (g (9 + t)), .int a, .int b, .int tg]) (vp_Si (fun r => (r = 1 ∧ ps_acc σ t a b tg) ∨ (r = 0 ∧ ¬ ps_acc σ t a b tg))) 0 0 (fun _ => False) := by
  refine ps_met (by decide) ?_
  intro p e s m args below meth c hx hb hr hml hts hown hlocks hname hv Q hQ
  obtain ⟨ha, hP, hK⟩ := hv
  have hT : ∀ w ∈ ps_tb, w.before args s = true := fun w h => hts w (List.mem_cons_of_mem _ h)
  have hown : s.vm.findClass R_Thing = some m.cls := hown
  refine ps_enter ha (Nat.le_of_ble_eq_true rfl) (fun ls hl => ?_)
  have hl : lv_has ls 4 [(0, .ref (g (9 + t))), (1, .int a), (2, .int b), (3, .int tg)] := hl
  refine lv_iload_n hx hb d_Thing_accepts_0 rfl (lv_at hl 3 rfl) ?_
  refine lv_aload_n hx hb d_Thing_accepts_1 rfl (lv_at hl 0 rfl) ?_
  refine ps_get (v := .int (σ.1 (9 + t) 2)) hx hb hT i_Thing hown hK hP (k := 9 + t) (by omega) (ps_E_th ht6) rfl 2 (by decide) (hT _ fl_Thing_22) (fun _ h9 => h9) rfl d_Thing_accepts_2 ?_
  refine lv_icmp_ne (tgt := 29) hx hb d_Thing_accepts_5 (by decide) (fun c_5 => ?_) (fun c_5 => ?_)
  · have hno : ¬ ps_acc σ t a b tg := fun h => c_5 h.1
    refine lv_iconst (v := nI 0) hx hb d_Thing_accepts_29 (by decide) ?_
    rw [hQ]
    exact W.zret (v := nI 0) (ty := .boolean) hx hb hr (by decide +kernel) (fun zt ht _ => ⟨_, rfl, Or.inr ⟨rfl, hno⟩, ht⟩) (fun q h => absurd h List.not_mem_nil) d_Thing_accepts_30
  · refine lv_iload_n hx hb d_Thing_accepts_8 rfl (lv_at hl 1 rfl) ?_
    refine lv_if_lt (tgt := 29) hx hb d_Thing_accepts_9 (by decide) (fun c_9 => ?_) (fun c_9 => ?_)
    · have hno : ¬ ps_acc σ t a b tg := fun h => h.2.1 c_9
      refine lv_iconst (v := nI 0) hx hb d_Thing_accepts_29 (by decide) ?_
      rw [hQ]
      exact W.zret (v := nI 0) (ty := .boolean) hx hb hr (by decide +kernel) (fun zt ht _ => ⟨_, rfl, Or.inr ⟨rfl, hno⟩, ht⟩) (fun q h => absurd h List.not_mem_nil) d_Thing_accepts_30
    · refine lv_iload_n hx hb d_Thing_accepts_12 rfl (lv_at hl 1 rfl) ?_
      refine lv_iload_n hx hb d_Thing_accepts_13 rfl (lv_at hl 2 rfl) ?_
      refine lv_icmp_gt (tgt := 29) hx hb d_Thing_accepts_14 (by decide) (fun c_14 => ?_) (fun c_14 => ?_)
      · have hno : ¬ ps_acc σ t a b tg := fun h => h.2.2.1 c_14
        refine lv_iconst (v := nI 0) hx hb d_Thing_accepts_29 (by decide) ?_
        rw [hQ]
        exact W.zret (v := nI 0) (ty := .boolean) hx hb hr (by decide +kernel) (fun zt ht _ => ⟨_, rfl, Or.inr ⟨rfl, hno⟩, ht⟩) (fun q h => absurd h List.not_mem_nil) d_Thing_accepts_30
      · refine lv_iload_n hx hb d_Thing_accepts_17 rfl (lv_at hl 2 rfl) ?_
        refine lv_aload_n hx hb d_Thing_accepts_18 rfl (lv_at hl 0 rfl) ?_
        refine ps_get (v := .int (σ.1 (9 + t) 1)) hx hb hT i_Thing hown hK hP (k := 9 + t) (by omega) (ps_E_th ht6) rfl 1 (by decide) (hT _ fl_Thing_18) (fun _ h9 => h9) rfl d_Thing_accepts_19 ?_
        refine lv_icmp_ge (tgt := 29) hx hb d_Thing_accepts_22 (by decide) (fun c_22 => ?_) (fun c_22 => ?_)
        · have hno : ¬ ps_acc σ t a b tg := fun h => h.2.2.2 c_22
          refine lv_iconst (v := nI 0) hx hb d_Thing_accepts_29 (by decide) ?_
          rw [hQ]
          exact W.zret (v := nI 0) (ty := .boolean) hx hb hr (by decide +kernel) (fun zt ht _ => ⟨_, rfl, Or.inr ⟨rfl, hno⟩, ht⟩) (fun q h => absurd h List.not_mem_nil) d_Thing_accepts_30
        · refine lv_iconst (v := nI 1) hx hb d_Thing_accepts_25 (by decide) ?_
          refine lv_goto (tgt := 30) hx hb d_Thing_accepts_26 (by decide) ?_
          rw [hQ]
          exact W.zret (v := nI 1) (ty := .boolean) hx hb hr (by decide +kernel) (fun zt ht _ => ⟨_, rfl, Or.inl ⟨rfl, c_5, c_9, c_14, c_22⟩, ht⟩) (fun q h => absurd h List.not_mem_nil) d_Thing_accepts_30

def rm_Thing_describe : Room := { frames := 1, cells := 0, slots := 0, locals := 21 }
abbrev ws_Thing_describe : List Cond := .code y_Thing_describe b_Thing_describe 3 none :: ps_tb
set_option maxHeartbeats 4000000 in
set_option maxRecDepth 100000 in
theorem c_Thing_describe {l : Launch} {D : va_G} {g : Nat → Nat} {cI cJ cT : ClassId} {σ : ps_σ} (hg : ps_inj 33 g) (t : Nat) (ht6 : t < 6) (ln tg : Int32) : Met l y_Thing_describe ws_Thing_describe rm_Thing_describe (ps_Pc D ps_cl (ps_tys cI cJ cT) 33 g (ps_E g cI cJ cT σ) [.ref (g (9 + t)), .int ln, .int tg]) (ps_Qv (S := ps_σ) D ps_cl 33 g (fun u => ps_E g cI cJ cT u) (fun u => ∃ f : Nat → Int64, u = ps_upI (ps_upI (ps_upB σ (24 + t) f) (9 + t) 1 ln) (9 + t) 2 tg ∧ (((ln = σ.1 (9 + t) 1 ∧ tg = σ.1 (9 + t) 2) ∧ f = σ.2.2.2 (24 + t)) ∨ (¬ (ln = σ.1 (9 + t) 1 ∧ tg = σ.1 (9 + t) 2) ∧ ∀ j, j < 64 → f j = 0)))) 0 0 (ps_wA 33 g) := by
  refine ps_met (by decide) ?_
  intro p e s m args below meth c hx hb hr hml hts hown hlocks hname hv Q hQ
  obtain ⟨ha, hP, hK⟩ := hv
  have hT : ∀ w ∈ ps_tb, w.before args s = true := fun w h => hts w (List.mem_cons_of_mem _ h)
  have hown : s.vm.findClass R_Thing = some m.cls := hown
  have hS : va_S (ps_wA 33 g) s.heap s.heap [] := va_S.rf
  refine ps_enter ha (Nat.le_of_ble_eq_true rfl) (fun ls hl => ?_)
  have hl : lv_has ls 3 [(0, .ref (g (9 + t))), (1, .int ln), (2, .int tg)] := hl
  refine lv_iload_n hx hb d_Thing_describe_0 rfl (lv_at hl 1 rfl) ?_
  refine lv_aload_n hx hb d_Thing_describe_1 rfl (lv_at hl 0 rfl) ?_
  refine ps_get (v := .int (σ.1 (9 + t) 1)) hx hb hT i_Thing hown hK hP (k := 9 + t) (by omega) (ps_E_th ht6) rfl 1 (by decide) (hT _ fl_Thing_18) (fun _ h9 => h9) rfl d_Thing_describe_2 ?_
  refine lv_icmp_ne (tgt := 16) hx hb d_Thing_describe_5 (by decide) (fun c_5 => ?_) (fun c_5 => ?_)
  · have hno : ¬ (ln = σ.1 (9 + t) 1 ∧ tg = σ.1 (9 + t) 2) := fun h => c_5 h.1
    refine lv_aload_n hx hb d_Thing_describe_16 rfl (lv_at hl 0 rfl) ?_
    refine ps_get (v := .ref (g (15 + t))) hx hb hT i_Thing hown hK hP (k := 9 + t) (by omega) (ps_E_th ht6) rfl 0 (by decide) (hT _ fl_Thing_12) (fun _ h9 => h9) rfl d_Thing_describe_17 ?_
    refine ps_wrv (k := 15 + t) (As := []) (rest := []) ⟨hx, hb, hml, hown, hT⟩ (c_Places_clear (σ := σ) hg t (by omega)) (cwV 0 hT (ps_gV ml_Thing_29 im_Places_clear se_Places_clear in_Places co_Places_clear) rfl rfl rfl cd_Places_clear ⟨Nat.le_of_ble_eq_true rfl, Nat.le_of_ble_eq_true rfl⟩) hK hP hS (fun _ h => h) (by omega) (ps_E_pl (by omega)) rfl rfl hl.1 rfl (Nat.le_of_ble_eq_true rfl) d_Thing_describe_20 ⟨Nat.zero_le _, Nat.zero_le _⟩ (fun f6 H locs hf6 hP hS _ => ?_)
    refine lv_aload_n hx hb d_Thing_describe_23 rfl (lv_at hl 0 rfl) ?_
    refine lv_iload_n hx hb d_Thing_describe_24 rfl (lv_at hl 1 rfl) ?_
    refine ps_put (ci := 3) (fs := [.ref (g (15 + t)), .int (σ.1 (9 + t) 1), .int (σ.1 (9 + t) 2), .long (σ.2.1 (9 + t))]) (v := .int ln) (ty := .int) hx hb hT i_Thing t_Thing t_Thing_ok n_Thing hown hK hg hP hS (k := 9 + t) (by omega) (by rw [ps_E_th ht6]; simp [ps_upI, ps_upU, ps_upA, ps_upB, va_up]) rfl 1 (by decide) (hT _ fl_Thing_18) (fun _ h9 => h9) rfl (by decide +kernel) rfl rfl (Nat.le_of_ble_eq_true rfl) d_Thing_describe_25 (ps_E g cI cJ cT (ps_upI (ps_upB σ (24 + t) f6) (9 + t) 1 ln)) (by rw [ps_E_th ht6]; simp [ps_upI, ps_upU, ps_upA, ps_upB, va_up]) (fun i _ h => by apply ps_E_ext <;> first | rfl | simp [ps_upI, ps_upU, ps_upA, ps_upB, va_up, h]) (fun H locs hP hS => ?_)
    refine lv_aload_n hx hb d_Thing_describe_28 rfl (lv_at hl 0 rfl) ?_
    refine lv_iload_n hx hb d_Thing_describe_29 rfl (lv_at hl 2 rfl) ?_
    refine ps_put (ci := 3) (fs := [.ref (g (15 + t)), .int (ln), .int (σ.1 (9 + t) 2), .long (σ.2.1 (9 + t))]) (v := .int tg) (ty := .int) hx hb hT i_Thing t_Thing t_Thing_ok n_Thing hown hK hg hP hS (k := 9 + t) (by omega) (by rw [ps_E_th ht6]; simp [ps_upI, ps_upU, ps_upA, ps_upB, va_up]) rfl 2 (by decide) (hT _ fl_Thing_22) (fun _ h9 => h9) rfl (by decide +kernel) rfl rfl (Nat.le_of_ble_eq_true rfl) d_Thing_describe_30 (ps_E g cI cJ cT (ps_upI (ps_upI (ps_upB σ (24 + t) f6) (9 + t) 1 ln) (9 + t) 2 tg)) (by rw [ps_E_th ht6]; simp [ps_upI, ps_upU, ps_upA, ps_upB, va_up]) (fun i _ h => by apply ps_E_ext <;> first | rfl | simp [ps_upI, ps_upU, ps_upA, ps_upB, va_up, h]) (fun H locs hP hS => ?_)
    rw [hQ]
    exact W.vret hx hb hr (fun zt ht _ => ⟨⟨(ps_upI (ps_upI (ps_upB σ (24 + t) f6) (9 + t) 1 ln) (9 + t) 2 tg), rfl, ⟨f6, rfl, Or.inr ⟨hno, hf6⟩⟩, ps_hp ht hP⟩, hS.F ht⟩) hS.2.2 d_Thing_describe_33
  · refine lv_iload_n hx hb d_Thing_describe_8 rfl (lv_at hl 2 rfl) ?_
    refine lv_aload_n hx hb d_Thing_describe_9 rfl (lv_at hl 0 rfl) ?_
    refine ps_get (v := .int (σ.1 (9 + t) 2)) hx hb hT i_Thing hown hK hP (k := 9 + t) (by omega) (ps_E_th ht6) rfl 2 (by decide) (hT _ fl_Thing_22) (fun _ h9 => h9) rfl d_Thing_describe_10 ?_
    refine lv_icmp_eq (tgt := 23) hx hb d_Thing_describe_13 (by decide) (fun c_13 => ?_) (fun c_13 => ?_)
    · refine lv_aload_n hx hb d_Thing_describe_23 rfl (lv_at hl 0 rfl) ?_
      refine lv_iload_n hx hb d_Thing_describe_24 rfl (lv_at hl 1 rfl) ?_
      refine ps_put (v := .int ln) (ty := .int) hx hb hT i_Thing t_Thing t_Thing_ok n_Thing hown hK hg hP hS (k := 9 + t) (by omega) (ps_E_th ht6) rfl 1 (by decide) (hT _ fl_Thing_18) (fun _ h9 => h9) rfl (by decide +kernel) rfl rfl (Nat.le_of_ble_eq_true rfl) d_Thing_describe_25 (ps_E g cI cJ cT (ps_upI σ (9 + t) 1 ln)) (by rw [ps_E_th ht6]; simp [ps_upI, ps_upU, ps_upA, ps_upB, va_up]) (fun i _ h => by apply ps_E_ext <;> first | rfl | simp [ps_upI, ps_upU, ps_upA, ps_upB, va_up, h]) (fun H locs hP hS => ?_)
      refine lv_aload_n hx hb d_Thing_describe_28 rfl (lv_at hl 0 rfl) ?_
      refine lv_iload_n hx hb d_Thing_describe_29 rfl (lv_at hl 2 rfl) ?_
      refine ps_put (ci := 3) (fs := [.ref (g (15 + t)), .int (ln), .int (σ.1 (9 + t) 2), .long (σ.2.1 (9 + t))]) (v := .int tg) (ty := .int) hx hb hT i_Thing t_Thing t_Thing_ok n_Thing hown hK hg hP hS (k := 9 + t) (by omega) (by rw [ps_E_th ht6]; simp [ps_upI, ps_upU, ps_upA, ps_upB, va_up]) rfl 2 (by decide) (hT _ fl_Thing_22) (fun _ h9 => h9) rfl (by decide +kernel) rfl rfl (Nat.le_of_ble_eq_true rfl) d_Thing_describe_30 (ps_E g cI cJ cT (ps_upI (ps_upI σ (9 + t) 1 ln) (9 + t) 2 tg)) (by rw [ps_E_th ht6]; simp [ps_upI, ps_upU, ps_upA, ps_upB, va_up]) (fun i _ h => by apply ps_E_ext <;> first | rfl | simp [ps_upI, ps_upU, ps_upA, ps_upB, va_up, h]) (fun H locs hP hS => ?_)
      rw [hQ]
      exact W.vret hx hb hr (fun zt ht _ => ⟨⟨(ps_upI (ps_upI σ (9 + t) 1 ln) (9 + t) 2 tg), rfl, ⟨σ.2.2.2 (24 + t), by rw [ps_upB_self], Or.inl ⟨⟨c_5, c_13⟩, rfl⟩⟩, ps_hp ht hP⟩, hS.F ht⟩) hS.2.2 d_Thing_describe_33
    · have hno : ¬ (ln = σ.1 (9 + t) 1 ∧ tg = σ.1 (9 + t) 2) := fun h => c_13 h.2
      refine lv_aload_n hx hb d_Thing_describe_16 rfl (lv_at hl 0 rfl) ?_
      refine ps_get (v := .ref (g (15 + t))) hx hb hT i_Thing hown hK hP (k := 9 + t) (by omega) (ps_E_th ht6) rfl 0 (by decide) (hT _ fl_Thing_12) (fun _ h9 => h9) rfl d_Thing_describe_17 ?_
      refine ps_wrv (k := 15 + t) (As := []) (rest := []) ⟨hx, hb, hml, hown, hT⟩ (c_Places_clear (σ := σ) hg t (by omega)) (cwV 0 hT (ps_gV ml_Thing_29 im_Places_clear se_Places_clear in_Places co_Places_clear) rfl rfl rfl cd_Places_clear ⟨Nat.le_of_ble_eq_true rfl, Nat.le_of_ble_eq_true rfl⟩) hK hP hS (fun _ h => h) (by omega) (ps_E_pl (by omega)) rfl rfl hl.1 rfl (Nat.le_of_ble_eq_true rfl) d_Thing_describe_20 ⟨Nat.zero_le _, Nat.zero_le _⟩ (fun f6 H locs hf6 hP hS _ => ?_)
      refine lv_aload_n hx hb d_Thing_describe_23 rfl (lv_at hl 0 rfl) ?_
      refine lv_iload_n hx hb d_Thing_describe_24 rfl (lv_at hl 1 rfl) ?_
      refine ps_put (ci := 3) (fs := [.ref (g (15 + t)), .int (σ.1 (9 + t) 1), .int (σ.1 (9 + t) 2), .long (σ.2.1 (9 + t))]) (v := .int ln) (ty := .int) hx hb hT i_Thing t_Thing t_Thing_ok n_Thing hown hK hg hP hS (k := 9 + t) (by omega) (by rw [ps_E_th ht6]; simp [ps_upI, ps_upU, ps_upA, ps_upB, va_up]) rfl 1 (by decide) (hT _ fl_Thing_18) (fun _ h9 => h9) rfl (by decide +kernel) rfl rfl (Nat.le_of_ble_eq_true rfl) d_Thing_describe_25 (ps_E g cI cJ cT (ps_upI (ps_upB σ (24 + t) f6) (9 + t) 1 ln)) (by rw [ps_E_th ht6]; simp [ps_upI, ps_upU, ps_upA, ps_upB, va_up]) (fun i _ h => by apply ps_E_ext <;> first | rfl | simp [ps_upI, ps_upU, ps_upA, ps_upB, va_up, h]) (fun H locs hP hS => ?_)
      refine lv_aload_n hx hb d_Thing_describe_28 rfl (lv_at hl 0 rfl) ?_
      refine lv_iload_n hx hb d_Thing_describe_29 rfl (lv_at hl 2 rfl) ?_
      refine ps_put (ci := 3) (fs := [.ref (g (15 + t)), .int (ln), .int (σ.1 (9 + t) 2), .long (σ.2.1 (9 + t))]) (v := .int tg) (ty := .int) hx hb hT i_Thing t_Thing t_Thing_ok n_Thing hown hK hg hP hS (k := 9 + t) (by omega) (by rw [ps_E_th ht6]; simp [ps_upI, ps_upU, ps_upA, ps_upB, va_up]) rfl 2 (by decide) (hT _ fl_Thing_22) (fun _ h9 => h9) rfl (by decide +kernel) rfl rfl (Nat.le_of_ble_eq_true rfl) d_Thing_describe_30 (ps_E g cI cJ cT (ps_upI (ps_upI (ps_upB σ (24 + t) f6) (9 + t) 1 ln) (9 + t) 2 tg)) (by rw [ps_E_th ht6]; simp [ps_upI, ps_upU, ps_upA, ps_upB, va_up]) (fun i _ h => by apply ps_E_ext <;> first | rfl | simp [ps_upI, ps_upU, ps_upA, ps_upB, va_up, h]) (fun H locs hP hS => ?_)
      rw [hQ]
      exact W.vret hx hb hr (fun zt ht _ => ⟨⟨(ps_upI (ps_upI (ps_upB σ (24 + t) f6) (9 + t) 1 ln) (9 + t) 2 tg), rfl, ⟨f6, rfl, Or.inr ⟨hno, hf6⟩⟩, ps_hp ht hP⟩, hS.F ht⟩) hS.2.2 d_Thing_describe_33

def rm_Thing_lose : Room := { frames := 1, cells := 0, slots := 0, locals := 21 }
abbrev ws_Thing_lose : List Cond := .code y_Thing_lose b_Thing_lose 1 none :: ps_tb
set_option maxHeartbeats 4000000 in
set_option maxRecDepth 100000 in
theorem c_Thing_lose {l : Launch} {D : va_G} {g : Nat → Nat} {cI cJ cT : ClassId} {σ : ps_σ} (hg : ps_inj 33 g) (t : Nat) (ht6 : t < 6) : Met l y_Thing_lose ws_Thing_lose rm_Thing_lose (ps_Pc D ps_cl (ps_tys cI cJ cT) 33 g (ps_E g cI cJ cT σ) [.ref (g (9 + t))]) (ps_Qv (S := ps_σ) D ps_cl 33 g (fun u => ps_E g cI cJ cT u) (fun u => ∃ f : Nat → Int64, u = ps_upB (ps_upI σ (9 + t) 1 (-1)) (24 + t) f ∧ ∀ j, j < 64 → f j = 0)) 0 0 (ps_wA 33 g) := by
  refine ps_met (by decide) ?_
  intro p e s m args below meth c hx hb hr hml hts hown hlocks hname hv Q hQ
  obtain ⟨ha, hP, hK⟩ := hv
  have hT : ∀ w ∈ ps_tb, w.before args s = true := fun w h => hts w (List.mem_cons_of_mem _ h)
  have hown : s.vm.findClass R_Thing = some m.cls := hown
  have hS : va_S (ps_wA 33 g) s.heap s.heap [] := va_S.rf
  refine ps_enter ha (Nat.le_of_ble_eq_true rfl) (fun ls hl => ?_)
  have hl : lv_has ls 1 [(0, .ref (g (9 + t)))] := hl
  refine lv_aload_n hx hb d_Thing_lose_0 rfl (lv_at hl 0 rfl) ?_
  refine lv_iconst (v := -1) hx hb d_Thing_lose_1 (by decide) ?_
  refine ps_put (v := .int (-1)) (ty := .int) hx hb hT i_Thing t_Thing t_Thing_ok n_Thing hown hK hg hP hS (k := 9 + t) (by omega) (ps_E_th ht6) rfl 1 (by decide) (hT _ fl_Thing_18) (fun _ h9 => h9) rfl (by decide +kernel) rfl rfl (Nat.le_of_ble_eq_true rfl) d_Thing_lose_2 (ps_E g cI cJ cT (ps_upI σ (9 + t) 1 (-1))) (by rw [ps_E_th ht6]; simp [ps_upI, ps_upU, ps_upA, ps_upB, va_up]) (fun i _ h => by apply ps_E_ext <;> first | rfl | simp [ps_upI, ps_upU, ps_upA, ps_upB, va_up, h]) (fun H locs hP hS => ?_)
  refine lv_aload_n hx hb d_Thing_lose_5 rfl (lv_at hl 0 rfl) ?_
  refine ps_get (ci := 3) (fs := [.ref (g (15 + t)), .int (-1), .int (σ.1 (9 + t) 2), .long (σ.2.1 (9 + t))]) (v := .ref (g (15 + t))) hx hb hT i_Thing hown hK hP (k := 9 + t) (by omega) (by rw [ps_E_th ht6]; simp [ps_upI, ps_upU, ps_upA, ps_upB, va_up]) rfl 0 (by decide) (hT _ fl_Thing_12) (fun _ h9 => h9) rfl d_Thing_lose_6 ?_
  refine ps_wrv (k := 15 + t) (As := []) (rest := []) ⟨hx, hb, hml, hown, hT⟩ (c_Places_clear (σ := (ps_upI σ (9 + t) 1 (-1))) hg t (by omega)) (cwV 0 hT (ps_gV ml_Thing_29 im_Places_clear se_Places_clear in_Places co_Places_clear) rfl rfl rfl cd_Places_clear ⟨Nat.le_of_ble_eq_true rfl, Nat.le_of_ble_eq_true rfl⟩) hK hP hS (fun _ h => h) (by omega) (ps_E_pl (by omega)) rfl rfl hl.1 rfl (Nat.le_of_ble_eq_true rfl) d_Thing_lose_9 ⟨Nat.zero_le _, Nat.zero_le _⟩ (fun f6 H locs hf6 hP hS _ => ?_)
  rw [hQ]
  exact W.vret hx hb hr (fun zt ht _ => ⟨⟨(ps_upB (ps_upI σ (9 + t) 1 (-1)) (24 + t) f6), rfl, ⟨f6, rfl, hf6⟩, ps_hp ht hP⟩, hS.F ht⟩) hS.2.2 d_Thing_lose_12

def rm_Thing_firstMissing : Room := { frames := 3, cells := 0, slots := 0, locals := 69 }
abbrev ws_Thing_firstMissing : List Cond := .code y_Thing_firstMissing b_Thing_firstMissing 2 (some .int) :: ps_tb
set_option maxHeartbeats 4000000 in
set_option maxRecDepth 100000 in
theorem c_Thing_firstMissing {l : Launch} {D : va_G} {g : Nat → Nat} {cI cJ cT : ClassId} {σ : ps_σ} (t : Nat) (ht6 : t < 6) : Met l y_Thing_firstMissing ws_Thing_firstMissing rm_Thing_firstMissing (ps_Pc D ps_cl (ps_tys cI cJ cT) 33 g (ps_E g cI cJ cT σ) [.ref (g (9 + t))]) (vp_Si (fun r => r = if nI (ps_nx (ps_hs (σ.2.2.2 (24 + t))) false 0) < σ.1 (9 + t) 1 then nI (ps_nx (ps_hs (σ.2.2.2 (24 + t))) false 0) else -1)) 0 0 (fun _ => False) := by
  refine ps_met (by decide) ?_
  intro p e s m args below meth c hx hb hr hml hts hown hlocks hname hv Q hQ
  obtain ⟨ha, hP, hK⟩ := hv
  have hT : ∀ w ∈ ps_tb, w.before args s = true := fun w h => hts w (List.mem_cons_of_mem _ h)
  have hown : s.vm.findClass R_Thing = some m.cls := hown
  refine ps_enter ha (Nat.le_of_ble_eq_true rfl) (fun ls hl => ?_)
  have hl : lv_has ls 2 [(0, .ref (g (9 + t)))] := hl
  refine lv_aload_n hx hb d_Thing_firstMissing_0 rfl (lv_at hl 0 rfl) ?_
  refine ps_get (v := .ref (g (15 + t))) hx hb hT i_Thing hown hK hP (k := 9 + t) (by omega) (ps_E_th ht6) rfl 0 (by decide) (hT _ fl_Thing_12) (fun _ h9 => h9) rfl d_Thing_firstMissing_1 ?_
  refine lv_iconst (v := nI 0) hx hb d_Thing_firstMissing_4 (by decide) ?_
  refine lv_iconst (v := nI 0) hx hb d_Thing_firstMissing_5 (by decide) ?_
  refine ps_roi (k := 15 + t) (As := [.int (nI 0), .int (nI 0)]) (rest := []) ⟨hx, hb, hml, hown, hT⟩ (c_Places_next t (by omega) 0 (by omega) false) (cwV 2 hT (ps_gV ml_Thing_32 im_Places_next se_Places_next in_Places co_Places_next) rfl rfl rfl cd_Places_next ⟨Nat.le_of_ble_eq_true rfl, Nat.le_of_ble_eq_true rfl⟩) hK hP (by omega) (ps_E_pl (by omega)) rfl rfl hl.1 rfl (Nat.le_of_ble_eq_true rfl) d_Thing_firstMissing_6 ⟨Nat.zero_le _, Nat.zero_le _⟩ (fun rr hrr => ?_)
  refine lv_istore_n (lv' := [(1, .int rr), (0, .ref (g (9 + t)))]) hx hb d_Thing_firstMissing_9 rfl hl (by decide) rfl (fun ls hl => ?_)
  refine lv_iload_n hx hb d_Thing_firstMissing_10 rfl (lv_at hl 0 rfl) ?_
  refine lv_aload_n hx hb d_Thing_firstMissing_11 rfl (lv_at hl 1 rfl) ?_
  refine ps_get (v := .int (σ.1 (9 + t) 1)) hx hb hT i_Thing hown hK hP (k := 9 + t) (by omega) (ps_E_th ht6) rfl 1 (by decide) (hT _ fl_Thing_18) (fun _ h9 => h9) rfl d_Thing_firstMissing_12 ?_
  refine lv_icmp_ge (tgt := 22) hx hb d_Thing_firstMissing_15 (by decide) (fun c_15 => ?_) (fun c_15 => ?_)
  · refine lv_iconst (v := -1) hx hb d_Thing_firstMissing_22 (by decide) ?_
    rw [hQ]
    exact W.iret (v := -1) hx hb hr (fun zt ht _ => ⟨_, rfl, by rw [← hrr, if_neg (Int32.not_lt.mpr c_15)], ht⟩) (fun q h => absurd h List.not_mem_nil) d_Thing_firstMissing_23
  · refine lv_iload_n hx hb d_Thing_firstMissing_18 rfl (lv_at hl 0 rfl) ?_
    refine lv_goto (tgt := 23) hx hb d_Thing_firstMissing_19 (by decide) ?_
    rw [hQ]
    exact W.iret (v := rr) hx hb hr (fun zt ht _ => ⟨_, rfl, by rw [← hrr, if_pos (Int32.not_le.mp c_15)], ht⟩) (fun q h => absurd h List.not_mem_nil) d_Thing_firstMissing_23
