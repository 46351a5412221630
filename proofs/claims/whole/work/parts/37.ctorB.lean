theorem ml_Tape_3 : (.methodLink R_Tape 3 objectInit : Cond) ∈ ps_tb := ps_in 31 (by decide +kernel) rfl
theorem ac_int : (.arrayClass .int : Cond) ∈ ps_tb := ps_in 45 (by decide +kernel) rfl
theorem ml_Thing_3 : (.methodLink R_Thing 3 objectInit : Cond) ∈ ps_tb := ps_in 52 (by decide +kernel) rfl
theorem ck_Thing_9 : (.classLink R_Thing 9 R_Places : Cond) ∈ ps_tb := ps_in 53 (by decide +kernel) rfl
theorem is_Places : (.instantiable R_Places 1 : Cond) ∈ ps_tb := ps_in 54 (by decide +kernel) rfl
theorem ml_Thing_11 : (.methodLink R_Thing 11 y_Places_init : Cond) ∈ ps_tb := ps_in 55 (by decide +kernel) rfl
theorem im_Places_init : (.instanceMethod y_Places_init : Cond) ∈ ps_tb := ps_in 56 (by decide +kernel) rfl
theorem co_Places_init : (.code y_Places_init b_Places_init 1 none : Cond) ∈ ps_tb := ps_in 57 (by decide +kernel) rfl
theorem fl_Thing_25 : (.fieldLink R_Thing 25 R_Thing "used" "J" : Cond) ∈ ps_tb := ps_in 69 (by decide +kernel) rfl
theorem ml_Reply_3 : (.methodLink R_Reply 3 objectInit : Cond) ∈ ps_tb := ps_in 85 (by decide +kernel) rfl
theorem ck_Reply_24 : (.classLink R_Reply 24 R_Places : Cond) ∈ ps_tb := ps_in 86 (by decide +kernel) rfl
theorem ml_Reply_26 : (.methodLink R_Reply 26 y_Places_init : Cond) ∈ ps_tb := ps_in 87 (by decide +kernel) rfl
theorem cd_Places_init : y_Places_init.cls ≠ "java/lang/invoke/MethodHandle" ∧ y_Places_init.cls ≠ "java/lang/invoke/VarHandle" ∧ (parseMethodDescriptor y_Places_init.desc).map (fun d => d.parameters.length) = some 0 := by decide +kernel
def rm_Tape_init : Room := { frames := 1, cells := 3, slots := 72, locals := 20 }
abbrev ws_Tape_init : List Cond := .code y_Tape_init b_Tape_init 1 none :: ps_tb
set_option maxHeartbeats 4000000 in
set_option maxRecDepth 100000 in
theorem c_Tape_init {l : Launch} {D : va_G} {cI cJ cT : ClassId} (a0 sz : Nat) : Met l y_Tape_init ws_Tape_init rm_Tape_init (ps_Cc D ps_cl (ps_tys cI cJ cT) 1 [.null, .int 0, .null, .null] a0 sz) (ps_Cq D ps_cl a0 sz (fun g => [(g 0, .inr (1, [.ref (g 1), .int (nI 0), .ref (g 2), .ref (g 3)])), (g 1, .inl (cI, 60, .inl (fun _ => 0))), (g 2, .inl (cI, 6, .inl (fun _ => 0))), (g 3, .inl (cI, 6, .inl (fun _ => 0)))])) 3 72 (ps_A a0 sz) := by
  refine ps_met (by decide) ?_
  intro p e s m args below meth c hx hb hr hml hts hown hlocks hname hv Q hQ
  obtain ⟨ha, hsz, hP, hK⟩ := hv
  subst hsz
  have hT : ∀ w ∈ ps_tb, w.before args s = true := fun w h => hts w (List.mem_cons_of_mem _ h)
  have hown : s.vm.findClass R_Tape = some m.cls := hown
  have hname : meth.name = "<init>" := hname
  obtain ⟨A, hAe⟩ : ∃ A, A = ps_A a0 s.heap.size := ⟨_, rfl⟩
  rw [← hAe] at hQ
  have hA : ∀ q : Nat, s.heap.size ≤ q → A q := fun q h => by rw [hAe]; exact Or.inr h
  have hS : va_S A s.heap s.heap [] := va_S.rf
  have hD : va_D A [(a0, .inr (1, [.null, .int 0, .null, .null]))] := ps_D1 (by rw [hAe]; exact Or.inl rfl)
  refine ps_enter ha (Nat.le_of_ble_eq_true rfl) (fun ls hl => ?_)
  have hl : lv_has ls 1 [(0, .ref a0)] := hl
  refine lv_aload_n hx hb d_Tape_init_0 rfl (lv_at hl 0 rfl) ?_
  refine W.objInit hx hb hown (hT _ ml_Tape_3) (hT _ im_objectInit) (hT _ co_objectInit) rfl (by rw [hml]; exact hl.1) rfl d_Tape_init_1 (Nat.le_of_ble_eq_true rfl) (Nat.le_of_ble_eq_true rfl) ?_
  refine W.eq (g2 := F0 m 4 ls []) rfl ?_
  refine lv_aload_n hx hb d_Tape_init_4 rfl (lv_at hl 0 rfl) ?_
  refine lv_bipush (v := nI 60) hx hb d_Tape_init_5 (by decide) ?_
  refine ps_newa (atype := .int) (ty := .int) (a0 := (60, .inl (fun _ => 0))) (N' := 60) hx hb (hT _ ac_int) rfl hK (t0 := 0) rfl hP hD hS hA (fun _ => rfl) (by decide) (by decide) (by decide) (Nat.le_of_ble_eq_true rfl) (Nat.le_of_ble_eq_true rfl) d_Tape_init_7 (fun q1 H hP hD hS => ?_)
  have hP : va_P D ps_cl [(a0, .inr (1, [.null, .int 0, .null, .null])), (q1, .inl (cI, 60, .inl (fun _ => 0)))] H := hP
  have hD : va_D A [(a0, .inr (1, [.null, .int 0, .null, .null])), (q1, .inl (cI, 60, .inl (fun _ => 0)))] := hD
  refine va_putF (D := D) (ci := 1) (v := .ref q1) (ty := .array .int) (C := R_Tape) (T := F_Tape) (N := 4) hx hb hT i_Tape t_Tape t_Tape_ok n_Tape hown hK hP hD hS 0 rfl rfl 0 (by decide) (hT _ fl_Tape_11) (fun _ h9 => h9) rfl hname rfl (by decide +kernel) rfl rfl (Nat.le_of_ble_eq_true rfl) d_Tape_init_9 (fun H locs hP hD hS => ?_)
  have hP : va_P D ps_cl [(a0, .inr (1, [.ref q1, .int 0, .null, .null])), (q1, .inl (cI, 60, .inl (fun _ => 0)))] H := hP
  have hD : va_D A [(a0, .inr (1, [.ref q1, .int 0, .null, .null])), (q1, .inl (cI, 60, .inl (fun _ => 0)))] := hD
  refine lv_aload_n hx hb d_Tape_init_12 rfl (lv_at hl 0 rfl) ?_
  refine lv_iconst (v := nI 0) hx hb d_Tape_init_13 (by decide) ?_
  refine va_put (D := D) (ci := 1) (v := .int (nI 0)) (ty := .int) (C := R_Tape) (T := F_Tape) (N := 4) hx hb hT i_Tape t_Tape t_Tape_ok n_Tape hown hK hP hD hS 0 rfl rfl 1 (by decide) (hT _ fl_Tape_15) (fun _ h9 => h9) rfl (by decide +kernel) rfl rfl (Nat.le_of_ble_eq_true rfl) d_Tape_init_14 (fun H locs hP hD hS => ?_)
  have hP : va_P D ps_cl [(a0, .inr (1, [.ref q1, .int (nI 0), .null, .null])), (q1, .inl (cI, 60, .inl (fun _ => 0)))] H := hP
  have hD : va_D A [(a0, .inr (1, [.ref q1, .int (nI 0), .null, .null])), (q1, .inl (cI, 60, .inl (fun _ => 0)))] := hD
  refine lv_aload_n hx hb d_Tape_init_17 rfl (lv_at hl 0 rfl) ?_
  refine lv_bipush (v := nI 6) hx hb d_Tape_init_18 (by decide) ?_
  refine ps_newa (atype := .int) (ty := .int) (a0 := (6, .inl (fun _ => 0))) (N' := 6) hx hb (hT _ ac_int) rfl hK (t0 := 0) rfl hP hD hS hA (fun _ => rfl) (by decide) (by decide) (by decide) (Nat.le_of_ble_eq_true rfl) (Nat.le_of_ble_eq_true rfl) d_Tape_init_20 (fun q2 H hP hD hS => ?_)
  have hP : va_P D ps_cl [(a0, .inr (1, [.ref q1, .int (nI 0), .null, .null])), (q1, .inl (cI, 60, .inl (fun _ => 0))), (q2, .inl (cI, 6, .inl (fun _ => 0)))] H := hP
  have hD : va_D A [(a0, .inr (1, [.ref q1, .int (nI 0), .null, .null])), (q1, .inl (cI, 60, .inl (fun _ => 0))), (q2, .inl (cI, 6, .inl (fun _ => 0)))] := hD
  refine va_putF (D := D) (ci := 1) (v := .ref q2) (ty := .array .int) (C := R_Tape) (T := F_Tape) (N := 4) hx hb hT i_Tape t_Tape t_Tape_ok n_Tape hown hK hP hD hS 0 rfl rfl 2 (by decide) (hT _ fl_Tape_19) (fun _ h9 => h9) rfl hname rfl (by decide +kernel) rfl rfl (Nat.le_of_ble_eq_true rfl) d_Tape_init_22 (fun H locs hP hD hS => ?_)
  have hP : va_P D ps_cl [(a0, .inr (1, [.ref q1, .int (nI 0), .ref q2, .null])), (q1, .inl (cI, 60, .inl (fun _ => 0))), (q2, .inl (cI, 6, .inl (fun _ => 0)))] H := hP
  have hD : va_D A [(a0, .inr (1, [.ref q1, .int (nI 0), .ref q2, .null])), (q1, .inl (cI, 60, .inl (fun _ => 0))), (q2, .inl (cI, 6, .inl (fun _ => 0)))] := hD
  refine lv_aload_n hx hb d_Tape_init_25 rfl (lv_at hl 0 rfl) ?_
  refine lv_bipush (v := nI 6) hx hb d_Tape_init_26 (by decide) ?_
  refine ps_newa (atype := .int) (ty := .int) (a0 := (6, .inl (fun _ => 0))) (N' := 6) hx hb (hT _ ac_int) rfl hK (t0 := 0) rfl hP hD hS hA (fun _ => rfl) (by decide) (by decide) (by decide) (Nat.le_of_ble_eq_true rfl) (Nat.le_of_ble_eq_true rfl) d_Tape_init_28 (fun q3 H hP hD hS => ?_)
  have hP : va_P D ps_cl [(a0, .inr (1, [.ref q1, .int (nI 0), .ref q2, .null])), (q1, .inl (cI, 60, .inl (fun _ => 0))), (q2, .inl (cI, 6, .inl (fun _ => 0))), (q3, .inl (cI, 6, .inl (fun _ => 0)))] H := hP
  have hD : va_D A [(a0, .inr (1, [.ref q1, .int (nI 0), .ref q2, .null])), (q1, .inl (cI, 60, .inl (fun _ => 0))), (q2, .inl (cI, 6, .inl (fun _ => 0))), (q3, .inl (cI, 6, .inl (fun _ => 0)))] := hD
  refine va_putF (D := D) (ci := 1) (v := .ref q3) (ty := .array .int) (C := R_Tape) (T := F_Tape) (N := 4) hx hb hT i_Tape t_Tape t_Tape_ok n_Tape hown hK hP hD hS 0 rfl rfl 3 (by decide) (hT _ fl_Tape_22) (fun _ h9 => h9) rfl hname rfl (by decide +kernel) rfl rfl (Nat.le_of_ble_eq_true rfl) d_Tape_init_30 (fun H locs hP hD hS => ?_)
  have hP : va_P D ps_cl [(a0, .inr (1, [.ref q1, .int (nI 0), .ref q2, .ref q3])), (q1, .inl (cI, 60, .inl (fun _ => 0))), (q2, .inl (cI, 6, .inl (fun _ => 0))), (q3, .inl (cI, 6, .inl (fun _ => 0)))] H := hP
  have hD : va_D A [(a0, .inr (1, [.ref q1, .int (nI 0), .ref q2, .ref q3])), (q1, .inl (cI, 60, .inl (fun _ => 0))), (q2, .inl (cI, 6, .inl (fun _ => 0))), (q3, .inl (cI, 6, .inl (fun _ => 0)))] := hD
  have hP9 := hP.sub (ws' := (fun g => [(g 0, .inr (1, [.ref (g 1), .int (nI 0), .ref (g 2), .ref (g 3)])), (g 1, .inl (cI, 60, .inl (fun _ => 0))), (g 2, .inl (cI, 6, .inl (fun _ => 0))), (g 3, .inl (cI, 6, .inl (fun _ => 0)))]) (ps_gl [a0, q1, q2, q3])) [0, 1, 2, 3] rfl
  have hD9 := hD.sub (ws' := (fun g => [(g 0, .inr (1, [.ref (g 1), .int (nI 0), .ref (g 2), .ref (g 3)])), (g 1, .inl (cI, 60, .inl (fun _ => 0))), (g 2, .inl (cI, 6, .inl (fun _ => 0))), (g 3, .inl (cI, 6, .inl (fun _ => 0)))]) (ps_gl [a0, q1, q2, q3])) [0, 1, 2, 3] (by decide) rfl
  refine W.widen (k := 3) (n := 72) (by decide) (by decide) ?_
  subst hAe
  rw [hQ]
  exact W.vret hx hb hr (fun zt ht _ => ⟨⟨ps_gl [a0, q1, q2, q3], rfl, rfl, by rw [ht]; exact hP9, hD9⟩, hS.F ht⟩) hS.2.2 d_Tape_init_33

def rm_Thing_init : Room := { frames := 2, cells := 2, slots := 65, locals := 40 }
abbrev ws_Thing_init : List Cond := .code y_Thing_init b_Thing_init 1 none :: ps_tb
set_option maxHeartbeats 4000000 in
set_option maxRecDepth 100000 in
theorem c_Thing_init {l : Launch} {D : va_G} {cI cJ cT : ClassId} (a0 sz : Nat) : Met l y_Thing_init ws_Thing_init rm_Thing_init (ps_Cc D ps_cl (ps_tys cI cJ cT) 3 [.null, .int 0, .int 0, .long 0] a0 sz) (ps_Cq D ps_cl a0 sz (fun g => [(g 0, .inr (3, [.ref (g 1), .int (-1), .int (nI 0), .long 0])), (g 1, .inr (4, [.ref (g 2)])), (g 2, .inl (cJ, 64, .inr (.inl (fun _ => 0))))])) 2 65 (ps_A a0 sz) := by
  refine ps_met (by decide) ?_
  intro p e s m args below meth c hx hb hr hml hts hown hlocks hname hv Q hQ
  obtain ⟨ha, hsz, hP, hK⟩ := hv
  subst hsz
  have hT : ∀ w ∈ ps_tb, w.before args s = true := fun w h => hts w (List.mem_cons_of_mem _ h)
  have hown : s.vm.findClass R_Thing = some m.cls := hown
  have hname : meth.name = "<init>" := hname
  obtain ⟨A, hAe⟩ : ∃ A, A = ps_A a0 s.heap.size := ⟨_, rfl⟩
  rw [← hAe] at hQ
  have hA : ∀ q : Nat, s.heap.size ≤ q → A q := fun q h => by rw [hAe]; exact Or.inr h
  have hS : va_S A s.heap s.heap [] := va_S.rf
  have hD : va_D A [(a0, .inr (3, [.null, .int 0, .int 0, .long 0]))] := ps_D1 (by rw [hAe]; exact Or.inl rfl)
  refine ps_enter ha (Nat.le_of_ble_eq_true rfl) (fun ls hl => ?_)
  have hl : lv_has ls 1 [(0, .ref a0)] := hl
  refine lv_aload_n hx hb d_Thing_init_0 rfl (lv_at hl 0 rfl) ?_
  refine W.objInit hx hb hown (hT _ ml_Thing_3) (hT _ im_objectInit) (hT _ co_objectInit) rfl (by rw [hml]; exact hl.1) rfl d_Thing_init_1 (Nat.le_of_ble_eq_true rfl) (Nat.le_of_ble_eq_true rfl) ?_
  refine W.eq (g2 := F0 m 4 ls []) rfl ?_
  refine lv_aload_n hx hb d_Thing_init_4 rfl (lv_at hl 0 rfl) ?_
  refine va_new (ci := 4) (fs := [.null]) (C := R_Places) (T := F_Places) (N := 1) hx hb hT i_Places t_Places t_Places_ok hown (hT _ ck_Thing_9) (hT _ is_Places) (hT _ in_Places) hK hP hD hS hA rfl (fun j hj => by rcases (show j = 0 by omega) with rfl <;> rfl) (Nat.le_of_ble_eq_true rfl) (Nat.le_of_ble_eq_true rfl) d_Thing_init_5 (fun q1 H hP hD hS => ?_)
  have hP : va_P D ps_cl [(a0, .inr (3, [.null, .int 0, .int 0, .long 0])), (q1, .inr (4, [.null]))] H := hP
  have hD : va_D A [(a0, .inr (3, [.null, .int 0, .int 0, .long 0])), (q1, .inr (4, [.null]))] := hD
  refine lv_dup hx hb d_Thing_init_8 rfl ?_
  refine ps_ctor (w0 := [(a0, .inr (3, [.null, .int 0, .int 0, .long 0]))]) (rest := [.ref q1, .ref a0]) ⟨hx, hb, hml, hown, hT⟩ (c_Places_init (cT := cT) (cI := cI) (cJ := cJ) q1 H.size) (cwI 0 hT (ps_gI co_Places_init) rfl rfl rfl (hT _ in_Places) (hT _ ml_Thing_11) (hT _ im_Places_init) rfl cd_Places_init ⟨Nat.le_of_ble_eq_true rfl, Nat.le_of_ble_eq_true rfl⟩) hK hP hD hS hA hl.1 (Nat.le_of_ble_eq_true rfl) d_Thing_init_9 ⟨Nat.le_of_ble_eq_true rfl, Nat.le_of_ble_eq_true rfl⟩ (fun g2 H locs hg2 hP hD hS => ?_)
  obtain ⟨q2, eq2⟩ : ∃ z, z = g2 1 := ⟨_, rfl⟩
  simp only [hg2, ← eq2] at hP hD
  have hP : va_P D ps_cl [(a0, .inr (3, [.null, .int 0, .int 0, .long 0])), (q1, .inr (4, [.ref q2])), (q2, .inl (cJ, 64, .inr (.inl (fun _ => 0))))] H := hP
  have hD : va_D A [(a0, .inr (3, [.null, .int 0, .int 0, .long 0])), (q1, .inr (4, [.ref q2])), (q2, .inl (cJ, 64, .inr (.inl (fun _ => 0))))] := hD
  refine va_putF (D := D) (ci := 3) (v := .ref q1) (ty := .object R_Places) (C := R_Thing) (T := F_Thing) (N := 4) hx hb hT i_Thing t_Thing t_Thing_ok n_Thing hown hK hP hD hS 0 rfl rfl 0 (by decide) (hT _ fl_Thing_12) (fun _ h9 => h9) rfl hname rfl (by decide +kernel) rfl rfl (Nat.le_of_ble_eq_true rfl) d_Thing_init_12 (fun H locs hP hD hS => ?_)
  have hP : va_P D ps_cl [(a0, .inr (3, [.ref q1, .int 0, .int 0, .long 0])), (q1, .inr (4, [.ref q2])), (q2, .inl (cJ, 64, .inr (.inl (fun _ => 0))))] H := hP
  have hD : va_D A [(a0, .inr (3, [.ref q1, .int 0, .int 0, .long 0])), (q1, .inr (4, [.ref q2])), (q2, .inl (cJ, 64, .inr (.inl (fun _ => 0))))] := hD
  refine lv_aload_n hx hb d_Thing_init_15 rfl (lv_at hl 0 rfl) ?_
  refine lv_iconst (v := -1) hx hb d_Thing_init_16 (by decide) ?_
  refine va_put (D := D) (ci := 3) (v := .int (-1)) (ty := .int) (C := R_Thing) (T := F_Thing) (N := 4) hx hb hT i_Thing t_Thing t_Thing_ok n_Thing hown hK hP hD hS 0 rfl rfl 1 (by decide) (hT _ fl_Thing_18) (fun _ h9 => h9) rfl (by decide +kernel) rfl rfl (Nat.le_of_ble_eq_true rfl) d_Thing_init_17 (fun H locs hP hD hS => ?_)
  have hP : va_P D ps_cl [(a0, .inr (3, [.ref q1, .int (-1), .int 0, .long 0])), (q1, .inr (4, [.ref q2])), (q2, .inl (cJ, 64, .inr (.inl (fun _ => 0))))] H := hP
  have hD : va_D A [(a0, .inr (3, [.ref q1, .int (-1), .int 0, .long 0])), (q1, .inr (4, [.ref q2])), (q2, .inl (cJ, 64, .inr (.inl (fun _ => 0))))] := hD
  refine lv_aload_n hx hb d_Thing_init_20 rfl (lv_at hl 0 rfl) ?_
  refine lv_iconst (v := nI 0) hx hb d_Thing_init_21 (by decide) ?_
  refine va_put (D := D) (ci := 3) (v := .int (nI 0)) (ty := .int) (C := R_Thing) (T := F_Thing) (N := 4) hx hb hT i_Thing t_Thing t_Thing_ok n_Thing hown hK hP hD hS 0 rfl rfl 2 (by decide) (hT _ fl_Thing_22) (fun _ h9 => h9) rfl (by decide +kernel) rfl rfl (Nat.le_of_ble_eq_true rfl) d_Thing_init_22 (fun H locs hP hD hS => ?_)
  have hP : va_P D ps_cl [(a0, .inr (3, [.ref q1, .int (-1), .int (nI 0), .long 0])), (q1, .inr (4, [.ref q2])), (q2, .inl (cJ, 64, .inr (.inl (fun _ => 0))))] H := hP
  have hD : va_D A [(a0, .inr (3, [.ref q1, .int (-1), .int (nI 0), .long 0])), (q1, .inr (4, [.ref q2])), (q2, .inl (cJ, 64, .inr (.inl (fun _ => 0))))] := hD
  refine lv_aload_n hx hb d_Thing_init_25 rfl (lv_at hl 0 rfl) ?_
  refine lv_lconst (v := 0) hx hb d_Thing_init_26 (by decide) ?_
  refine va_put (D := D) (ci := 3) (v := .long (0 : Int64)) (ty := .long) (C := R_Thing) (T := F_Thing) (N := 4) hx hb hT i_Thing t_Thing t_Thing_ok n_Thing hown hK hP hD hS 0 rfl rfl 3 (by decide) (hT _ fl_Thing_25) (fun _ h9 => h9) rfl (by decide +kernel) rfl rfl (Nat.le_of_ble_eq_true rfl) d_Thing_init_27 (fun H locs hP hD hS => ?_)
  have hP : va_P D ps_cl [(a0, .inr (3, [.ref q1, .int (-1), .int (nI 0), .long (0 : Int64)])), (q1, .inr (4, [.ref q2])), (q2, .inl (cJ, 64, .inr (.inl (fun _ => 0))))] H := hP
  have hD : va_D A [(a0, .inr (3, [.ref q1, .int (-1), .int (nI 0), .long (0 : Int64)])), (q1, .inr (4, [.ref q2])), (q2, .inl (cJ, 64, .inr (.inl (fun _ => 0))))] := hD
  have hP9 := hP.sub (ws' := (fun g => [(g 0, .inr (3, [.ref (g 1), .int (-1), .int (nI 0), .long 0])), (g 1, .inr (4, [.ref (g 2)])), (g 2, .inl (cJ, 64, .inr (.inl (fun _ => 0))))]) (ps_gl [a0, q1, q2])) [0, 1, 2] rfl
  have hD9 := hD.sub (ws' := (fun g => [(g 0, .inr (3, [.ref (g 1), .int (-1), .int (nI 0), .long 0])), (g 1, .inr (4, [.ref (g 2)])), (g 2, .inl (cJ, 64, .inr (.inl (fun _ => 0))))]) (ps_gl [a0, q1, q2])) [0, 1, 2] (by decide) rfl
  refine W.widen (k := 2) (n := 65) (by decide) (by decide) ?_
  subst hAe
  rw [hQ]
  exact W.vret hx hb hr (fun zt ht _ => ⟨⟨ps_gl [a0, q1, q2], rfl, rfl, by rw [ht]; exact hP9, hD9⟩, hS.F ht⟩) hS.2.2 d_Thing_init_30

def rm_Reply_init : Room := { frames := 2, cells := 8, slots := 207, locals := 40 }
abbrev ws_Reply_init : List Cond := .code y_Reply_init b_Reply_init 1 none :: ps_tb
set_option maxHeartbeats 4000000 in
set_option maxRecDepth 100000 in
theorem c_Reply_init {l : Launch} {D : va_G} {cI cJ cT : ClassId} (a0 sz : Nat) : Met l y_Reply_init ws_Reply_init rm_Reply_init (ps_Cc D ps_cl (ps_tys cI cJ cT) 2 [.int 0, .int 0, .null, .null, .int 0, .int 0, .int 0, .int 0, .int 0, .null, .null, .null] a0 sz) (ps_Cq D ps_cl a0 sz (fun g => [(g 0, .inr (2, [.int (-1), .int 0, .ref (g 1), .ref (g 2), .int 0, .int 0, .int 0, .int 0, .int 0, .ref (g 3), .ref (g 5), .ref (g 7)])), (g 1, .inl (cI, 6, .inl (fun _ => 0))), (g 2, .inl (cI, 6, .inl (fun _ => 0))), (g 3, .inr (4, [.ref (g 4)])), (g 4, .inl (cJ, 64, .inr (.inl (fun _ => 0)))), (g 5, .inr (4, [.ref (g 6)])), (g 6, .inl (cJ, 64, .inr (.inl (fun _ => 0)))), (g 7, .inr (4, [.ref (g 8)])), (g 8, .inl (cJ, 64, .inr (.inl (fun _ => 0))))])) 8 207 (ps_A a0 sz) := by
  refine ps_met (by decide) ?_
  intro p e s m args below meth c hx hb hr hml hts hown hlocks hname hv Q hQ
  obtain ⟨ha, hsz, hP, hK⟩ := hv
  subst hsz
  have hT : ∀ w ∈ ps_tb, w.before args s = true := fun w h => hts w (List.mem_cons_of_mem _ h)
  have hown : s.vm.findClass R_Reply = some m.cls := hown
  have hname : meth.name = "<init>" := hname
  obtain ⟨A, hAe⟩ : ∃ A, A = ps_A a0 s.heap.size := ⟨_, rfl⟩
  rw [← hAe] at hQ
  have hA : ∀ q : Nat, s.heap.size ≤ q → A q := fun q h => by rw [hAe]; exact Or.inr h
  have hS : va_S A s.heap s.heap [] := va_S.rf
  have hD : va_D A [(a0, .inr (2, [.int 0, .int 0, .null, .null, .int 0, .int 0, .int 0, .int 0, .int 0, .null, .null, .null]))] := ps_D1 (by rw [hAe]; exact Or.inl rfl)
  refine ps_enter ha (Nat.le_of_ble_eq_true rfl) (fun ls hl => ?_)
  have hl : lv_has ls 1 [(0, .ref a0)] := hl
  refine lv_aload_n hx hb d_Reply_init_0 rfl (lv_at hl 0 rfl) ?_
  refine W.objInit hx hb hown (hT _ ml_Reply_3) (hT _ im_objectInit) (hT _ co_objectInit) rfl (by rw [hml]; exact hl.1) rfl d_Reply_init_1 (Nat.le_of_ble_eq_true rfl) (Nat.le_of_ble_eq_true rfl) ?_
  refine W.eq (g2 := F0 m 4 ls []) rfl ?_
  refine lv_aload_n hx hb d_Reply_init_4 rfl (lv_at hl 0 rfl) ?_
  refine lv_iconst (v := -1) hx hb d_Reply_init_5 (by decide) ?_
  refine va_put (D := D) (ci := 2) (v := .int (-1)) (ty := .int) (C := R_Reply) (T := F_Reply) (N := 12) hx hb hT i_Reply t_Reply t_Reply_ok n_Reply hown hK hP hD hS 0 rfl rfl 0 (by decide) (hT _ fl_Reply_9) (fun _ h9 => h9) rfl (by decide +kernel) rfl rfl (Nat.le_of_ble_eq_true rfl) d_Reply_init_6 (fun H locs hP hD hS => ?_)
  have hP : va_P D ps_cl [(a0, .inr (2, [.int (-1), .int 0, .null, .null, .int 0, .int 0, .int 0, .int 0, .int 0, .null, .null, .null]))] H := hP
  have hD : va_D A [(a0, .inr (2, [.int (-1), .int 0, .null, .null, .int 0, .int 0, .int 0, .int 0, .int 0, .null, .null, .null]))] := hD
  refine lv_aload_n hx hb d_Reply_init_9 rfl (lv_at hl 0 rfl) ?_
  refine lv_bipush (v := nI 6) hx hb d_Reply_init_10 (by decide) ?_
  refine ps_newa (atype := .int) (ty := .int) (a0 := (6, .inl (fun _ => 0))) (N' := 6) hx hb (hT _ ac_int) rfl hK (t0 := 0) rfl hP hD hS hA (fun _ => rfl) (by decide) (by decide) (by decide) (Nat.le_of_ble_eq_true rfl) (Nat.le_of_ble_eq_true rfl) d_Reply_init_12 (fun q1 H hP hD hS => ?_)
  have hP : va_P D ps_cl [(a0, .inr (2, [.int (-1), .int 0, .null, .null, .int 0, .int 0, .int 0, .int 0, .int 0, .null, .null, .null])), (q1, .inl (cI, 6, .inl (fun _ => 0)))] H := hP
  have hD : va_D A [(a0, .inr (2, [.int (-1), .int 0, .null, .null, .int 0, .int 0, .int 0, .int 0, .int 0, .null, .null, .null])), (q1, .inl (cI, 6, .inl (fun _ => 0)))] := hD
  refine va_putF (D := D) (ci := 2) (v := .ref q1) (ty := .array .int) (C := R_Reply) (T := F_Reply) (N := 12) hx hb hT i_Reply t_Reply t_Reply_ok n_Reply hown hK hP hD hS 0 rfl rfl 2 (by decide) (hT _ fl_Reply_17) (fun _ h9 => h9) rfl hname rfl (by decide +kernel) rfl rfl (Nat.le_of_ble_eq_true rfl) d_Reply_init_14 (fun H locs hP hD hS => ?_)
  have hP : va_P D ps_cl [(a0, .inr (2, [.int (-1), .int 0, .ref q1, .null, .int 0, .int 0, .int 0, .int 0, .int 0, .null, .null, .null])), (q1, .inl (cI, 6, .inl (fun _ => 0)))] H := hP
  have hD : va_D A [(a0, .inr (2, [.int (-1), .int 0, .ref q1, .null, .int 0, .int 0, .int 0, .int 0, .int 0, .null, .null, .null])), (q1, .inl (cI, 6, .inl (fun _ => 0)))] := hD
  refine lv_aload_n hx hb d_Reply_init_17 rfl (lv_at hl 0 rfl) ?_
  refine lv_bipush (v := nI 6) hx hb d_Reply_init_18 (by decide) ?_
  refine ps_newa (atype := .int) (ty := .int) (a0 := (6, .inl (fun _ => 0))) (N' := 6) hx hb (hT _ ac_int) rfl hK (t0 := 0) rfl hP hD hS hA (fun _ => rfl) (by decide) (by decide) (by decide) (Nat.le_of_ble_eq_true rfl) (Nat.le_of_ble_eq_true rfl) d_Reply_init_20 (fun q2 H hP hD hS => ?_)
  have hP : va_P D ps_cl [(a0, .inr (2, [.int (-1), .int 0, .ref q1, .null, .int 0, .int 0, .int 0, .int 0, .int 0, .null, .null, .null])), (q1, .inl (cI, 6, .inl (fun _ => 0))), (q2, .inl (cI, 6, .inl (fun _ => 0)))] H := hP
  have hD : va_D A [(a0, .inr (2, [.int (-1), .int 0, .ref q1, .null, .int 0, .int 0, .int 0, .int 0, .int 0, .null, .null, .null])), (q1, .inl (cI, 6, .inl (fun _ => 0))), (q2, .inl (cI, 6, .inl (fun _ => 0)))] := hD
  refine va_putF (D := D) (ci := 2) (v := .ref q2) (ty := .array .int) (C := R_Reply) (T := F_Reply) (N := 12) hx hb hT i_Reply t_Reply t_Reply_ok n_Reply hown hK hP hD hS 0 rfl rfl 3 (by decide) (hT _ fl_Reply_21) (fun _ h9 => h9) rfl hname rfl (by decide +kernel) rfl rfl (Nat.le_of_ble_eq_true rfl) d_Reply_init_22 (fun H locs hP hD hS => ?_)
  have hP : va_P D ps_cl [(a0, .inr (2, [.int (-1), .int 0, .ref q1, .ref q2, .int 0, .int 0, .int 0, .int 0, .int 0, .null, .null, .null])), (q1, .inl (cI, 6, .inl (fun _ => 0))), (q2, .inl (cI, 6, .inl (fun _ => 0)))] H := hP
  have hD : va_D A [(a0, .inr (2, [.int (-1), .int 0, .ref q1, .ref q2, .int 0, .int 0, .int 0, .int 0, .int 0, .null, .null, .null])), (q1, .inl (cI, 6, .inl (fun _ => 0))), (q2, .inl (cI, 6, .inl (fun _ => 0)))] := hD
  refine lv_aload_n hx hb d_Reply_init_25 rfl (lv_at hl 0 rfl) ?_
  refine va_new (ci := 4) (fs := [.null]) (C := R_Places) (T := F_Places) (N := 1) hx hb hT i_Places t_Places t_Places_ok hown (hT _ ck_Reply_24) (hT _ is_Places) (hT _ in_Places) hK hP hD hS hA rfl (fun j hj => by rcases (show j = 0 by omega) with rfl <;> rfl) (Nat.le_of_ble_eq_true rfl) (Nat.le_of_ble_eq_true rfl) d_Reply_init_26 (fun q3 H hP hD hS => ?_)
  have hP : va_P D ps_cl [(a0, .inr (2, [.int (-1), .int 0, .ref q1, .ref q2, .int 0, .int 0, .int 0, .int 0, .int 0, .null, .null, .null])), (q1, .inl (cI, 6, .inl (fun _ => 0))), (q2, .inl (cI, 6, .inl (fun _ => 0))), (q3, .inr (4, [.null]))] H := hP
  have hD : va_D A [(a0, .inr (2, [.int (-1), .int 0, .ref q1, .ref q2, .int 0, .int 0, .int 0, .int 0, .int 0, .null, .null, .null])), (q1, .inl (cI, 6, .inl (fun _ => 0))), (q2, .inl (cI, 6, .inl (fun _ => 0))), (q3, .inr (4, [.null]))] := hD
  refine lv_dup hx hb d_Reply_init_29 rfl ?_
  refine ps_ctor (w0 := [(a0, .inr (2, [.int (-1), .int 0, .ref q1, .ref q2, .int 0, .int 0, .int 0, .int 0, .int 0, .null, .null, .null])), (q1, .inl (cI, 6, .inl (fun _ => 0))), (q2, .inl (cI, 6, .inl (fun _ => 0)))]) (rest := [.ref q3, .ref a0]) ⟨hx, hb, hml, hown, hT⟩ (c_Places_init (cT := cT) (cI := cI) (cJ := cJ) q3 H.size) (cwI 0 hT (ps_gI co_Places_init) rfl rfl rfl (hT _ in_Places) (hT _ ml_Reply_26) (hT _ im_Places_init) rfl cd_Places_init ⟨Nat.le_of_ble_eq_true rfl, Nat.le_of_ble_eq_true rfl⟩) hK hP hD hS hA hl.1 (Nat.le_of_ble_eq_true rfl) d_Reply_init_30 ⟨Nat.le_of_ble_eq_true rfl, Nat.le_of_ble_eq_true rfl⟩ (fun g4 H locs hg4 hP hD hS => ?_)
  obtain ⟨q4, eq4⟩ : ∃ z, z = g4 1 := ⟨_, rfl⟩
  simp only [hg4, ← eq4] at hP hD
  have hP : va_P D ps_cl [(a0, .inr (2, [.int (-1), .int 0, .ref q1, .ref q2, .int 0, .int 0, .int 0, .int 0, .int 0, .null, .null, .null])), (q1, .inl (cI, 6, .inl (fun _ => 0))), (q2, .inl (cI, 6, .inl (fun _ => 0))), (q3, .inr (4, [.ref q4])), (q4, .inl (cJ, 64, .inr (.inl (fun _ => 0))))] H := hP
  have hD : va_D A [(a0, .inr (2, [.int (-1), .int 0, .ref q1, .ref q2, .int 0, .int 0, .int 0, .int 0, .int 0, .null, .null, .null])), (q1, .inl (cI, 6, .inl (fun _ => 0))), (q2, .inl (cI, 6, .inl (fun _ => 0))), (q3, .inr (4, [.ref q4])), (q4, .inl (cJ, 64, .inr (.inl (fun _ => 0))))] := hD
  refine va_putF (D := D) (ci := 2) (v := .ref q3) (ty := .object R_Places) (C := R_Reply) (T := F_Reply) (N := 12) hx hb hT i_Reply t_Reply t_Reply_ok n_Reply hown hK hP hD hS 0 rfl rfl 9 (by decide) (hT _ fl_Reply_27) (fun _ h9 => h9) rfl hname rfl (by decide +kernel) rfl rfl (Nat.le_of_ble_eq_true rfl) d_Reply_init_33 (fun H locs hP hD hS => ?_)
  have hP : va_P D ps_cl [(a0, .inr (2, [.int (-1), .int 0, .ref q1, .ref q2, .int 0, .int 0, .int 0, .int 0, .int 0, .ref q3, .null, .null])), (q1, .inl (cI, 6, .inl (fun _ => 0))), (q2, .inl (cI, 6, .inl (fun _ => 0))), (q3, .inr (4, [.ref q4])), (q4, .inl (cJ, 64, .inr (.inl (fun _ => 0))))] H := hP
  have hD : va_D A [(a0, .inr (2, [.int (-1), .int 0, .ref q1, .ref q2, .int 0, .int 0, .int 0, .int 0, .int 0, .ref q3, .null, .null])), (q1, .inl (cI, 6, .inl (fun _ => 0))), (q2, .inl (cI, 6, .inl (fun _ => 0))), (q3, .inr (4, [.ref q4])), (q4, .inl (cJ, 64, .inr (.inl (fun _ => 0))))] := hD
  refine lv_aload_n hx hb d_Reply_init_36 rfl (lv_at hl 0 rfl) ?_
  refine va_new (ci := 4) (fs := [.null]) (C := R_Places) (T := F_Places) (N := 1) hx hb hT i_Places t_Places t_Places_ok hown (hT _ ck_Reply_24) (hT _ is_Places) (hT _ in_Places) hK hP hD hS hA rfl (fun j hj => by rcases (show j = 0 by omega) with rfl <;> rfl) (Nat.le_of_ble_eq_true rfl) (Nat.le_of_ble_eq_true rfl) d_Reply_init_37 (fun q5 H hP hD hS => ?_)
  have hP : va_P D ps_cl [(a0, .inr (2, [.int (-1), .int 0, .ref q1, .ref q2, .int 0, .int 0, .int 0, .int 0, .int 0, .ref q3, .null, .null])), (q1, .inl (cI, 6, .inl (fun _ => 0))), (q2, .inl (cI, 6, .inl (fun _ => 0))), (q3, .inr (4, [.ref q4])), (q4, .inl (cJ, 64, .inr (.inl (fun _ => 0)))), (q5, .inr (4, [.null]))] H := hP
  have hD : va_D A [(a0, .inr (2, [.int (-1), .int 0, .ref q1, .ref q2, .int 0, .int 0, .int 0, .int 0, .int 0, .ref q3, .null, .null])), (q1, .inl (cI, 6, .inl (fun _ => 0))), (q2, .inl (cI, 6, .inl (fun _ => 0))), (q3, .inr (4, [.ref q4])), (q4, .inl (cJ, 64, .inr (.inl (fun _ => 0)))), (q5, .inr (4, [.null]))] := hD
  refine lv_dup hx hb d_Reply_init_40 rfl ?_
  refine ps_ctor (w0 := [(a0, .inr (2, [.int (-1), .int 0, .ref q1, .ref q2, .int 0, .int 0, .int 0, .int 0, .int 0, .ref q3, .null, .null])), (q1, .inl (cI, 6, .inl (fun _ => 0))), (q2, .inl (cI, 6, .inl (fun _ => 0))), (q3, .inr (4, [.ref q4])), (q4, .inl (cJ, 64, .inr (.inl (fun _ => 0))))]) (rest := [.ref q5, .ref a0]) ⟨hx, hb, hml, hown, hT⟩ (c_Places_init (cT := cT) (cI := cI) (cJ := cJ) q5 H.size) (cwI 0 hT (ps_gI co_Places_init) rfl rfl rfl (hT _ in_Places) (hT _ ml_Reply_26) (hT _ im_Places_init) rfl cd_Places_init ⟨Nat.le_of_ble_eq_true rfl, Nat.le_of_ble_eq_true rfl⟩) hK hP hD hS hA hl.1 (Nat.le_of_ble_eq_true rfl) d_Reply_init_41 ⟨Nat.le_of_ble_eq_true rfl, Nat.le_of_ble_eq_true rfl⟩ (fun g6 H locs hg6 hP hD hS => ?_)
  obtain ⟨q6, eq6⟩ : ∃ z, z = g6 1 := ⟨_, rfl⟩
  simp only [hg6, ← eq6] at hP hD
  have hP : va_P D ps_cl [(a0, .inr (2, [.int (-1), .int 0, .ref q1, .ref q2, .int 0, .int 0, .int 0, .int 0, .int 0, .ref q3, .null, .null])), (q1, .inl (cI, 6, .inl (fun _ => 0))), (q2, .inl (cI, 6, .inl (fun _ => 0))), (q3, .inr (4, [.ref q4])), (q4, .inl (cJ, 64, .inr (.inl (fun _ => 0)))), (q5, .inr (4, [.ref q6])), (q6, .inl (cJ, 64, .inr (.inl (fun _ => 0))))] H := hP
  have hD : va_D A [(a0, .inr (2, [.int (-1), .int 0, .ref q1, .ref q2, .int 0, .int 0, .int 0, .int 0, .int 0, .ref q3, .null, .null])), (q1, .inl (cI, 6, .inl (fun _ => 0))), (q2, .inl (cI, 6, .inl (fun _ => 0))), (q3, .inr (4, [.ref q4])), (q4, .inl (cJ, 64, .inr (.inl (fun _ => 0)))), (q5, .inr (4, [.ref q6])), (q6, .inl (cJ, 64, .inr (.inl (fun _ => 0))))] := hD
  refine va_putF (D := D) (ci := 2) (v := .ref q5) (ty := .object R_Places) (C := R_Reply) (T := F_Reply) (N := 12) hx hb hT i_Reply t_Reply t_Reply_ok n_Reply hown hK hP hD hS 0 rfl rfl 10 (by decide) (hT _ fl_Reply_31) (fun _ h9 => h9) rfl hname rfl (by decide +kernel) rfl rfl (Nat.le_of_ble_eq_true rfl) d_Reply_init_44 (fun H locs hP hD hS => ?_)
  have hP : va_P D ps_cl [(a0, .inr (2, [.int (-1), .int 0, .ref q1, .ref q2, .int 0, .int 0, .int 0, .int 0, .int 0, .ref q3, .ref q5, .null])), (q1, .inl (cI, 6, .inl (fun _ => 0))), (q2, .inl (cI, 6, .inl (fun _ => 0))), (q3, .inr (4, [.ref q4])), (q4, .inl (cJ, 64, .inr (.inl (fun _ => 0)))), (q5, .inr (4, [.ref q6])), (q6, .inl (cJ, 64, .inr (.inl (fun _ => 0))))] H := hP
  have hD : va_D A [(a0, .inr (2, [.int (-1), .int 0, .ref q1, .ref q2, .int 0, .int 0, .int 0, .int 0, .int 0, .ref q3, .ref q5, .null])), (q1, .inl (cI, 6, .inl (fun _ => 0))), (q2, .inl (cI, 6, .inl (fun _ => 0))), (q3, .inr (4, [.ref q4])), (q4, .inl (cJ, 64, .inr (.inl (fun _ => 0)))), (q5, .inr (4, [.ref q6])), (q6, .inl (cJ, 64, .inr (.inl (fun _ => 0))))] := hD
  refine lv_aload_n hx hb d_Reply_init_47 rfl (lv_at hl 0 rfl) ?_
  refine va_new (ci := 4) (fs := [.null]) (C := R_Places) (T := F_Places) (N := 1) hx hb hT i_Places t_Places t_Places_ok hown (hT _ ck_Reply_24) (hT _ is_Places) (hT _ in_Places) hK hP hD hS hA rfl (fun j hj => by rcases (show j = 0 by omega) with rfl <;> rfl) (Nat.le_of_ble_eq_true rfl) (Nat.le_of_ble_eq_true rfl) d_Reply_init_48 (fun q7 H hP hD hS => ?_)
  have hP : va_P D ps_cl [(a0, .inr (2, [.int (-1), .int 0, .ref q1, .ref q2, .int 0, .int 0, .int 0, .int 0, .int 0, .ref q3, .ref q5, .null])), (q1, .inl (cI, 6, .inl (fun _ => 0))), (q2, .inl (cI, 6, .inl (fun _ => 0))), (q3, .inr (4, [.ref q4])), (q4, .inl (cJ, 64, .inr (.inl (fun _ => 0)))), (q5, .inr (4, [.ref q6])), (q6, .inl (cJ, 64, .inr (.inl (fun _ => 0)))), (q7, .inr (4, [.null]))] H := hP
  have hD : va_D A [(a0, .inr (2, [.int (-1), .int 0, .ref q1, .ref q2, .int 0, .int 0, .int 0, .int 0, .int 0, .ref q3, .ref q5, .null])), (q1, .inl (cI, 6, .inl (fun _ => 0))), (q2, .inl (cI, 6, .inl (fun _ => 0))), (q3, .inr (4, [.ref q4])), (q4, .inl (cJ, 64, .inr (.inl (fun _ => 0)))), (q5, .inr (4, [.ref q6])), (q6, .inl (cJ, 64, .inr (.inl (fun _ => 0)))), (q7, .inr (4, [.null]))] := hD
  refine lv_dup hx hb d_Reply_init_51 rfl ?_
  refine ps_ctor (w0 := [(a0, .inr (2, [.int (-1), .int 0, .ref q1, .ref q2, .int 0, .int 0, .int 0, .int 0, .int 0, .ref q3, .ref q5, .null])), (q1, .inl (cI, 6, .inl (fun _ => 0))), (q2, .inl (cI, 6, .inl (fun _ => 0))), (q3, .inr (4, [.ref q4])), (q4, .inl (cJ, 64, .inr (.inl (fun _ => 0)))), (q5, .inr (4, [.ref q6])), (q6, .inl (cJ, 64, .inr (.inl (fun _ => 0))))]) (rest := [.ref q7, .ref a0]) ⟨hx, hb, hml, hown, hT⟩ (c_Places_init (cT := cT) (cI := cI) (cJ := cJ) q7 H.size) (cwI 0 hT (ps_gI co_Places_init) rfl rfl rfl (hT _ in_Places) (hT _ ml_Reply_26) (hT _ im_Places_init) rfl cd_Places_init ⟨Nat.le_of_ble_eq_true rfl, Nat.le_of_ble_eq_true rfl⟩) hK hP hD hS hA hl.1 (Nat.le_of_ble_eq_true rfl) d_Reply_init_52 ⟨Nat.le_of_ble_eq_true rfl, Nat.le_of_ble_eq_true rfl⟩ (fun g8 H locs hg8 hP hD hS => ?_)
  obtain ⟨q8, eq8⟩ : ∃ z, z = g8 1 := ⟨_, rfl⟩
  simp only [hg8, ← eq8] at hP hD
  have hP : va_P D ps_cl [(a0, .inr (2, [.int (-1), .int 0, .ref q1, .ref q2, .int 0, .int 0, .int 0, .int 0, .int 0, .ref q3, .ref q5, .null])), (q1, .inl (cI, 6, .inl (fun _ => 0))), (q2, .inl (cI, 6, .inl (fun _ => 0))), (q3, .inr (4, [.ref q4])), (q4, .inl (cJ, 64, .inr (.inl (fun _ => 0)))), (q5, .inr (4, [.ref q6])), (q6, .inl (cJ, 64, .inr (.inl (fun _ => 0)))), (q7, .inr (4, [.ref q8])), (q8, .inl (cJ, 64, .inr (.inl (fun _ => 0))))] H := hP
  have hD : va_D A [(a0, .inr (2, [.int (-1), .int 0, .ref q1, .ref q2, .int 0, .int 0, .int 0, .int 0, .int 0, .ref q3, .ref q5, .null])), (q1, .inl (cI, 6, .inl (fun _ => 0))), (q2, .inl (cI, 6, .inl (fun _ => 0))), (q3, .inr (4, [.ref q4])), (q4, .inl (cJ, 64, .inr (.inl (fun _ => 0)))), (q5, .inr (4, [.ref q6])), (q6, .inl (cJ, 64, .inr (.inl (fun _ => 0)))), (q7, .inr (4, [.ref q8])), (q8, .inl (cJ, 64, .inr (.inl (fun _ => 0))))] := hD
  refine va_putF (D := D) (ci := 2) (v := .ref q7) (ty := .object R_Places) (C := R_Reply) (T := F_Reply) (N := 12) hx hb hT i_Reply t_Reply t_Reply_ok n_Reply hown hK hP hD hS 0 rfl rfl 11 (by decide) (hT _ fl_Reply_34) (fun _ h9 => h9) rfl hname rfl (by decide +kernel) rfl rfl (Nat.le_of_ble_eq_true rfl) d_Reply_init_55 (fun H locs hP hD hS => ?_)
  have hP : va_P D ps_cl [(a0, .inr (2, [.int (-1), .int 0, .ref q1, .ref q2, .int 0, .int 0, .int 0, .int 0, .int 0, .ref q3, .ref q5, .ref q7])), (q1, .inl (cI, 6, .inl (fun _ => 0))), (q2, .inl (cI, 6, .inl (fun _ => 0))), (q3, .inr (4, [.ref q4])), (q4, .inl (cJ, 64, .inr (.inl (fun _ => 0)))), (q5, .inr (4, [.ref q6])), (q6, .inl (cJ, 64, .inr (.inl (fun _ => 0)))), (q7, .inr (4, [.ref q8])), (q8, .inl (cJ, 64, .inr (.inl (fun _ => 0))))] H := hP
  have hD : va_D A [(a0, .inr (2, [.int (-1), .int 0, .ref q1, .ref q2, .int 0, .int 0, .int 0, .int 0, .int 0, .ref q3, .ref q5, .ref q7])), (q1, .inl (cI, 6, .inl (fun _ => 0))), (q2, .inl (cI, 6, .inl (fun _ => 0))), (q3, .inr (4, [.ref q4])), (q4, .inl (cJ, 64, .inr (.inl (fun _ => 0)))), (q5, .inr (4, [.ref q6])), (q6, .inl (cJ, 64, .inr (.inl (fun _ => 0)))), (q7, .inr (4, [.ref q8])), (q8, .inl (cJ, 64, .inr (.inl (fun _ => 0))))] := hD
  have hP9 := hP.sub (ws' := (fun g => [(g 0, .inr (2, [.int (-1), .int 0, .ref (g 1), .ref (g 2), .int 0, .int 0, .int 0, .int 0, .int 0, .ref (g 3), .ref (g 5), .ref (g 7)])), (g 1, .inl (cI, 6, .inl (fun _ => 0))), (g 2, .inl (cI, 6, .inl (fun _ => 0))), (g 3, .inr (4, [.ref (g 4)])), (g 4, .inl (cJ, 64, .inr (.inl (fun _ => 0)))), (g 5, .inr (4, [.ref (g 6)])), (g 6, .inl (cJ, 64, .inr (.inl (fun _ => 0)))), (g 7, .inr (4, [.ref (g 8)])), (g 8, .inl (cJ, 64, .inr (.inl (fun _ => 0))))]) (ps_gl [a0, q1, q2, q3, q4, q5, q6, q7, q8])) [0, 1, 2, 3, 4, 5, 6, 7, 8] rfl
  have hD9 := hD.sub (ws' := (fun g => [(g 0, .inr (2, [.int (-1), .int 0, .ref (g 1), .ref (g 2), .int 0, .int 0, .int 0, .int 0, .int 0, .ref (g 3), .ref (g 5), .ref (g 7)])), (g 1, .inl (cI, 6, .inl (fun _ => 0))), (g 2, .inl (cI, 6, .inl (fun _ => 0))), (g 3, .inr (4, [.ref (g 4)])), (g 4, .inl (cJ, 64, .inr (.inl (fun _ => 0)))), (g 5, .inr (4, [.ref (g 6)])), (g 6, .inl (cJ, 64, .inr (.inl (fun _ => 0)))), (g 7, .inr (4, [.ref (g 8)])), (g 8, .inl (cJ, 64, .inr (.inl (fun _ => 0))))]) (ps_gl [a0, q1, q2, q3, q4, q5, q6, q7, q8])) [0, 1, 2, 3, 4, 5, 6, 7, 8] (by decide) rfl
  refine W.widen (k := 8) (n := 207) (by decide) (by decide) ?_
  subst hAe
  rw [hQ]
  exact W.vret hx hb hr (fun zt ht _ => ⟨⟨ps_gl [a0, q1, q2, q3, q4, q5, q6, q7, q8], rfl, rfl, by rw [ht]; exact hP9, hD9⟩, hS.F ht⟩) hS.2.2 d_Reply_init_58
