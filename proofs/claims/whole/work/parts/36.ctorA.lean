theorem ml_Places_1 : (.methodLink R_Places 1 objectInit : Cond) ∈ ps_tb := ps_in 58 (by decide +kernel) rfl
theorem im_objectInit : (.instanceMethod objectInit : Cond) ∈ ps_tb := ps_in 24 (by decide +kernel) rfl
theorem co_objectInit : (.code objectInit object_method_1_code 1 none : Cond) ∈ ps_tb := ps_in 25 (by decide +kernel) rfl
theorem ac_long : (.arrayClass .long : Cond) ∈ ps_tb := ps_in 63 (by decide +kernel) rfl
def rm_Places_init : Room := { frames := 1, cells := 1, slots := 64, locals := 20 }
abbrev ws_Places_init : List Cond := .code y_Places_init b_Places_init 1 none :: ps_tb
set_option maxHeartbeats 4000000 in
set_option maxRecDepth 100000 in
theorem c_Places_init {l : Launch} {D : va_G} {cI cJ cT : ClassId} (a0 sz : Nat) : Met l y_Places_init ws_Places_init rm_Places_init (ps_Cc D ps_cl (ps_tys cI cJ cT) 4 [.null] a0 sz) (ps_Cq D ps_cl a0 sz (fun g => [(g 0, .inr (4, [.ref (g 1)])), (g 1, .inl (cJ, 64, .inr (.inl (fun _ => 0))))])) 1 64 (ps_A a0 sz) := by
  refine ps_met (by decide) ?_
  intro p e s m args below meth c hx hb hr hml hts hown hlocks hname hv Q hQ
  obtain ⟨ha, hsz, hP, hK⟩ := hv
  subst hsz
  have hT : ∀ w ∈ ps_tb, w.before args s = true := fun w h => hts w (List.mem_cons_of_mem _ h)
  have hown : s.vm.findClass R_Places = some m.cls := hown
  have hname : meth.name = "<init>" := hname
  obtain ⟨A, hAe⟩ : ∃ A, A = ps_A a0 s.heap.size := ⟨_, rfl⟩
  rw [← hAe] at hQ
  have hA : ∀ q : Nat, s.heap.size ≤ q → A q := fun q h => by rw [hAe]; exact Or.inr h
  have hS : va_S A s.heap s.heap [] := va_S.rf
  have hD : va_D A [(a0, .inr (4, [.null]))] := ps_D1 (by rw [hAe]; exact Or.inl rfl)
  refine ps_enter ha (Nat.le_of_ble_eq_true rfl) (fun ls hl => ?_)
  have hl : lv_has ls 1 [(0, .ref a0)] := hl
  refine lv_aload_n hx hb d_Places_init_0 rfl (lv_at hl 0 rfl) ?_
  refine W.objInit hx hb hown (hT _ ml_Places_1) (hT _ im_objectInit) (hT _ co_objectInit) rfl (by rw [hml]; exact hl.1) rfl d_Places_init_1 (Nat.le_of_ble_eq_true rfl) (Nat.le_of_ble_eq_true rfl) ?_
  refine W.eq (g2 := F0 m 4 ls []) rfl ?_
  refine lv_aload_n hx hb d_Places_init_4 rfl (lv_at hl 0 rfl) ?_
  refine lv_bipush (v := nI 64) hx hb d_Places_init_5 (by decide) ?_
  refine ps_newa (atype := .long) (ty := .long) (a0 := (64, .inr (.inl (fun _ => 0)))) (N' := 64) hx hb (hT _ ac_long) rfl hK (t0 := 1) rfl hP hD hS hA (fun _ => rfl) (by decide) (by decide) (by decide) (Nat.le_of_ble_eq_true rfl) (Nat.le_of_ble_eq_true rfl) d_Places_init_7 (fun q1 H hP hD hS => ?_)
  have hP : va_P D ps_cl [(a0, .inr (4, [.null])), (q1, .inl (cJ, 64, .inr (.inl (fun _ => 0))))] H := hP
  have hD : va_D A [(a0, .inr (4, [.null])), (q1, .inl (cJ, 64, .inr (.inl (fun _ => 0))))] := hD
  refine va_putF (D := D) (ci := 4) (v := .ref q1) (ty := .array .long) (C := R_Places) (T := F_Places) (N := 1) hx hb hT i_Places t_Places t_Places_ok n_Places hown hK hP hD hS 0 rfl rfl 0 (by decide) (hT _ fl_Places_9) (fun _ h9 => h9) rfl hname rfl (by decide +kernel) rfl rfl (Nat.le_of_ble_eq_true rfl) d_Places_init_9 (fun H locs hP hD hS => ?_)
  have hP : va_P D ps_cl [(a0, .inr (4, [.ref q1])), (q1, .inl (cJ, 64, .inr (.inl (fun _ => 0))))] H := hP
  have hD : va_D A [(a0, .inr (4, [.ref q1])), (q1, .inl (cJ, 64, .inr (.inl (fun _ => 0))))] := hD
  have hP9 := hP.sub (ws' := (fun g => [(g 0, .inr (4, [.ref (g 1)])), (g 1, .inl (cJ, 64, .inr (.inl (fun _ => 0))))]) (ps_gl [a0, q1])) [0, 1] rfl
  have hD9 := hD.sub (ws' := (fun g => [(g 0, .inr (4, [.ref (g 1)])), (g 1, .inl (cJ, 64, .inr (.inl (fun _ => 0))))]) (ps_gl [a0, q1])) [0, 1] (by decide) rfl
  refine W.widen (k := 1) (n := 64) (by decide) (by decide) ?_
  subst hAe
  rw [hQ]
  exact W.vret hx hb hr (fun zt ht _ => ⟨⟨ps_gl [a0, q1], rfl, rfl, by rw [ht]; exact hP9, hD9⟩, hS.F ht⟩) hS.2.2 d_Places_init_12
