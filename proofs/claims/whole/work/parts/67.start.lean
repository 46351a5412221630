theorem ck_Law_8 : (.classLink R_Law 8 R_Shelf : Cond) ∈ ps_tb := ps_in 18 (by decide +kernel) rfl
theorem ck_Law_25 : (.classLink R_Law 25 R_Model : Cond) ∈ ps_tb := ps_in 513 (by decide +kernel) rfl
theorem is_Shelf : (.instantiable R_Shelf 6 : Cond) ∈ ps_tb := ps_in 19 (by decide +kernel) rfl
theorem is_Model : (.instantiable R_Model 26 : Cond) ∈ ps_tb := ps_in 514 (by decide +kernel) rfl
theorem ml_Law_24 : (.methodLink R_Law 24 y_Shelf_init : Cond) ∈ ps_tb := ps_in 20 (by decide +kernel) rfl
theorem im_Shelf_init : (.instanceMethod y_Shelf_init : Cond) ∈ ps_tb := ps_in 21 (by decide +kernel) rfl
theorem co_Shelf_init : (.code y_Shelf_init b_Shelf_init 2 none : Cond) ∈ ps_tb := ps_in 22 (by decide +kernel) rfl
theorem ml_Law_27 : (.methodLink R_Law 27 y_Model_init : Cond) ∈ ps_tb := ps_in 515 (by decide +kernel) rfl
theorem im_Model_init : (.instanceMethod y_Model_init : Cond) ∈ ps_tb := ps_in 516 (by decide +kernel) rfl
theorem co_Model_init : (.code y_Model_init b_Model_init 2 none : Cond) ∈ ps_tb := ps_in 517 (by decide +kernel) rfl
theorem cd_Model_init : y_Model_init.cls ≠ "java/lang/invoke/MethodHandle" ∧ y_Model_init.cls ≠ "java/lang/invoke/VarHandle" ∧ (parseMethodDescriptor y_Model_init.desc).map (fun d => d.parameters.length) = some 0 := by decide +kernel
theorem cd_Shelf_init : y_Shelf_init.cls ≠ "java/lang/invoke/MethodHandle" ∧ y_Shelf_init.cls ≠ "java/lang/invoke/VarHandle" ∧ (parseMethodDescriptor y_Shelf_init.desc).map (fun d => d.parameters.length) = some 0 := by decide +kernel
/-! THE CLAIM OUT OF ONE WALK OF THE LAW'S BODY. Your part is whole_start (and what it stands on); all else here is the same for every law, but numbers. -/
def R_law : String := "PieceShelfLaw"
def lw_P (b : Addr) (xs : List Int32) (args : Array Value) (s : State) : Prop := args = #[.ref b] ∧ s.IntsAt b xs ∧ xs.length ≤ 2560 ∧ (Jvm.Cond.and given_1 narrow_1).before args s = true
def lw_Q (_ : Array Value) (s : State) (o : Outcome) (t : State) : Prop := o = .returned (some (.int 1)) ∧ Framed s o t [] 601024 7293034
def lw_Z (below : List Frame) (a : Array Value) (s : State) : State → Prop := fun t => ∃ o, t.status = .running ∧ Ended t below o ∧ lw_Q a s o t
/-- the law's own end, with 1 on the stack, nothing written that was there before, its room as the claim has it -/
theorem lw_ret {p : Program} {l : Launch} {e : Env} {s : State} {m : MethodId} {below : List Frame} {meth : Method} {c : Code} {b : Nat} (hx : p.tables.exec = Jvm.exec) (hb : c.code = code) (hr : meth.sig.returnType = ret) (hlocks : meth.locks = false) {pc : Nat} {H : Heap} {ls : Array Slot} (hdg : decode code pc = .ok (.ireturn, 1)) : W p l e room_1 s m #[Value.ref b] below meth c H [] 601024 7293034 (lw_Z below #[Value.ref b] s) (F0 m pc ls [.int 1]) := by
  intro T hT X
  obtain ⟨fs, hret, hrun, hended, hW, hframe⟩ := X.leave (v := some (.int 1)) (hlocks := hlocks) (fun h => by rw [hr] at h; cases h)
  have hmeth' : T.vm.method? m = some meth := X.method'
  refine ⟨T.setFrames fs, ?_, .returned (some (.int 1)), hrun, hended, rfl, ⟨_, rfl⟩, hW, hframe⟩
  jvm_step X.here [X.here.top, hx, hb, hdg, hmeth', hr, ret, narrow_b1]
  (try refine ⟨rfl, ?_⟩); (try refine ⟨rfl, ?_⟩)
  first | (intro acts; rw [hret _ acts rfl rfl rfl]) | rw [hret _ _ rfl rfl rfl]
  exact Steps.refl _
/-- what holds at the law's entry: the machine, the code, the tables' words (any of lw_tbl by 'hts w (by decide +kernel)'), the script of L ints xs at the cell b, what the Statement gives of the start (any of its parts by flat_of_before) -/
def lw_At (p : Program) (s : State) (m : MethodId) (meth : Method) (c : Code) (b L : Nat) (xs : Nat → Int32) : Prop :=
  p.tables.exec = Jvm.exec ∧ c.code = code ∧ meth.sig.returnType = ret ∧ c.maxLocals = 7 ∧ s.vm.findClass R_law = some m.cls ∧ (∀ w ∈ lw_tbl, w.before #[Value.ref b] s = true) ∧ va_X b L xs s s.heap ∧ b < s.heap.size ∧ meth.locks = false ∧ (Jvm.Cond.and given_1 narrow_1).before #[Value.ref b] s = true
section PwSetr
variable {p : Program} {l : Launch} {e : Env} {R : Room} {s : State} {m : MethodId} {args : Array Value} {below : List Frame} {meth : Method} {c : Code} {H : Heap} {locs : List Loc} {cells slots : Nat} {Q : State → Prop} {pc : Nat} {ls : Array Slot} {rest : List Value}
theorem pw_setr {x y : Nat} (h : x = y) (k : W p l e R s m args below meth c H locs cells slots Q (F0 m pc ls (.ref y :: rest))) : W p l e R s m args below meth c H locs cells slots Q (F0 m pc ls (.ref x :: rest)) := by
  subst h
  exact k
end PwSetr
theorem pw_injD {n : Nat} {g : Nat → Nat} {E : Nat → va_E} {A : Nat → Prop} (h : va_D A (ps_wl n g E)) : ps_inj n g ∧ ∀ k, k < n → A (g k) := ⟨fun i j hi hj e => h.1 i j _ _ (ps_wl_get hi) (ps_wl_get hj) e, fun k hk => h.2 k _ (ps_wl_get hk)⟩
set_option maxHeartbeats 4000000 in
set_option maxRecDepth 100000 in
theorem whole_start {p : Program} {e : Env} {s : State} {m : MethodId} {below : List Frame} {meth : Method} {c : Code} (l : Launch) (hst : l.stackTraces = false) {b L : Nat} {xs : Nat → Int32} (hL : L ≤ 2560) (C0 : lw_At p s m meth c b L xs) : W p l e room_1 s m #[Value.ref b] below meth c s.heap [] 0 0 (lw_Z below #[Value.ref b] s) (entryFrame m ([Value.ref b] : List Value).toArray 7) := by
  obtain ⟨hx, hb, hr, hml, hown, hts, hX, hbl, hlocks, hpre⟩ := C0
  have hT := pl_tbOf hts
  have hown : s.vm.findClass R_Law = some m.cls := hown
  have hb : c.code = b_Law_law := hb
  obtain ⟨D, cI, cJ, cT, hK⟩ := pl_knowsC hts
  obtain ⟨D2, cI2, cZ, hK2⟩ := pl_knowsM hts
  have hnA : ∀ a : Nat, a < s.heap.size → ¬ pw_A s a := fun a h1 h2 => Nat.not_lt.mpr h2 h1
  obtain ⟨aK, aV, vo, hStr⟩ := pl_str hnA hpre hts
  obtain ⟨m1, m2, m3, hThr⟩ := pl_thr hnA hpre hts
  have hAO := pl_ao hts
  have S : CallFix p m c b_Law_law 7 s #[Value.ref b] ps_tb R_Law := ⟨hx, hb, hml, hown, hT⟩
  refine ps_enter rfl (Nat.le_of_ble_eq_true rfl) (fun ls hl => ?_)
  have hl : lv_has ls 7 [(0, .ref b)] := hl
  refine pl_new (C := R_Shelf) (T := F_Shelf) (N := 6) (ci := 0) (fs := [.null, .null, .null, .int 0, .int 0, .long 0]) hx hb hT i_Shelf t_Shelf t_Shelf_ok hown (hT _ ck_Law_8) (hT _ is_Shelf) (hT _ in_Shelf) hK rfl (fun j hj => by rcases (show j = 0 ∨ j = 1 ∨ j = 2 ∨ j = 3 ∨ j = 4 ∨ j = 5 by omega) with rfl | rfl | rfl | rfl | rfl | rfl <;> rfl) (Nat.le_of_ble_eq_true rfl) (Nat.le_of_ble_eq_true rfl) d_Law_law_0 (fun H1 hN z1 o1 => ?_)
  refine lv_dup hx hb d_Law_law_3 rfl ?_
  have hS1 : va_S (pw_A s) s.heap H1 [] := ⟨by omega, fun q h1 _ => o1 q h1, fun q h => by cases h⟩
  refine pl_ctor (q := s.heap.size) (rest := [.ref s.heap.size]) (A := pw_A s) S (c_Shelf_init (D := D) (cI := cI) (cJ := cJ) (cT := cT) s.heap.size H1.size) (cwI 0 hT (ps_gI co_Shelf_init) rfl rfl rfl (hT _ in_Shelf) (hT _ ml_Law_24) (hT _ im_Shelf_init) rfl cd_Shelf_init ⟨Nat.le_of_ble_eq_true rfl, Nat.le_of_ble_eq_true rfl⟩) (ps_CTblind _ _ _ _ _ _ _) (fun U hU hW => ⟨rfl, by rw [hU], by rw [hU]; exact hN, va_K.moved hW.alike hK, va_AO.moved hW.alike hAO⟩) (Nat.le_refl _) hS1 (fun q h => h) hl.1 (Nat.le_of_ble_eq_true rfl) d_Law_law_4 ⟨Nat.le_of_ble_eq_true rfl, Nat.le_of_ble_eq_true rfl⟩ (fun g H2 locs2 g0 hP hD hS2 z2 o2 => ?_)
  obtain ⟨hg, hgA⟩ := pw_injD hD
  refine pw_setr g0.symm ?_
  refine lv_astore_n (lv' := [(1, .ref (g 0)), (0, .ref b)]) hx hb d_Law_law_7 rfl hl (by decide) rfl (fun ls hl => ?_)
  refine pl_new (C := R_Model) (T := F_Model) (N := 26) (ci := 0) (fs := [.int 0, .null, .int 0, .int 0, .int 0, .null, .null, .null, .null, .int 0, .int 0, .int 0, .null, .null, .int 0, .int 0, .int 0, .null, .null, .int 0, .int 0, .int 0, .null, .null, .int 0, .null]) hx hb hT i_Model t_Model t_Model_ok hown (hT _ ck_Law_25) (hT _ is_Model) (hT _ in_Model) hK2 rfl (fun j hj => by rcases (show j = 0 ∨ j = 1 ∨ j = 2 ∨ j = 3 ∨ j = 4 ∨ j = 5 ∨ j = 6 ∨ j = 7 ∨ j = 8 ∨ j = 9 ∨ j = 10 ∨ j = 11 ∨ j = 12 ∨ j = 13 ∨ j = 14 ∨ j = 15 ∨ j = 16 ∨ j = 17 ∨ j = 18 ∨ j = 19 ∨ j = 20 ∨ j = 21 ∨ j = 22 ∨ j = 23 ∨ j = 24 ∨ j = 25 by omega) with rfl | rfl | rfl | rfl | rfl | rfl | rfl | rfl | rfl | rfl | rfl | rfl | rfl | rfl | rfl | rfl | rfl | rfl | rfl | rfl | rfl | rfl | rfl | rfl | rfl | rfl <;> rfl) (Nat.le_of_ble_eq_true rfl) (Nat.le_of_ble_eq_true rfl) d_Law_law_8 (fun H3 hN3 z3 o3 => ?_)
  have hlt : ∀ k, k < 33 → g k < H2.size := fun k hk => pl_lt hP hk
  have hP := pl_keep (H1 := H3) hP (fun k hk => o3 _ (hlt k hk))
  refine lv_dup hx hb d_Law_law_11 rfl ?_
  have hS3 : va_S (pw_A s) s.heap H3 locs2 := ⟨by have := hS2.1; omega, fun q h1 h2 => (o3 q (Nat.lt_of_lt_of_le h1 hS2.1)).trans (hS2.2.1 q h1 h2), hS2.2.2⟩
  refine pl_ctor (q := H2.size) (rest := [.ref H2.size]) (A := pw_A s) S (c_Model_init (D := D2) (cI := cI2) (cZ := cZ) H2.size H3.size) (cwI 0 hT (ps_gI co_Model_init) rfl rfl rfl (hT _ in_Model) (hT _ ml_Law_27) (hT _ im_Model_init) rfl cd_Model_init ⟨Nat.le_of_ble_eq_true rfl, Nat.le_of_ble_eq_true rfl⟩) (ps_Cblind _ _ _ _ _ _ _) (fun U hU hW => ⟨rfl, by rw [hU], by rw [hU]; exact hN3, va_K.moved hW.alike hK2⟩) hS2.1 hS3 (fun q h => h) hl.1 (Nat.le_of_ble_eq_true rfl) d_Law_law_12 ⟨Nat.le_of_ble_eq_true rfl, Nat.le_of_ble_eq_true rfl⟩ (fun gm H4 locs4 gm0 hP2 hD2 hS4 z4 o4 => ?_)
  obtain ⟨hgm, hgmA⟩ := pw_injD hD2
  have hP := pl_keep (H1 := H4) hP (fun k hk => o4 _ (by have := hlt k hk; omega) (by have := hlt k hk; omega))
  have hlt2 : ∀ k, k < 13 → gm k < H4.size ∧ H2.size ≤ gm k := fun k hk => ⟨pl_lt hP2 hk, by
    rcases hgmA k hk with h | h
    · exact Nat.le_of_eq h.symm
    · omega⟩
  refine pw_setr gm0.symm ?_
  refine lv_astore_n (lv' := [(2, .ref (gm 0)), (1, .ref (g 0)), (0, .ref b)]) hx hb d_Law_law_15 rfl hl (by decide) rfl (fun ls hl => ?_)
  refine lv_iconst (v := nI 1) hx hb d_Law_law_16 (by decide) ?_
  refine pl_newO hx hb (hT _ ac_long) hK (t0 := 1) rfl (Nat.le_of_ble_eq_true rfl) (Nat.le_of_ble_eq_true rfl) d_Law_law_17 (fun H5 hO z5 o5 => ?_)
  have hP := pl_keep (H1 := H5) hP (fun k hk => o5 _ (by have := hlt k hk; omega))
  have hP2 := pl_keep (H1 := H5) hP2 (fun k hk => o5 _ (hlt2 k hk).1)
  have hS5 : va_S (pw_A s) s.heap H5 locs4 := ⟨by have := hS4.1; omega, fun q h1 h2 => (o5 q (Nat.lt_of_lt_of_le h1 hS4.1)).trans (hS4.2.1 q h1 h2), hS4.2.2⟩
  refine lv_astore_n (lv' := [(3, .ref H4.size), (2, .ref (gm 0)), (1, .ref (g 0)), (0, .ref b)]) hx hb d_Law_law_19 rfl hl (by decide) rfl (fun ls hl => ?_)
  refine lv_iconst (v := nI 0) hx hb d_Law_law_20 (by decide) ?_
  refine lv_istore (lv' := pw_lv b g gm H4.size 0) hx hb d_Law_law_21 hl (by decide) rfl (fun ls hl => ?_)
  have F : pw_F p l s m #[Value.ref b] c D cI cJ cT D2 cI2 cZ g gm H4.size b L xs aK aV vo m1 m2 m3 := by
    refine ⟨S, ⟨hK, hK2⟩, ⟨hX, hbl, hL⟩, ⟨hg, hgm, ?_, ?_, ?_⟩, ⟨?_, ?_, hS4.1⟩, hst, hStr, hThr⟩
    · rintro q ⟨i, hi, rfl⟩ ⟨j, hj, e⟩
      have h1 := hlt i hi
      have h2 := (hlt2 j hj).2
      omega
    · rintro ⟨i, hi, e⟩
      have h1 := hlt i hi
      omega
    · rintro ⟨j, hj, e⟩
      have h1 := (hlt2 j hj).1
      omega
    · rintro q ⟨i, hi, rfl⟩
      show s.heap.size ≤ g i
      rcases hgA i hi with h | h
      · exact Nat.le_of_eq h.symm
      · omega
    · rintro q ⟨j, hj, rfl⟩
      have h1 := (hlt2 j hj).2
      have h2 := hS2.1
      show s.heap.size ≤ gm j
      omega
  refine W.widen (k := 47 + 0) (n := 33618 + 6 * 0) (by decide) (by decide) ?_
  refine pw_loop F (fun H locs ls cells slots hS hc hs => ?_) L 0 ps_σ0 pm_τ0 (fun _ => 0) H5 locs4 ls (by omega) (by omega) ⟨hP, hP2, hO, hS5⟩ pl_start hl
  refine lv_iconst (v := 1) hx hb d_Law_law_666 (by decide) ?_
  refine va_forget (fun q hq => hS.2.2 q hq) ?_
  refine W.widen hc hs ?_
  exact lw_ret hx hb hr hlocks d_Law_law_667
