/-! rows of the law: new things beside worlds that stay -/
section PlLaw
variable {p : Program} {l : Launch} {e : Env} {R : Room} {s : State} {m : MethodId} {args : Array Value} {below : List Frame} {meth : Method} {c : Code} {H : Heap} {locs : List Loc} {cells slots : Nat} {Q : State → Prop}
variable {cc bytes : ByteArray} {pc nL maxL index na ci : Nat} {ls : Array Slot} {rest : List Value} {D : va_G} {cl : List vw_C} {tys : List (ClassId × FieldType)} {H0 : Heap} {A : Nat → Prop} {y : MethodName} {Ts wsy : List Cond} {rm : Room} {own : String}
theorem pl_new (hexec : p.tables.exec = Jvm.exec) (hb : c.code = cc) {C : String} {T : u_T} {N : Nat} (hts : ∀ w ∈ Ts, w.before args s = true) (hin : ∀ w ∈ u_ws C T N, w ∈ Ts) (ty : Nat → FieldType) (hty : ∀ k, k < N → parseFieldDescriptor (T k).2.2.1 = some (ty k)) (hown : s.vm.findClass own = some m.cls) (hcl : (Cond.classLink own index C).before args s = true) (hinst : (Cond.instantiable C N).before args s = true) (hini : (Cond.initialized C).before args s = true)
    (hK : va_K D cl tys s) (hc : cl[ci]? = some (C, T, N)) {fs : List Value} (hfs : ∀ j, j < N → defaultValue (ty j) = vp_V fs j) (hcells : cells + 1 ≤ R.cells) (hslots : slots + N ≤ R.slots) (hdg : decode cc pc = .ok (.new index, 3))
    (kk : ∀ H1 : Heap, va_P D cl [(H.size, .inr (ci, fs))] H1 → H1.size = H.size + 1 → (∀ x, x < H.size → H1[x]? = H[x]?) → W p l e R s m args below meth c H1 locs (cells + 1) (slots + N) Q (F0 m (pc + 3) ls (.ref H.size :: rest))) : W p l e R s m args below meth c H locs cells slots Q (F0 m pc ls rest) := by
  have hKn := hK.1 ci _ hc
  refine W.newcK hexec hb hown hcl hinst hini rfl hdg hcells hslots hKn.2.1 rfl fun H1 kC hkC e1 z1 o1 => kk H1 (fun k x hx => ?_) z1 o1
  have hz : k < 1 := (List.getElem?_eq_some_iff.mp hx).1
  rw [show k = 0 by omega] at hx
  cases hx
  exact ⟨_, hc, (u_born ty hts hin hKn hkC e1 hty).to hfs⟩
theorem pl_newO (hexec : p.tables.exec = Jvm.exec) (hb : c.code = cc) (harr : (Cond.arrayClass .long).before args s = true) (hK : va_K D cl tys s) {t0 : Nat} {cJ : ClassId} (ht0 : tys[t0]? = some (cJ, .long)) (hcells : cells + 1 ≤ R.cells) (hslots : slots + 1 ≤ R.slots) (hdg : decode cc pc = .ok (.newarray .long, 2))
    (kk : ∀ H1 : Heap, va_P D cl (ps_oE cJ H.size (fun _ => 0)) H1 → H1.size = H.size + 1 → (∀ x, x < H.size → H1[x]? = H[x]?) → W p l e R s m args below meth c H1 locs (cells + 1) (slots + 1) Q (F0 m (pc + 2) ls (.ref H.size :: rest))) : W p l e R s m args below meth c H locs cells slots Q (F0 m pc ls (.int (nI 1) :: rest)) := by
  refine va_newaK (g := F0 m pc ls (.int (nI 1) :: rest)) (n := nI 1) (N := 1) (rest := rest) hexec hb (atype := .long) harr rfl hdg rfl (by decide) (by decide) (Nat.le_of_ble_eq_true rfl) hcells hslots rfl fun H1 cA e1 z1 o1 hAr hNm => ?_
  have e9 : cA = cJ := ps_RA_inj (ty := .long) hNm (hK.2 t0 _ ht0).2
  subst e9
  exact kk H1 (ps_oE_1.mpr e1) z1 o1
theorem pl_ctor {mc ms q : Nat} {Pc : Array Value → State → Prop} {ww : (Nat → Nat) → va_W} (S : CallFix p m c cc nL s args Ts own) (hM : Met l y wsy rm Pc (ps_Cq D cl q H.size ww) mc ms (ps_A q H.size)) (cw : CallB R s args own index y bytes maxL none wsy rm mc ms 0 ∧ y.name = "<init>" ∧ (Cond.instanceMethod y).before args s = true)
    (hbl : FrameBlind Pc) (hpre : ∀ U : State, U.heap = H → s.WarmedH U.vm → Pc ([Value.ref q] : List Value).toArray U) (hAq : A q) (hS : va_S A H0 H locs) (hA : ∀ q, H0.size ≤ q → A q) (hsize : ls.size = nL) (hW : (rest.map fun v => v.category).sum ≤ 8)
    (hdg : decode cc pc = .ok (.invokespecial index, 3)) (hf : cells + mc ≤ R.cells ∧ slots + ms ≤ R.slots)
    (kk : ∀ (g : Nat → Nat) (H1 : Heap) (locs1 : List Loc), g 0 = q → va_P D cl (ww g) H1 → va_D (ps_A q H.size) (ww g) → va_S A H0 H1 locs1 → H.size ≤ H1.size → (∀ x, x < H.size → x ≠ q → H1[x]? = H[x]?) → W p l e R s m args below meth c H1 locs1 (cells + mc) (slots + ms) Q (F0 m (pc + 3) ls rest)) : W p l e R s m args below meth c H locs cells slots Q (F0 m pc ls (.ref q :: rest)) := by
  have hF : ∀ x, ps_A q H.size x → A x := fun x hx => by
    rcases hx with rfl | hx
    · exact hAq
    · exact hA x (Nat.le_trans hS.1 hx)
  refine va_callv (va_runI (As := []) (rest := rest) S hM cw ⟨hbl, hpre⟩ rfl rfl hsize rfl (lv_room hW) hdg hf) hS (fun x _ h => hF x h) hF (fun g t H1 locs1 ht hvm hg hB hz1 hk1 hS1 => ?_)
  obtain ⟨hP1, hD1⟩ := hB
  rw [ht] at hP1
  exact kk g H1 locs1 hg hP1 hD1 hS1 hz1 (fun x h1 h2 => hk1 x h1 (fun h => by
    rcases h with h | h
    · exact h2 h
    · omega))
theorem pl_keep {n : Nat} {g : Nat → Nat} {E : Nat → va_E} {H1 : Heap} (hP : va_P D cl (ps_wl n g E) H) (hk : ∀ k, k < n → H1[g k]? = H[g k]?) : va_P D cl (ps_wl n g E) H1 := va_P.kept hP (fun k x hx => by
  obtain ⟨h1, rfl⟩ := ps_wl_of hx
  exact hk k h1)
theorem pl_lt {n : Nat} {g : Nat → Nat} {E : Nat → va_E} (hP : va_P D cl (ps_wl n g E) H) {k : Nat} (hk : k < n) : g k < H.size := (ps_wl_P.mp hP k hk).lt
end PlLaw
