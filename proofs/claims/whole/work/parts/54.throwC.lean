/-! contracts that end in a throw -/
def ps_PcT (D : va_G) (cl : List vw_C) (tys : List (ClassId × FieldType)) (n : Nat) (g : Nat → Nat) (E : Nat → va_E) (m1 m2 m3 : Nat) (vs : List Value) : Array Value → State → Prop :=
  va_Pc vs (fun U => (va_P D cl (ps_wl n g E) U.heap ∧ va_K D cl tys U) ∧ ps_Thr m1 m2 m3 ps_F U U.heap)
def ps_PcST (D : va_G) (cl : List vw_C) (tys : List (ClassId × FieldType)) (n : Nat) (g : Nat → Nat) (E : Nat → va_E) (aK aV : Nat) (vo : Option Nat) (m1 m2 m3 : Nat) (vs : List Value) : Array Value → State → Prop :=
  va_Pc vs (fun U => ((va_P D cl (ps_wl n g E) U.heap ∧ va_K D cl tys U) ∧ ps_Str aK aV vo ps_F U U.heap) ∧ ps_Thr m1 m2 m3 ps_F U U.heap)
theorem ps_blindT (D : va_G) (cl : List vw_C) (tys : List (ClassId × FieldType)) (n : Nat) (g : Nat → Nat) (E : Nat → va_E) (m1 m2 m3 : Nat) (vs : List Value) : FrameBlind (ps_PcT D cl tys n g E m1 m2 m3 vs) := fun a U f mk q => by
  obtain ⟨q0, ⟨qP, qK⟩, qT⟩ := q
  exact ⟨q0, ⟨qP, va_K.moved (u := U) (U := U.calling f mk a) (Vm.Alike.refl U.vm) qK⟩, ps_Thr.blind qT⟩
theorem ps_blindST (D : va_G) (cl : List vw_C) (tys : List (ClassId × FieldType)) (n : Nat) (g : Nat → Nat) (E : Nat → va_E) (aK aV : Nat) (vo : Option Nat) (m1 m2 m3 : Nat) (vs : List Value) : FrameBlind (ps_PcST D cl tys n g E aK aV vo m1 m2 m3 vs) := fun a U f mk q => by
  obtain ⟨q0, ⟨⟨qP, qK⟩, qS⟩, qT⟩ := q
  exact ⟨q0, ⟨⟨qP, va_K.moved (u := U) (U := U.calling f mk a) (Vm.Alike.refl U.vm) qK⟩, ps_Str.blind qS⟩, ps_Thr.blind qT⟩
def ps_Qt {S : Type} (D : va_G) (cl : List vw_C) (n : Nat) (g : Nat → Nat) (EE : S → Nat → va_E) (post : S → Prop) (X : String) : Array Value → State → Addr → State → Prop := fun _ st a t =>
  (∃ u, post u ∧ va_P D cl (ps_wl n g (EE u)) t.heap) ∧ va_F (ps_wA n g) st t ∧ st.heap.size ≤ a ∧ ∃ ce : Cell, t.heap[a]? = some ce ∧ st.vm.findClass X = some ce.cls ∧ ce.vm = .none
theorem ps_Qt_of {S : Type} {D : va_G} {cl : List vw_C} {n : Nat} {g : Nat → Nat} {EE : S → Nat → va_E} {post : S → Prop} {X : String} {args : Array Value} {s t : State} {H : Heap} {locs : List Loc} (u : S) (hp : post u) (hP : va_P D cl (ps_wl n g (EE u)) H) (hS : va_S (ps_wA n g) s.heap H locs) {ce : Cell} (hz : t.heap.size = H.size + 1) (hk : ∀ q, q < H.size → t.heap[q]? = H[q]?) (hce : t.heap[H.size]? = some ce) (hfc : s.vm.findClass X = some ce.cls) (hvm : ce.vm = .none) : ps_Qt D cl n g EE post X args s H.size t :=
  ⟨⟨u, hp, va_P.kept hP (fun k x hx => hk x.1 (hP k x hx).lt)⟩, ⟨by rw [hz]; exact Nat.le_succ_of_le hS.1, fun q h1 h2 => (hk q (Nat.lt_of_lt_of_le h1 hS.1)).trans (hS.2.1 q h1 h2)⟩, hS.1, ce, hce, hfc, hvm⟩
theorem ps_fnd0 {g : Nat → Nat} {x : Int32} {r : Option Nat} (hb : x < 0 ∨ nI 6 ≤ x) (h : (∃ j : Nat, j < 6 ∧ x = nI j ∧ r = some (g (9 + j))) ∨ ((x < 0 ∨ nI 6 ≤ x) ∧ r = none)) : r = none := by
  rcases h with ⟨j, h1, h2, h3⟩ | ⟨-, h1⟩
  · rw [h2] at hb; exact absurd hb (ps_not_out h1 (by decide))
  · exact h1
