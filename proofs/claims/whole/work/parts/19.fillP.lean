/-! the rows of an answer -/
def ps_fp (n : Int32) (q : Int32 × Int32) : Int32 := if q.1 = -1 then (if n - q.2 < nI 0 then nI 0 else n - q.2) else q.1
def ps_lp (n : Int32) (q : Int32 × Int32) : Int32 := if q.1 = -1 ∨ q.2 = -1 then n - nI 1 else (if n - nI 1 < q.2 then n - nI 1 else q.2)
def ps_pok (q : Int32 × Int32) : Prop := (q.1 = -1 ∨ ∃ z : Nat, z < 100000 ∧ q.1 = nI z) ∧ (q.2 = -1 ∨ ∃ z : Nat, z < 100000 ∧ q.2 = nI z) ∧ ¬ (q.1 = -1 ∧ q.2 = -1)
def ps_row (n : Nat) (q : Int32 × Int32) : Option (Nat × Nat) := if ps_lp (nI n) q < ps_fp (nI n) q then none else some ((ps_fp (nI n) q).toInt.toNat, (ps_lp (nI n) q).toInt.toNat)
theorem ps_m1i : (-1 : Int32).toInt = -1 := by decide
theorem ps_fp_int {n : Nat} {q : Int32 × Int32} (hn : n ≤ 4095) (hq : ps_pok q) : 0 ≤ (ps_fp (nI n) q).toInt ∧ (ps_fp (nI n) q).toInt < 100000 := by
  obtain ⟨h1, h2, h3⟩ := hq
  unfold ps_fp
  by_cases e : q.1 = -1
  · rw [if_pos e]
    rcases h2 with e2 | ⟨z, hz, e2⟩
    · exact absurd ⟨e, e2⟩ h3
    · rw [e2, ps_max0 (by omega) (by omega), nI_toInt (by omega)]
      omega
  · rw [if_neg e]
    rcases h1 with e1 | ⟨z, hz, e1⟩
    · exact absurd e1 e
    · rw [e1, nI_toInt (by omega)]
      omega
theorem ps_lp_int {n : Nat} {q : Int32 × Int32} (hn : n ≤ 4095) (hq : ps_pok q) : (ps_lp (nI n) q).toInt < n := by
  obtain ⟨h1, h2, h3⟩ := hq
  have es : (nI n - nI 1).toInt = n - 1 := by rw [pk_sub_toInt (by omega) (by omega)]; rfl
  unfold ps_lp
  by_cases e : q.1 = -1 ∨ q.2 = -1
  · rw [if_pos e, es]; omega
  · rw [if_neg e]
    split
    · rw [es]; omega
    · rename_i h
      rw [Int32.lt_iff_toInt_lt, es] at h
      omega
theorem ps_ofInt {x : Int32} (h : 0 ≤ x.toInt) : x = nI x.toInt.toNat := by
  have h0 : ¬ x < 0 := by rw [Int32.lt_iff_toInt_lt, Int32.toInt_zero]; omega
  obtain ⟨v, hv, rfl⟩ := nI_of h0
  rw [nI_toInt hv]; rfl
theorem ps_row_spec {n : Nat} {q : Int32 × Int32} (hn : n ≤ 4095) (hq : ps_pok q) : (ps_row n q = none ∧ ps_lp (nI n) q < ps_fp (nI n) q) ∨ ∃ a b : Nat, ps_row n q = some (a, b) ∧ ps_fp (nI n) q = nI a ∧ ps_lp (nI n) q = nI b ∧ a ≤ b ∧ b < n := by
  have hf := ps_fp_int hn hq
  have hl := ps_lp_int hn hq
  by_cases h : ps_lp (nI n) q < ps_fp (nI n) q
  · exact Or.inl ⟨by unfold ps_row; rw [if_pos h], h⟩
  · have h2 := h
    rw [Int32.lt_iff_toInt_lt] at h2
    refine Or.inr ⟨_, _, by unfold ps_row; rw [if_neg h], ps_ofInt hf.1, ps_ofInt (by omega), by omega, by omega⟩
theorem ps_row_xy {n : Nat} {q : Int32 × Int32} (hn : n ≤ 4095) (hq : ps_pok q) : ps_lp (nI n) q < ps_fp (nI n) q ∨ ∃ a b : Nat, ps_fp (nI n) q = nI a ∧ ps_lp (nI n) q = nI b ∧ a ≤ b ∧ b < 4096 := by
  rcases ps_row_spec hn hq with ⟨-, h⟩ | ⟨a, b, -, h1, h2, h3, h4⟩
  · exact Or.inl h
  · exact Or.inr ⟨a, b, h1, h2, h3, by omega⟩
/-- a place is in one of the rows -/
def ps_any (R : List (Nat × Nat)) (q : Nat) : Bool := R.any (fun r => decide (r.1 ≤ q) && decide (q ≤ r.2))
abbrev ps_apt (R : List (Nat × Nat)) : Prop := R.Pairwise (fun r t => r.2 < t.1 ∨ t.2 < r.1)
theorem ps_any_app {R : List (Nat × Nat)} {a b q : Nat} : ps_any (R ++ [(a, b)]) q = (ps_any R q || (decide (a ≤ q) && decide (q ≤ b))) := by
  unfold ps_any
  simp
theorem ps_any_mem {R : List (Nat × Nat)} {q : Nat} : ps_any R q = true ↔ ∃ r ∈ R, r.1 ≤ q ∧ q ≤ r.2 := by
  unfold ps_any
  simp
theorem ps_apt_app {R : List (Nat × Nat)} {a b : Nat} (hR : ∀ r ∈ R, r.1 ≤ r.2) (hab : a ≤ b) : ps_apt (R ++ [(a, b)]) ↔ ps_apt R ∧ ¬ ∃ q, a ≤ q ∧ q ≤ b ∧ ps_any R q = true := by
  unfold ps_apt
  rw [List.pairwise_append]
  constructor
  · rintro ⟨h1, -, h2⟩
    refine ⟨h1, ?_⟩
    rintro ⟨q, q1, q2, q3⟩
    obtain ⟨r, hr, r1, r2⟩ := ps_any_mem.mp q3
    have := h2 r hr (a, b) (List.mem_singleton.mpr rfl)
    simp only at this
    omega
  · rintro ⟨h1, h2⟩
    refine ⟨h1, List.pairwise_singleton _ _, ?_⟩
    intro r hr t ht
    rw [List.mem_singleton] at ht
    subst ht
    show r.2 < a ∨ b < r.1
    apply Classical.byContradiction
    intro hn
    have hr1 := hR r hr
    refine h2 ⟨max a r.1, by omega, by omega, ps_any_mem.mpr ⟨r, hr, by omega, by omega⟩⟩
/-- the reply holds these rows -/
def ps_rowsOK (u : ps_σ) (R : List (Nat × Nat)) : Prop := u.1 6 1 = nI R.length ∧ (∀ i, (hi : i < R.length) → u.2.2.1 7 i = nI R[i].1 ∧ u.2.2.1 8 i = nI R[i].2) ∧ (∀ q, q < 4096 → ps_hs (u.2.2.2 30) q = ps_any R q) ∧ ((u.1 6 4 = nI 1 ∧ ¬ ps_apt R) ∨ (u.1 6 4 = nI 0 ∧ ps_apt R)) ∧ ∀ r ∈ R, r.1 ≤ r.2 ∧ r.2 < 4096
theorem ps_rowsOK.cnt {u : ps_σ} {R : List (Nat × Nat)} (h : ps_rowsOK u R) : u.1 6 1 = nI R.length := h.1
theorem ps_rowsOK.val {u : ps_σ} {R : List (Nat × Nat)} (h : ps_rowsOK u R) : ∀ i, (hi : i < R.length) → u.2.2.1 7 i = nI R[i].1 ∧ u.2.2.1 8 i = nI R[i].2 := h.2.1
theorem ps_rowsOK.want {u : ps_σ} {R : List (Nat × Nat)} (h : ps_rowsOK u R) : ∀ q, q < 4096 → ps_hs (u.2.2.2 30) q = ps_any R q := h.2.2.1
theorem ps_rowsOK.over {u : ps_σ} {R : List (Nat × Nat)} (h : ps_rowsOK u R) : (u.1 6 4 = nI 1 ∧ ¬ ps_apt R) ∨ (u.1 6 4 = nI 0 ∧ ps_apt R) := h.2.2.2.1
theorem ps_rowsOK.ord {u : ps_σ} {R : List (Nat × Nat)} (h : ps_rowsOK u R) : ∀ r ∈ R, r.1 ≤ r.2 ∧ r.2 < 4096 := h.2.2.2.2
def ps_kp (σ u : ps_σ) : Prop := u.1 6 0 = σ.1 6 0 ∧ u.1 6 7 = σ.1 6 7 ∧ u.1 6 8 = σ.1 6 8 ∧ u.2.2.2 31 = σ.2.2.2 31 ∧ u.2.2.2 32 = σ.2.2.2 32
def ps_fi (σ u : ps_σ) (R : List (Nat × Nat)) : Prop := ps_s6 σ u ∧ ps_rowsOK u R ∧ ps_kp σ u
theorem ps_kp_rf (σ : ps_σ) : ps_kp σ σ := ⟨rfl, rfl, rfl, rfl, rfl⟩
theorem ps_kp.trans {σ u v : ps_σ} (h : ps_kp σ u) (h2 : ps_kp u v) : ps_kp σ v := ⟨h2.1.trans h.1, h2.2.1.trans h.2.1, h2.2.2.1.trans h.2.2.1, h2.2.2.2.1.trans h.2.2.2.1, h2.2.2.2.2.trans h.2.2.2.2⟩
theorem ps_fi_add {σ τ u : ps_σ} {R : List (Nat × Nat)} {a b : Nat} (h : ps_fi σ τ R) (hab : a ≤ b) (hb : b < 4096) (s6 : ps_s6 τ u) (k1 : u.1 6 1 = nI (R.length + 1)) (k2 : u.2.2.1 7 = va_up (τ.2.2.1 7) R.length (nI a)) (k3 : u.2.2.1 8 = va_up (τ.2.2.1 8) R.length (nI b))
    (k4 : ∀ q, q < 4096 → ps_hs (u.2.2.2 30) q = (ps_hs (τ.2.2.2 30) q || (decide (a ≤ q) && decide (q ≤ b)))) (k5 : ((∃ q, a ≤ q ∧ q ≤ b ∧ ps_hs (τ.2.2.2 30) q = true) ∧ u.1 6 4 = nI 1) ∨ ((¬ ∃ q, a ≤ q ∧ q ≤ b ∧ ps_hs (τ.2.2.2 30) q = true) ∧ u.1 6 4 = τ.1 6 4)) (kp : ps_kp τ u) : ps_fi σ u (R ++ [(a, b)]) := by
  obtain ⟨h1, h2, h3⟩ := h
  have ex : (∃ q, a ≤ q ∧ q ≤ b ∧ ps_hs (τ.2.2.2 30) q = true) ↔ ∃ q, a ≤ q ∧ q ≤ b ∧ ps_any R q = true := by
    constructor
    · rintro ⟨q, q1, q2, q3⟩; exact ⟨q, q1, q2, by rw [← h2.want q (by omega)]; exact q3⟩
    · rintro ⟨q, q1, q2, q3⟩; exact ⟨q, q1, q2, by rw [h2.want q (by omega)]; exact q3⟩
  rw [ex] at k5
  have ap := ps_apt_app (R := R) (a := a) (b := b) (fun r hr => (h2.ord r hr).1) hab
  refine ⟨h1.trans s6, ⟨by rw [k1]; simp, ?_, fun q hq => by rw [k4 q hq, h2.want q hq, ps_any_app], ?_, ?_⟩, h3.trans kp⟩
  · rw [k2, k3]; exact ps_ptN rfl h2.val
  · rcases k5 with ⟨x1, x2⟩ | ⟨x1, x2⟩
    · exact Or.inl ⟨x2, fun z => (ap.mp z).2 x1⟩
    · rcases h2.over with ⟨y1, y2⟩ | ⟨y1, y2⟩
      · exact Or.inl ⟨x2.trans y1, fun z => y2 (ap.mp z).1⟩
      · exact Or.inr ⟨x2.trans y1, ap.mpr ⟨y2, x1⟩⟩
  · intro r hr
    rcases List.mem_append.mp hr with z | z
    · exact h2.ord r z
    · rw [List.mem_singleton] at z; subst z; exact ⟨hab, hb⟩
/-- what addRow says, as one step of the rows -/
theorem ps_fi_step {σ τ u : ps_σ} {R : List (Nat × Nat)} {x y : Int32} {o : Option (Nat × Nat)} (h : ps_fi σ τ R) (ho : (o = none ∧ y < x) ∨ ∃ a b : Nat, o = some (a, b) ∧ x = nI a ∧ y = nI b ∧ a ≤ b ∧ b < 4096)
    (hz : (y < x ∧ u = τ) ∨ (∃ a b : Nat, x = nI a ∧ y = nI b ∧ a ≤ b ∧ b < 4096 ∧ ps_s6 τ u ∧ u.1 6 1 = nI (R.length + 1) ∧ u.2.2.1 7 = va_up (τ.2.2.1 7) R.length x ∧ u.2.2.1 8 = va_up (τ.2.2.1 8) R.length y ∧ (∀ q, q < 4096 → ps_hs (u.2.2.2 30) q = (ps_hs (τ.2.2.2 30) q || (decide (a ≤ q) && decide (q ≤ b)))) ∧ (((∃ q, a ≤ q ∧ q ≤ b ∧ ps_hs (τ.2.2.2 30) q = true) ∧ u.1 6 4 = nI 1) ∨ ((¬ ∃ q, a ≤ q ∧ q ≤ b ∧ ps_hs (τ.2.2.2 30) q = true) ∧ u.1 6 4 = τ.1 6 4)) ∧ u.1 6 0 = τ.1 6 0 ∧ u.1 6 7 = τ.1 6 7 ∧ u.1 6 8 = τ.1 6 8 ∧ u.2.2.2 31 = τ.2.2.2 31 ∧ u.2.2.2 32 = τ.2.2.2 32)) : ps_fi σ u (R ++ o.toList) := by
  rcases hz with ⟨z1, rfl⟩ | ⟨a, b, rfl, rfl, z3, z4, z5, z6, z7, z8, z9, z10, z11⟩
  · rcases ho with ⟨rfl, -⟩ | ⟨a, b, -, rfl, rfl, y3, y4⟩
    · simpa using h
    · exact absurd z1 (nI_nlt y3 (by omega))
  · rcases ho with ⟨-, y2⟩ | ⟨a2, b2, rfl, y1, y2, y3, y4⟩
    · exact absurd y2 (nI_nlt z3 (by omega))
    · have e1 : a = a2 := (nI_eq (by omega) (by omega)).mp y1
      have e2 : b = b2 := (nI_eq (by omega) (by omega)).mp y2
      subst e1 e2
      exact ps_fi_add h z3 z4 z5 z6 z7 z8 z9 z10 z11
theorem ps_row_o {n : Nat} {q : Int32 × Int32} (hn : n ≤ 4095) (hq : ps_pok q) : (ps_row n q = none ∧ ps_lp (nI n) q < ps_fp (nI n) q) ∨ ∃ a b : Nat, ps_row n q = some (a, b) ∧ ps_fp (nI n) q = nI a ∧ ps_lp (nI n) q = nI b ∧ a ≤ b ∧ b < 4096 := by
  rcases ps_row_spec hn hq with h | ⟨a, b, h0, h1, h2, h3, h4⟩
  · exact Or.inl h
  · exact Or.inr ⟨a, b, h0, h1, h2, h3, by omega⟩
theorem ps_rk {n k : Nat} {L : List (Int32 × Int32)} (hk : k < L.length) : (L.take (k + 1)).filterMap (ps_row n) = (L.take k).filterMap (ps_row n) ++ (ps_row n L[k]).toList := by
  rw [List.take_succ_eq_append_getElem hk, List.filterMap_append]
  congr 1
theorem ps_rk_len {n k : Nat} {L : List (Int32 × Int32)} : ((L.take k).filterMap (ps_row n)).length ≤ k := by
  have h1 := List.length_filterMap_le (ps_row n) (L.take k)
  rw [List.length_take] at h1
  omega
/-- all rows of a text's parts, or of no text; the answer's kind -/
def ps_rws (n : Nat) (L : List (Int32 × Int32)) : List (Nat × Nat) := if L = [] then (if n = 0 then [] else [(0, n - 1)]) else L.filterMap (ps_row n)
def ps_kd (L : List (Int32 × Int32)) (R : List (Nat × Nat)) : Int32 := if L = [] then nI 0 else if R = [] then nI 2 else nI 1
theorem ps_w_o {n : Nat} (hn : n ≤ 4095) : ((if n = 0 then none else some (0, n - 1)) = (none : Option (Nat × Nat)) ∧ nI n - nI 1 < nI 0) ∨ ∃ a b : Nat, (if n = 0 then none else some (0, n - 1)) = some (a, b) ∧ nI 0 = nI a ∧ nI n - nI 1 = nI b ∧ a ≤ b ∧ b < 4096 := by
  by_cases e : n = 0
  · subst e; exact Or.inl ⟨rfl, by decide⟩
  · rw [if_neg e]
    exact Or.inr ⟨0, n - 1, rfl, rfl, pk_sub (by omega), by omega, by omega⟩
theorem ps_w_xy {n : Nat} (hn : n ≤ 4095) : nI n - nI 1 < nI 0 ∨ ∃ a b : Nat, nI 0 = nI a ∧ nI n - nI 1 = nI b ∧ a ≤ b ∧ b < 4096 := by
  rcases ps_w_o hn with ⟨-, h⟩ | ⟨a, b, -, h1⟩
  · exact Or.inl h
  · exact Or.inr ⟨a, b, h1⟩
theorem ps_w_e {n : Nat} : ([] : List (Nat × Nat)) ++ (if n = 0 then none else some (0, n - 1) : Option (Nat × Nat)).toList = ps_rws n [] := by
  unfold ps_rws
  rw [if_pos rfl]
  by_cases e : n = 0
  · rw [if_pos e, if_pos e]; rfl
  · rw [if_neg e, if_neg e]; rfl
theorem ps_len0 {α : Type} {L : List α} : nI L.length = 0 → L.length < 2 ^ 31 → L = [] := fun h hl => List.length_eq_zero_iff.mp ((nI_eq (b := 0) hl (by decide)).mp h)
theorem ps_rws_len {n : Nat} {L : List (Int32 × Int32)} (h : L.length ≤ 6) : (ps_rws n L).length ≤ 6 := by
  unfold ps_rws
  split
  · split <;> simp
  · have := List.length_filterMap_le (ps_row n) L
    omega
