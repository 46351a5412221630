/-! the reply's words -/
/-- nothing but the reply's own cells has changed -/
def ps_s6 (σ u : ps_σ) : Prop := (∀ k, k ≠ 6 → u.1 k = σ.1 k) ∧ u.2.1 = σ.2.1 ∧ (∀ k, k ≠ 7 → k ≠ 8 → u.2.2.1 k = σ.2.2.1 k) ∧ ∀ k, k < 30 → u.2.2.2 k = σ.2.2.2 k
theorem ps_s6_rf (σ : ps_σ) : ps_s6 σ σ := ⟨fun _ _ => rfl, rfl, fun _ _ _ => rfl, fun _ _ => rfl⟩
theorem ps_s6.trans {σ u v : ps_σ} (h : ps_s6 σ u) (h2 : ps_s6 u v) : ps_s6 σ v :=
  ⟨fun k hk => (h2.1 k hk).trans (h.1 k hk), h2.2.1.trans h.2.1, fun k h7 h8 => (h2.2.2.1 k h7 h8).trans (h.2.2.1 k h7 h8), fun k hk => (h2.2.2.2 k hk).trans (h.2.2.2 k hk)⟩
theorem ps_s6I {σ u : ps_σ} {j : Nat} {v : Int32} (h : ps_s6 σ u) : ps_s6 σ (ps_upI u 6 j v) :=
  ⟨fun k hk => (va_up_ne _ _ hk).trans (h.1 k hk), h.2.1, h.2.2.1, h.2.2.2⟩
theorem ps_s6A7 {σ u : ps_σ} {f : Nat → Int32} (h : ps_s6 σ u) : ps_s6 σ (ps_upA u 7 f) :=
  ⟨h.1, h.2.1, fun k h7 h8 => (va_up_ne _ _ h7).trans (h.2.2.1 k h7 h8), h.2.2.2⟩
theorem ps_s6A8 {σ u : ps_σ} {f : Nat → Int32} (h : ps_s6 σ u) : ps_s6 σ (ps_upA u 8 f) :=
  ⟨h.1, h.2.1, fun k h7 h8 => (va_up_ne _ _ h8).trans (h.2.2.1 k h7 h8), h.2.2.2⟩
theorem ps_s6B {σ u : ps_σ} {k0 : Nat} {f : Nat → Int64} (hk0 : 30 ≤ k0) (h : ps_s6 σ u) : ps_s6 σ (ps_upB u k0 f) :=
  ⟨h.1, h.2.1, h.2.2.1, fun k hk => (va_up_ne _ _ (by omega)).trans (h.2.2.2 k hk)⟩
theorem ps_hs_zero {f : Nat → Int64} (h : ∀ j, j < 64 → f j = 0) : ∀ q, q < 4096 → ps_hs f q = false := by
  intro q hq
  unfold ps_hs
  rw [h (q / 64) (by omega)]
  exact ps_bt_0 _
theorem ps_ad_lt {S : Nat → Bool} {a b : Nat} (hab : a ≤ b) (hb : b < 4096) : ps_cn (ps_ad S a b) 4096 < b - a + 1 ↔ ∃ q, a ≤ q ∧ q ≤ b ∧ S q = true := by
  have h1 := ps_cn_split (P := fun j => decide (a ≤ j) && decide (j ≤ b)) (Q := S) 4096
  have h2 : ps_cn (fun j => decide (a ≤ j) && decide (j ≤ b)) 4096 = b - a + 1 := by rw [ps_cn_range]; omega
  have h3 : ps_cn (fun j => (decide (a ≤ j) && decide (j ≤ b)) && !S j) 4096 = ps_cn (ps_ad S a b) 4096 := rfl
  rw [h2, h3] at h1
  constructor
  · intro h
    apply Classical.byContradiction
    intro hn
    have : ps_cn (fun j => (decide (a ≤ j) && decide (j ≤ b)) && S j) 4096 = 0 := ps_cn_none (fun j _ => by
      by_cases ha : a ≤ j
      · by_cases hb2 : j ≤ b
        · cases hs : S j with
          | false => simp
          | true => exact absurd ⟨j, ha, hb2, hs⟩ hn
        · rw [decide_eq_false hb2]; simp
      · rw [decide_eq_false ha]; simp)
    omega
  · rintro ⟨q, q1, q2, q3⟩
    have := ps_cn_lt (P := fun j => (decide (a ≤ j) && decide (j ≤ b)) && S j) (n := 4096) (j := q) (by omega) (by rw [decide_eq_true q1, decide_eq_true q2, q3]; rfl)
    omega
/-- the spans of a set from place p on, at most c of them -/
def ps_spF (W : Nat → Bool) : Nat → Nat → List (Nat × Nat)
  | 0, _ => []
  | c + 1, p => if ps_nx W true p < 4096 then (ps_nx W true p, ps_nx W false (ps_nx W true p) - 1) :: ps_spF W c (ps_nx W false (ps_nx W true p)) else []
/-- the last place of a fetch -/
def ps_lof (M : Nat → Bool) (c : Nat) : Nat → Nat → Nat
  | 0, z => z
  | k + 1, z => if ps_nx M true (z + 1) = 4096 ∨ c < ps_nx M true (z + 1) - z - 1 then z else ps_lof M c k (ps_nx M false (ps_nx M true (z + 1)) - 1)
/-- the plan from place p on, at most k rows -/
def ps_plF (M : Nat → Bool) (c : Nat) : Nat → Nat → List (Nat × Nat)
  | 0, _ => []
  | k + 1, p => if ps_nx M true p < 4096 then (ps_nx M true p, ps_lof M c 4096 (ps_nx M true p)) :: ps_plF M c k (ps_lof M c 4096 (ps_nx M true p) + 1) else []
theorem ps_nx_false_gt {W : Nat → Bool} {p : Nat} (hp : p < 4096) (h : W p = true) : p < ps_nx W false p ∧ ps_nx W false p ≤ 4096 := by
  obtain ⟨a1, a2, a3, a4⟩ := ps_nx_spec W false (p := p) (by omega)
  refine ⟨?_, a2⟩
  rcases Nat.lt_or_ge p (ps_nx W false p) with z | z
  · exact z
  · have e : ps_nx W false p = p := by omega
    have := a4 (by omega)
    rw [e, h] at this
    cases this
theorem ps_nx_true {W : Nat → Bool} {p : Nat} (hp : p ≤ 4096) (h : ps_nx W true p < 4096) : W (ps_nx W true p) = true := (ps_nx_spec W true hp).2.2.2 h
theorem ps_lof_spec {M : Nat → Bool} {c : Nat} : ∀ (k z : Nat), z < 4096 → M z = true → z ≤ ps_lof M c k z ∧ ps_lof M c k z < 4096 ∧ M (ps_lof M c k z) = true
  | 0, z, hz, hm => ⟨Nat.le_refl z, hz, hm⟩
  | k + 1, z, hz, hm => by
    rw [ps_lof]
    split
    · exact ⟨Nat.le_refl z, hz, hm⟩
    · rename_i h
      have s := ps_nx_spec M true (p := z + 1) (by omega)
      have h1 : ps_nx M true (z + 1) < 4096 := by omega
      have h2 := ps_nx_false_gt h1 (s.2.2.2 h1)
      have s2 := ps_nx_spec M false (p := ps_nx M true (z + 1)) (by omega)
      have h3 : M (ps_nx M false (ps_nx M true (z + 1)) - 1) = true := by
        rcases Nat.lt_or_ge (ps_nx M true (z + 1)) (ps_nx M false (ps_nx M true (z + 1)) - 1) with q | q
        · have := s2.2.2.1 (ps_nx M false (ps_nx M true (z + 1)) - 1) (by omega) (by omega)
          rw [Bool.not_eq_false] at this
          exact this
        · rw [show ps_nx M false (ps_nx M true (z + 1)) - 1 = ps_nx M true (z + 1) by omega]
          exact s.2.2.2 h1
      have := ps_lof_spec (M := M) (c := c) k (ps_nx M false (ps_nx M true (z + 1)) - 1) (by omega) h3
      exact ⟨by omega, this.2.1, this.2.2⟩
theorem ps_sw6 (x : Int32) : (x.toInt < 0 ∨ 5 < x.toInt) ∨ x = nI 0 ∨ x = nI 1 ∨ x = nI 2 ∨ x = nI 3 ∨ x = nI 4 ∨ x = nI 5 := by
  rcases pk_ix x (n := 6) (by decide) with h | h | ⟨j, hj, rfl⟩
  · rw [Int32.lt_iff_toInt_lt, Int32.toInt_zero] at h
    exact Or.inl (Or.inl h)
  · rw [Int32.le_iff_toInt_le, nI_toInt (by decide)] at h
    exact Or.inl (Or.inr (by omega))
  · right
    have : j = 0 ∨ j = 1 ∨ j = 2 ∨ j = 3 ∨ j = 4 ∨ j = 5 := by omega
    rcases this with rfl | rfl | rfl | rfl | rfl | rfl <;> simp
theorem ps_sw4 (x : Int32) : (x.toInt < 0 ∨ 3 < x.toInt) ∨ x = nI 0 ∨ x = nI 1 ∨ x = nI 2 ∨ x = nI 3 := by
  rcases pk_ix x (n := 4) (by decide) with h | h | ⟨j, hj, rfl⟩
  · rw [Int32.lt_iff_toInt_lt, Int32.toInt_zero] at h
    exact Or.inl (Or.inl h)
  · rw [Int32.le_iff_toInt_le, nI_toInt (by decide)] at h
    exact Or.inl (Or.inr (by omega))
  · right
    have : j = 0 ∨ j = 1 ∨ j = 2 ∨ j = 3 := by omega
    rcases this with rfl | rfl | rfl | rfl <;> simp
def ps_num (σ : ps_σ) (x : Int32) : Int32 := if σ.1 6 0 = -1 then -1 else if x = nI 0 then σ.1 6 1 else if x = nI 1 then σ.1 6 5 else if x = nI 2 then σ.1 6 6 else if x = nI 3 then σ.1 6 7 else if x = nI 4 then σ.1 6 8 else if x = nI 5 then σ.1 6 0 else -1
theorem ps_num_out {σ : ps_σ} {x : Int32} (h : x.toInt < 0 ∨ 5 < x.toInt) : ps_num σ x = -1 := by
  have ne : ∀ j : Nat, j < 6 → ¬ x = nI j := fun j hj e => by
    rw [e, nI_toInt (by omega)] at h
    omega
  unfold ps_num
  rw [if_neg (ne 0 (by omega)), if_neg (ne 1 (by omega)), if_neg (ne 2 (by omega)), if_neg (ne 3 (by omega)), if_neg (ne 4 (by omega)), if_neg (ne 5 (by omega))]
  split <;> rfl
theorem ps_ptN {P : List (Nat × Nat)} {fb fh : Nat → Int32} {k a b : Nat} (hpl : P.length = k) (h : ∀ i, (hi : i < P.length) → fb i = nI P[i].1 ∧ fh i = nI P[i].2) : ∀ i, (hj : i < (P ++ [(a, b)]).length) → va_up fb k (nI a) i = nI (P ++ [(a, b)])[i].1 ∧ va_up fh k (nI b) i = nI (P ++ [(a, b)])[i].2 := by
  intro i hj
  rcases Nat.lt_or_ge i P.length with z | z
  · rw [va_up_ne _ _ (by omega), va_up_ne _ _ (by omega), List.getElem_append_left z]
    exact h i z
  · have e : i = k := by
      rw [List.length_append, List.length_singleton] at hj
      omega
    subst e
    rw [va_up_self, va_up_self]
    simp [hpl]
theorem ps_spF_no {W : Nat → Bool} {p : Nat} (c : Nat) (h : 4096 ≤ ps_nx W true p) : ps_spF W c p = [] := by
  cases c with
  | zero => rfl
  | succ c => rw [ps_spF, if_neg (by omega)]
theorem ps_spF_yes {W : Nat → Bool} {p c : Nat} (hc : 0 < c) (h : ps_nx W true p < 4096) : ps_spF W c p = (ps_nx W true p, ps_nx W false (ps_nx W true p) - 1) :: ps_spF W (c - 1) (ps_nx W false (ps_nx W true p)) := by
  obtain ⟨c, rfl⟩ : ∃ z, c = z + 1 := ⟨c - 1, by omega⟩
  rw [ps_spF, if_pos h]; rfl
theorem ps_plF_no {M : Nat → Bool} {c p : Nat} (k : Nat) (h : 4096 ≤ ps_nx M true p) : ps_plF M c k p = [] := by
  cases k with
  | zero => rfl
  | succ k => rw [ps_plF, if_neg (by omega)]
theorem ps_plF_yes {M : Nat → Bool} {c p k : Nat} (hk : 0 < k) (h : ps_nx M true p < 4096) : ps_plF M c k p = (ps_nx M true p, ps_lof M c 4096 (ps_nx M true p)) :: ps_plF M c (k - 1) (ps_lof M c 4096 (ps_nx M true p) + 1) := by
  obtain ⟨k, rfl⟩ : ∃ z, k = z + 1 := ⟨k - 1, by omega⟩
  rw [ps_plF, if_pos h]; rfl
theorem ps_lof_stop {M : Nat → Bool} {c k z : Nat} (h : ps_nx M true (z + 1) = 4096 ∨ c < ps_nx M true (z + 1) - z - 1) : ps_lof M c k z = z := by
  cases k with
  | zero => rfl
  | succ k => rw [ps_lof, if_pos h]
theorem ps_lof_go {M : Nat → Bool} {c k z : Nat} (hk : 0 < k) (h : ¬ (ps_nx M true (z + 1) = 4096 ∨ c < ps_nx M true (z + 1) - z - 1)) : ps_lof M c k z = ps_lof M c (k - 1) (ps_nx M false (ps_nx M true (z + 1)) - 1) := by
  obtain ⟨k, rfl⟩ : ∃ z, k = z + 1 := ⟨k - 1, by omega⟩
  rw [ps_lof, if_neg h]; rfl
theorem ps_lof_st {M : Nat → Bool} {z : Nat} (hz : z < 4096) (h : ¬ ps_nx M true (z + 1) = 4096) : z < ps_nx M true (z + 1) ∧ ps_nx M true (z + 1) < 4096 ∧ ps_nx M true (z + 1) < ps_nx M false (ps_nx M true (z + 1)) ∧ ps_nx M false (ps_nx M true (z + 1)) ≤ 4096 ∧ M (ps_nx M false (ps_nx M true (z + 1)) - 1) = true := by
  have s := ps_nx_spec M true (p := z + 1) (by omega)
  have h1 : ps_nx M true (z + 1) < 4096 := by omega
  have h2 := ps_nx_false_gt h1 (s.2.2.2 h1)
  have s2 := ps_nx_spec M false (p := ps_nx M true (z + 1)) (by omega)
  refine ⟨by omega, h1, h2.1, h2.2, ?_⟩
  rcases Nat.lt_or_ge (ps_nx M true (z + 1)) (ps_nx M false (ps_nx M true (z + 1)) - 1) with q | q
  · have := s2.2.2.1 (ps_nx M false (ps_nx M true (z + 1)) - 1) (by omega) (by omega)
    rw [Bool.not_eq_false] at this
    exact this
  · rw [show ps_nx M false (ps_nx M true (z + 1)) - 1 = ps_nx M true (z + 1) by omega]
    exact s.2.2.2 h1
/-- what a plan costs -/
def ps_pr1 (c : Nat) (P : List (Nat × Nat)) : Nat := (P.map (fun r => c + r.2 - r.1 + 1)).sum
theorem ps_BI {σ : ps_σ} {k j k2 : Nat} {v : Int32} {f : Nat → Int64} : ps_upB (ps_upI σ k j v) k2 f = ps_upI (ps_upB σ k2 f) k j v := rfl
theorem ps_B3231 {σ : ps_σ} {f h : Nat → Int64} : ps_upB (ps_upB σ 32 f) 31 h = ps_upB (ps_upB σ 31 h) 32 f := by
  unfold ps_upB
  rw [show va_up (va_up σ.2.2.2 32 f) 31 h = va_up (va_up σ.2.2.2 31 h) 32 f from funext (fun j => by unfold va_up; by_cases a : j = 31 <;> by_cases b : j = 32 <;> simp_all)]
theorem ps_I87 {σ : ps_σ} {v w : Int32} : ps_upI (ps_upI σ 6 8 v) 6 7 w = ps_upI (ps_upI σ 6 7 w) 6 8 v := by
  unfold ps_upI
  show (va_up (va_up σ.1 6 (va_up (σ.1 6) 8 v)) 6 (va_up (va_up σ.1 6 (va_up (σ.1 6) 8 v) 6) 7 w), σ.2) = (va_up (va_up σ.1 6 (va_up (σ.1 6) 7 w)) 6 (va_up (va_up σ.1 6 (va_up (σ.1 6) 7 w) 6) 8 v), σ.2)
  rw [va_up_self, va_up_self, bx_uu, bx_uu, show va_up (va_up (σ.1 6) 8 v) 7 w = va_up (va_up (σ.1 6) 7 w) 8 v from funext (fun j => by unfold va_up; by_cases a : j = 7 <;> by_cases b : j = 8 <;> simp_all)]
theorem ps_A87 {σ : ps_σ} {f h : Nat → Int32} : ps_upA (ps_upA σ 8 f) 7 h = ps_upA (ps_upA σ 7 h) 8 f := by
  unfold ps_upA
  rw [show va_up (va_up σ.2.2.1 8 f) 7 h = va_up (va_up σ.2.2.1 7 h) 8 f from funext (fun j => by unfold va_up; by_cases a : j = 7 <;> by_cases b : j = 8 <;> simp_all)]
theorem ps_mem_add {f f2 : Nat → Int64} {P : List Nat} {a : Nat} (h : ∀ q, q < 4096 → ps_hs f q = decide (q ∈ P)) (h2 : ∀ q, q < 4096 → ps_hs f2 q = (ps_hs f q || (decide (a ≤ q) && decide (q ≤ a)))) : ∀ q, q < 4096 → ps_hs f2 q = decide (q ∈ P ++ [a]) := by
  intro q hq
  rw [h2 q hq, h q hq]
  by_cases e : q = a
  · subst e; simp
  · have e2 : (decide (a ≤ q) && decide (q ≤ a)) = false := by
      by_cases z : a ≤ q
      · rw [decide_eq_false (show ¬ q ≤ a by omega)]; simp
      · rw [decide_eq_false z]; rfl
    rw [e2]; simp [e]
theorem ps_pr1_add {c a z : Nat} {P : List (Nat × Nat)} : ps_pr1 c (P ++ [(a, z)]) = ps_pr1 c P + (c + z - a + 1) := by
  unfold ps_pr1
  simp
theorem ps_cn_sub {A B : Nat → Bool} : ∀ n, (∀ q, q < n → A q = true → B q = true) → ps_cn A n ≤ ps_cn B n
  | 0, _ => Nat.le_refl 0
  | n + 1, h => by
    have ih := ps_cn_sub (A := A) (B := B) n (fun q hq => h q (by omega))
    rw [ps_cn_succ, ps_cn_succ]
    by_cases ha : A n = true
    · rw [if_pos ha, if_pos (h n (by omega) ha)]; omega
    · rw [if_neg ha]; omega
theorem ps_cn_subA {A W K : Nat → Bool} (h : ∀ q, q < 4096 → A q = (W q && !K q)) : ps_cn A 4096 ≤ ps_cn W 4096 := ps_cn_sub 4096 (fun q hq ha => by
  rw [h q hq, Bool.and_eq_true] at ha
  exact ha.1)
theorem ps_upI_eq {σ : ps_σ} {k j : Nat} {v : Int32} : (ps_upI σ k j v).1 k j = v := by
  show va_up σ.1 k (va_up (σ.1 k) j v) k j = v
  rw [va_up_self, va_up_self]
theorem ps_upI_nj {σ : ps_σ} {k j i : Nat} {v : Int32} (h : i ≠ j) : (ps_upI σ k j v).1 k i = σ.1 k i := by
  show va_up σ.1 k (va_up (σ.1 k) j v) k i = σ.1 k i
  rw [va_up_self, va_up_ne _ _ h]
theorem ps_upB_1 {σ : ps_σ} {k : Nat} {f : Nat → Int64} : (ps_upB σ k f).1 = σ.1 := rfl
theorem ps_upA_1 {σ : ps_σ} {k : Nat} {f : Nat → Int32} : (ps_upA σ k f).1 = σ.1 := rfl
