/-! the shelf's words -/
def ps_acc (σ : ps_σ) (t : Nat) (a b tg : Int32) : Prop := tg = σ.1 (9 + t) 2 ∧ ¬ a < 0 ∧ ¬ b < a ∧ ¬ σ.1 (9 + t) 1 ≤ b
def ps_totF (σ : ps_σ) : Nat → Nat
  | 0 => 0
  | n + 1 => ps_totF σ n + ps_cn (ps_hs (σ.2.2.2 (24 + n))) 4096
theorem ps_totF_le (σ : ps_σ) : ∀ n, ps_totF σ n ≤ 4096 * n
  | 0 => Nat.le_refl 0
  | n + 1 => by
    have h := ps_totF_le σ n
    have h2 := ps_cn_le (ps_hs (σ.2.2.2 (24 + n))) 4096
    rw [ps_totF]
    generalize ps_cn (ps_hs (σ.2.2.2 (24 + n))) 4096 = z at *
    omega
/-- the thing that was used longest ago of those that have some -/
def ps_oldF (us : Nat → Int64) (S : Nat → Nat → Bool) : Nat → Option Nat
  | 0 => none
  | n + 1 => if ps_nx (S n) true 0 = 4096 then ps_oldF us S n else match ps_oldF us S n with
    | none => some n
    | some o => if us n < us o then some n else some o
theorem ps_oldF_lt (us : Nat → Int64) (S : Nat → Nat → Bool) : ∀ n o, ps_oldF us S n = some o → o < n
  | 0, o, h => by cases h
  | n + 1, o, h => by
    rw [ps_oldF] at h
    split at h
    · have := ps_oldF_lt us S n o h; omega
    · split at h
      · cases h; omega
      · rename_i o2 e
        split at h
        · cases h; omega
        · cases h
          have := ps_oldF_lt us S n o e; omega
theorem ps_oldF_e {us : Nat → Int64} {S : Nat → Nat → Bool} {n : Nat} (h : ps_nx (S n) true 0 = 4096) : ps_oldF us S (n + 1) = ps_oldF us S n := by rw [ps_oldF, if_pos h]
theorem ps_oldF_n {us : Nat → Int64} {S : Nat → Nat → Bool} {n : Nat} (h : ¬ ps_nx (S n) true 0 = 4096) (h2 : ps_oldF us S n = none) : ps_oldF us S (n + 1) = some n := by rw [ps_oldF, if_neg h, h2]
theorem ps_oldF_s {us : Nat → Int64} {S : Nat → Nat → Bool} {n o : Nat} (h : ¬ ps_nx (S n) true 0 = 4096) (h2 : ps_oldF us S n = some o) : ps_oldF us S (n + 1) = if us n < us o then some n else some o := by rw [ps_oldF, if_neg h, h2]
theorem ps_lcmpge {x y : Int64} : 0 ≤ lg_cmp x y ↔ ¬ x < y := by
  unfold lg_cmp
  by_cases h1 : x > y
  · rw [if_pos h1]
    constructor
    · intro _ h
      rw [gt_iff_lt, Int64.lt_iff_toInt_lt] at h1
      rw [Int64.lt_iff_toInt_lt] at h
      omega
    · intro _; decide
  · rw [if_neg h1]
    by_cases h2 : x = y
    · rw [if_pos h2]
      constructor
      · intro _ h
        rw [h2, Int64.lt_iff_toInt_lt] at h
        omega
      · intro _; decide
    · rw [if_neg h2]
      constructor
      · intro h; exact absurd h (by decide)
      · intro h
        exfalso
        rw [gt_iff_lt, Int64.lt_iff_toInt_lt] at h1
        rw [Int64.lt_iff_toInt_lt] at h
        exact h2 (Int64.toInt_inj.mp (by omega))
abbrev ps_SS (σ : ps_σ) : Nat → Nat → Bool := fun t => ps_hs (σ.2.2.2 (24 + t))
abbrev ps_US (σ : ps_σ) : Nat → Int64 := fun t => σ.2.1 (9 + t)
/-! what goes when there is no room -/
def ps_evF (us : Nat → Int64) : Nat → Nat → (Nat → Nat → Bool) → (Nat → Nat → Bool)
  | 0, _, S => S
  | k + 1, ov, S => if ov = 0 then S else match ps_oldF us S 6 with
    | none => ps_evF us k ov S
    | some o => ps_evF us k (ps_left (S o) ov 0) (va_up S o (ps_dl (S o) ov 0))
theorem ps_evF_0 (us : Nat → Int64) (S : Nat → Nat → Bool) (k : Nat) : ps_evF us k 0 S = S := by
  cases k with
  | zero => rfl
  | succ k => rw [ps_evF, if_pos rfl]
theorem ps_evF_n {us : Nat → Int64} {S : Nat → Nat → Bool} {k ov : Nat} (hk : 0 < k) (hov : ¬ ov = 0) (h : ps_oldF us S 6 = none) : ps_evF us k ov S = ps_evF us (k - 1) ov S := by
  obtain ⟨k, rfl⟩ : ∃ z, k = z + 1 := ⟨k - 1, by omega⟩
  rw [ps_evF, if_neg hov, h]; rfl
theorem ps_evF_s {us : Nat → Int64} {S : Nat → Nat → Bool} {k ov o : Nat} (hk : 0 < k) (hov : ¬ ov = 0) (h : ps_oldF us S 6 = some o) : ps_evF us k ov S = ps_evF us (k - 1) (ps_left (S o) ov 0) (va_up S o (ps_dl (S o) ov 0)) := by
  obtain ⟨k, rfl⟩ : ∃ z, k = z + 1 := ⟨k - 1, by omega⟩
  rw [ps_evF, if_neg hov, h]; rfl
theorem ps_left_congr {S T : Nat → Bool} {n p : Nat} (hp : p ≤ 4096) (h : ∀ q, q < 4096 → S q = T q) : ps_left S n p = ps_left T n p := by
  unfold ps_left
  rw [ps_cn_congr 4096 h, ps_cn_congr p (fun q hq => h q (by omega))]
theorem ps_dl_congr {S T : Nat → Bool} {n p q : Nat} (hq : q < 4096) (h : ∀ q, q < 4096 → S q = T q) : ps_dl S n p q = ps_dl T n p q := by
  unfold ps_dl ps_ab
  rw [ps_cn_congr 4096 h, ps_cn_congr (q + 1) (fun i hi => h i (by omega)), h q hq]
theorem ps_oldF_congr {us : Nat → Int64} {S T : Nat → Nat → Bool} : ∀ n, (∀ t, t < n → ∀ q, q < 4096 → S t q = T t q) → ps_oldF us S n = ps_oldF us T n
  | 0, _ => rfl
  | n + 1, h => by
    rw [ps_oldF, ps_oldF, ps_oldF_congr n (fun t ht => h t (by omega)), ps_nx_congr true (by omega) (h n (by omega))]
def ps_sB (σ u : ps_σ) : Prop := u.1 = σ.1 ∧ u.2.1 = σ.2.1 ∧ u.2.2.1 = σ.2.2.1 ∧ ∀ k, (k < 24 ∨ 30 ≤ k) → u.2.2.2 k = σ.2.2.2 k
theorem ps_sB_rf (σ : ps_σ) : ps_sB σ σ := ⟨rfl, rfl, rfl, fun _ _ => rfl⟩
theorem ps_sB_up {σ u : ps_σ} {o : Nat} {f : Nat → Int64} (ho : o < 6) (h : ps_sB σ u) : ps_sB σ (ps_upB u (24 + o) f) := ⟨h.1, h.2.1, h.2.2.1, fun k hk => (va_up_ne _ _ (by omega)).trans (h.2.2.2 k hk)⟩
theorem ps_ev_step {τ : ps_σ} {S : Nat → Nat → Bool} {o ov : Nat} {f : Nat → Int64} (ho : o < 6) (hS : ∀ t, t < 6 → ∀ q, q < 4096 → ps_hs (τ.2.2.2 (24 + t)) q = S t q) (hf : ∀ q, q < 4096 → ps_hs f q = ps_dl (ps_hs (τ.2.2.2 (24 + o))) ov 0 q) : ∀ t, t < 6 → ∀ q, q < 4096 → ps_hs ((ps_upB τ (24 + o) f).2.2.2 (24 + t)) q = va_up S o (ps_dl (S o) ov 0) t q := by
  intro t ht q hq
  by_cases e : t = o
  · subst e
    rw [ps_upB_at, va_up_self, hf q hq, ps_dl_congr hq (hS t ht)]
  · rw [va_up_ne _ _ e, ← hS t ht q hq]
    show ps_hs (va_up τ.2.2.2 (24 + o) f (24 + t)) q = _
    rw [va_up_ne _ _ (by omega)]
theorem ps_left_le (S : Nat → Bool) (n p : Nat) : ps_left S n p ≤ n := Nat.sub_le _ _
theorem ps_sub_le {a b : Nat} (ha : b < 2 ^ 30) (h : a ≤ b) : nI a - nI b ≤ 0 := by
  rw [Int32.le_iff_toInt_le, pk_sub_toInt (by omega) ha, Int32.toInt_zero]
  omega
def ps_abt (σ : ps_σ) (t : Nat) (y : Int32) : Int32 := if y = nI 0 then σ.1 (9 + t) 1 else if y = nI 1 then nI (ps_cn (ps_hs (σ.2.2.2 (24 + t))) 4096) else if y = nI 2 then nI (ps_sp (ps_hs (σ.2.2.2 (24 + t)))) else if y = nI 3 then (if nI (ps_nx (ps_hs (σ.2.2.2 (24 + t))) false 0) < σ.1 (9 + t) 1 then nI (ps_nx (ps_hs (σ.2.2.2 (24 + t))) false 0) else -1) else -1
theorem ps_abt_0 {σ : ps_σ} {t : Nat} : ps_abt σ t (nI 0) = σ.1 (9 + t) 1 := by unfold ps_abt; rw [if_pos rfl]
theorem ps_abt_1 {σ : ps_σ} {t : Nat} : ps_abt σ t (nI 1) = nI (ps_cn (ps_hs (σ.2.2.2 (24 + t))) 4096) := by unfold ps_abt; rw [if_neg (by decide), if_pos rfl]
theorem ps_abt_2 {σ : ps_σ} {t : Nat} : ps_abt σ t (nI 2) = nI (ps_sp (ps_hs (σ.2.2.2 (24 + t)))) := by unfold ps_abt; rw [if_neg (by decide), if_neg (by decide), if_pos rfl]
theorem ps_abt_3 {σ : ps_σ} {t : Nat} : ps_abt σ t (nI 3) = (if nI (ps_nx (ps_hs (σ.2.2.2 (24 + t))) false 0) < σ.1 (9 + t) 1 then nI (ps_nx (ps_hs (σ.2.2.2 (24 + t))) false 0) else -1) := by unfold ps_abt; rw [if_neg (by decide), if_neg (by decide), if_neg (by decide), if_pos rfl]
theorem ps_abt_out {σ : ps_σ} {t : Nat} {y : Int32} (h : y.toInt < 0 ∨ 3 < y.toInt) : ps_abt σ t y = -1 := by
  have ne : ∀ j : Nat, j < 4 → ¬ y = nI j := fun j hj e => by
    rw [e, nI_toInt (by omega)] at h
    omega
  unfold ps_abt
  rw [if_neg (ne 0 (by omega)), if_neg (ne 1 (by omega)), if_neg (ne 2 (by omega)), if_neg (ne 3 (by omega))]
theorem ps_toN {y : Int32} {n : Nat} (h0 : ¬ y < 0) (h : y ≤ nI n) (hn : n < 2 ^ 31) : ∃ v : Nat, y = nI v ∧ v ≤ n := by
  obtain ⟨v, hv, rfl⟩ := nI_of h0
  exact ⟨v, rfl, ps_leT h hv hn⟩
theorem ps_acc_nat {σ : ps_σ} {t : Nat} {a b tg : Int32} (hln : σ.1 (9 + t) 1 = -1 ∨ ∃ z : Nat, z ≤ 4095 ∧ σ.1 (9 + t) 1 = nI z) (h : ps_acc σ t a b tg) : ∃ a1 b1 : Nat, a = nI a1 ∧ b = nI b1 ∧ a1 ≤ b1 ∧ b1 < 4095 := by
  obtain ⟨-, h1, h2, h3⟩ := h
  obtain ⟨a1, ha1, rfl⟩ := nI_of h1
  have hb0 : ¬ b < 0 := fun q => h2 (by
    rw [Int32.lt_iff_toInt_lt, Int32.toInt_zero] at q
    rw [Int32.lt_iff_toInt_lt, nI_toInt ha1]
    omega)
  obtain ⟨b1, hb1, rfl⟩ := nI_of hb0
  refine ⟨a1, b1, rfl, rfl, ps_leOf h2 hb1 ha1, ?_⟩
  rcases hln with e | ⟨z, hz, e⟩
  · exfalso
    rw [e] at h3
    exact h3 (by rw [Int32.le_iff_toInt_le, nI_toInt hb1]; have : (-1 : Int32).toInt = -1 := by decide
                 omega)
  · rw [e] at h3
    have := Int32.not_le.mp h3
    have := ps_ltT this hb1 (by omega)
    omega
theorem ps_held1 {σ : ps_σ} {j : Nat} {y rr : Int32} (hj : j < 6) (h : (∀ q, q < 4096 → y = nI q → rr = ps_bI (ps_hs (σ.2.2.2 (24 + j)) q)) ∧ ((y < 0 ∨ nI 4096 ≤ y) → rr = 0)) (hr : ¬ rr = 0) : (∃ j1 q : Nat, j1 < 6 ∧ q < 4096 ∧ nI j = nI j1 ∧ y = nI q ∧ nI 1 = ps_bI (ps_hs (σ.2.2.2 (24 + j1)) q)) ∨ (((nI j < 0 ∨ nI 6 ≤ nI j) ∨ y < 0 ∨ nI 4096 ≤ y) ∧ nI 1 = 0) := by
  rcases pk_ix y (n := 4096) (by decide) with q | q | ⟨i, hi, rfl⟩
  · exact absurd (h.2 (Or.inl q)) hr
  · exact absurd (h.2 (Or.inr q)) hr
  · refine Or.inl ⟨j, i, hj, hi, rfl, rfl, ?_⟩
    have e := h.1 i hi rfl
    rw [e] at hr
    rw [ps_bI_n0.mp hr]; rfl
theorem ps_held0 {σ : ps_σ} {j : Nat} {y rr : Int32} (hj : j < 6) (h : (∀ q, q < 4096 → y = nI q → rr = ps_bI (ps_hs (σ.2.2.2 (24 + j)) q)) ∧ ((y < 0 ∨ nI 4096 ≤ y) → rr = 0)) (hr : rr = 0) : (∃ j1 q : Nat, j1 < 6 ∧ q < 4096 ∧ nI j = nI j1 ∧ y = nI q ∧ nI 0 = ps_bI (ps_hs (σ.2.2.2 (24 + j1)) q)) ∨ (((nI j < 0 ∨ nI 6 ≤ nI j) ∨ y < 0 ∨ nI 4096 ≤ y) ∧ nI 0 = 0) := by
  rcases pk_ix y (n := 4096) (by decide) with q | q | ⟨i, hi, rfl⟩
  · exact Or.inr ⟨Or.inr (Or.inl q), rfl⟩
  · exact Or.inr ⟨Or.inr (Or.inr q), rfl⟩
  · refine Or.inl ⟨j, i, hj, hi, rfl, rfl, ?_⟩
    have e := h.1 i hi rfl
    rw [e] at hr
    rw [ps_bI_0.mp hr]; rfl
