/-! the shelf's words -/
def ps_acc (σ : ps_σ) (t : Nat) (a b tg : Int32) : Prop := tg = σ.1 (9 + t) 2 ∧ ¬ a < 0 ∧ ¬ b < a ∧ ¬ σ.1 (9 + t) 1 ≤ b
def ps_totF (σ : ps_σ) : Nat → Nat
  | 0 => 0
  | n + 1 => ps_totF σ n + ps_cn (ps_hs (σ.2.2.2 (24 + n))) 4096
theorem ps_totF_le (σ : ps_σ) : ∀ n, ps_totF σ n ≤ 4096 * n
  | 0 => Nat.le_refl 0
  | n + 1 => by
    have h := ps_totF_le σ n
    have h2 := ps_cn_le (ps_hs (σ.2.2.2 (24 + n))) 4096
    rw [ps_totF]
    generalize ps_cn (ps_hs (σ.2.2.2 (24 + n))) 4096 = z at *
    omega
/-- the thing that was used longest ago of those that have some -/
def ps_oldF (us : Nat → Int64) (S : Nat → Nat → Bool) : Nat → Option Nat
  | 0 => none
  | n + 1 => if ps_nx (S n) true 0 = 4096 then ps_oldF us S n else match ps_oldF us S n with
    | none => some n
    | some o => if us n < us o then some n else some o
theorem ps_oldF_lt (us : Nat → Int64) (S : Nat → Nat → Bool) : ∀ n o, ps_oldF us S n = some o → o < n
  | 0, o, h => by cases h
  | n + 1, o, h => by
    rw [ps_oldF] at h
    split at h
    · have := ps_oldF_lt us S n o h; omega
    · split at h
      · cases h; omega
      · rename_i o2 e
        split at h
        · cases h; omega
        · cases h
          have := ps_oldF_lt us S n o e; omega
theorem ps_oldF_e {us : Nat → Int64} {S : Nat → Nat → Bool} {n : Nat} (h : ps_nx (S n) true 0 = 4096) : ps_oldF us S (n + 1) = ps_oldF us S n := by rw [ps_oldF, if_pos h]
theorem ps_oldF_n {us : Nat → Int64} {S : Nat → Nat → Bool} {n : Nat} (h : ¬ ps_nx (S n) true 0 = 4096) (h2 : ps_oldF us S n = none) : ps_oldF us S (n + 1) = some n := by rw [ps_oldF, if_neg h, h2]
theorem ps_oldF_s {us : Nat → Int64} {S : Nat → Nat → Bool} {n o : Nat} (h : ¬ ps_nx (S n) true 0 = 4096) (h2 : ps_oldF us S n = some o) : ps_oldF us S (n + 1) = if us n < us o then some n else some o := by rw [ps_oldF, if_neg h, h2]
theorem ps_lcmpge {x y : Int64} : 0 ≤ lg_cmp x y ↔ ¬ x < y := by
  unfold lg_cmp
  by_cases h1 : x > y
  · rw [if_pos h1]
    constructor
    · intro _ h
      rw [gt_iff_lt, Int64.lt_iff_toInt_lt] at h1
      rw [Int64.lt_iff_toInt_lt] at h
      omega
    · intro _; decide
  · rw [if_neg h1]
    by_cases h2 : x = y
    · rw [if_pos h2]
      constructor
      · intro _ h
        rw [h2, Int64.lt_iff_toInt_lt] at h
        omega
      · intro _; decide
    · rw [if_neg h2]
      constructor
      · intro h; exact absurd h (by decide)
      · intro h
        exfalso
        rw [gt_iff_lt, Int64.lt_iff_toInt_lt] at h1
        rw [Int64.lt_iff_toInt_lt] at h
        exact h2 (Int64.toInt_inj.mp (by omega))
abbrev ps_SS (σ : ps_σ) : Nat → Nat → Bool := fun t => ps_hs (σ.2.2.2 (24 + t))
abbrev ps_US (σ : ps_σ) : Nat → Int64 := fun t => σ.2.1 (9 + t)
