/-! comparisons read back -/
theorem ps_ltOf {a b : Nat} (h : ¬ nI b ≤ nI a) (ha : a < 2 ^ 31) (hb : b < 2 ^ 31) : a < b := by
  rw [nI_leI hb ha] at h
  omega
theorem ps_leOf {a b : Nat} (h : ¬ nI a < nI b) (ha : a < 2 ^ 31) (hb : b < 2 ^ 31) : b ≤ a := by
  rw [nI_ltI ha hb] at h
  omega
theorem ps_leT {a b : Nat} (h : nI a ≤ nI b) (ha : a < 2 ^ 31) (hb : b < 2 ^ 31) : a ≤ b := (nI_leI ha hb).mp h
theorem ps_ltT {a b : Nat} (h : nI a < nI b) (ha : a < 2 ^ 31) (hb : b < 2 ^ 31) : a < b := (nI_ltI ha hb).mp h
theorem ps_hp {D : va_G} {cl : List vw_C} {ws : va_W} {H : Heap} {t : State} (ht : t.heap = H) (hP : va_P D cl ws H) : va_P D cl ws t.heap := by rw [ht]; exact hP
/-! the n-th place of a set -/
theorem ps_cn_nth {P : Nat → Bool} {t : Nat} : ∀ {k : Nat}, t < ps_cn P k → ∃ e, e < k ∧ P e = true ∧ ps_cn P e = t
  | 0, h => absurd h (Nat.not_lt_zero t)
  | k + 1, h => by
    rcases Nat.lt_or_ge t (ps_cn P k) with q | q
    · obtain ⟨e, h1, h2, h3⟩ := ps_cn_nth (k := k) q
      exact ⟨e, by omega, h2, h3⟩
    · rw [ps_cn_succ] at h
      by_cases hp : P k = true
      · rw [if_pos hp] at h
        exact ⟨k, by omega, hp, by omega⟩
      · rw [if_neg hp] at h
        omega
theorem ps_cn_inj {P : Nat → Bool} {a b : Nat} (ha : P a = true) (hb : P b = true) (h : ps_cn P a = ps_cn P b) : a = b := by
  rcases Nat.lt_trichotomy a b with q | q | q
  · have := ps_cn_lt q ha; omega
  · exact q
  · have := ps_cn_lt q hb; omega
theorem ps_nth_step {x bits : Int64} {t j0 : Nat} (hb : ∀ j, j < 64 → ps_bt bits j = (ps_bt x j && decide (t ≤ ps_cn (ps_bt x) j))) (hj : j0 < 64) (h1 : ps_bt x j0 = true) (h2 : t < ps_cn (ps_bt x) j0) : ∀ j, j < 64 → ps_bt (bits &&& (bits - 1)) j = (ps_bt x j && decide (t + 1 ≤ ps_cn (ps_bt x) j)) := by
  obtain ⟨k, hk, hk1, hk2⟩ := ps_least (P := ps_bt bits) (n := 64) ⟨j0, hj, by rw [hb j0 hj, h1, decide_eq_true (by omega)]; rfl⟩
  have hk3 := hk1
  rw [hb k hk, Bool.and_eq_true, decide_eq_true_eq] at hk3
  have rk : ps_cn (ps_bt x) k = t := by
    rcases Nat.lt_or_ge t (ps_cn (ps_bt x) k) with q | q
    · obtain ⟨e, e1, e2, e3⟩ := ps_cn_nth q
      have := hk2 e e1
      rw [hb e (by omega), e2, e3, decide_eq_true (Nat.le_refl t)] at this
      cases this
    · omega
  intro j hj
  rw [ps_dropLow hk hk1 hk2 hj, hb j hj]
  cases hx : ps_bt x j with
  | false => rfl
  | true =>
    by_cases e : j = k
    · subst e
      rw [rk, decide_eq_true (rfl : j = j), decide_eq_false (show ¬ t + 1 ≤ t by omega)]; simp
    · have ne : ¬ ps_cn (ps_bt x) j = t := fun h => e (ps_cn_inj hx hk3.1 (h.trans rk.symm))
      have e2 : decide (t ≤ ps_cn (ps_bt x) j) = decide (t + 1 ≤ ps_cn (ps_bt x) j) := decide_eq_decide.mpr (by omega)
      rw [decide_eq_false e, e2]; simp
theorem ps_nth_word (f : Nat → Int64) (q : Nat) : ps_cn (ps_hs f) q = ps_cn (ps_hs f) (64 * (q / 64)) + ps_cn (ps_bt (f (q / 64))) (q % 64) := by
  have e : q = 64 * (q / 64) + q % 64 := by omega
  conv => lhs; rw [e]
  rw [ps_cn_add]
  congr 1
  exact ps_cn_congr _ (fun j hj => ps_hs_at f (by omega))
theorem ps_nth_low {x bits : Int64} {t j0 : Nat} (hb : ∀ j, j < 64 → ps_bt bits j = (ps_bt x j && decide (t ≤ ps_cn (ps_bt x) j))) (_ : ps_bt x j0 = true) (hr : ps_cn (ps_bt x) j0 = t) : ∀ i, i < j0 → ps_bt bits i = false := by
  intro i hi
  rcases Nat.lt_or_ge i 64 with h | h
  · rw [hb i h]
    cases hx : ps_bt x i with
    | false => rfl
    | true =>
      have := ps_cn_lt hi hx
      rw [decide_eq_false (by omega)]; rfl
  · exact ps_bt_big h
theorem ps_E_ext {g : Nat → Nat} {cI cJ cT : ClassId} {σ τ : ps_σ} {i : Nat} (h1 : σ.1 i = τ.1 i) (h2 : σ.2.1 i = τ.2.1 i) (h3 : σ.2.2.1 i = τ.2.2.1 i) (h4 : σ.2.2.2 i = τ.2.2.2 i) : ps_E g cI cJ cT σ i = ps_E g cI cJ cT τ i := by
  unfold ps_E
  rw [h1, h2, h3, h4]
