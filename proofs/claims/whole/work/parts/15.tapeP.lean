/-! the tape's words -/
def ps_by (x : Int64) (j : Nat) : Nat := x.toBitVec.toNat / 2 ^ (8 * j) % 256
def ps_sg (f : Nat → Int32) (n i : Nat) : Int32 := if i < n then f i else -1
def ps_isd (v : Int32) : Bool := decide (nI 48 ≤ v) && decide (v ≤ nI 57)
def ps_edF (f : Nat → Int32) (n : Nat) : Nat → Nat → Nat
  | 0, i => i
  | k + 1, i => if ps_isd (ps_sg f n i) = true then ps_edF f n k (i + 1) else i
theorem ps_edF_ge (f : Nat → Int32) (n : Nat) : ∀ k i, i ≤ ps_edF f n k i ∧ ps_edF f n k i ≤ i + k
  | 0, i => ⟨Nat.le_refl i, Nat.le_refl i⟩
  | k + 1, i => by
    rw [ps_edF]
    split
    · have := ps_edF_ge f n k (i + 1); omega
    · omega
def ps_nmF (f : Nat → Int32) (n : Nat) : Nat → Nat → Int32 → Int32
  | 0, _, v => v
  | c + 1, k, v => ps_nmF f n c (k + 1) (v * nI 10 + ps_sg f n k - nI 48)
def ps_nm (f : Nat → Int32) (n a b : Nat) : Int32 := if a = b then -1 else ps_nmF f n (b - a) a (nI 0)
theorem ps_edF_no {f : Nat → Int32} {n k i : Nat} (h : ps_isd (ps_sg f n i) = false) : ps_edF f n k i = i := by
  cases k with
  | zero => rfl
  | succ k => rw [ps_edF, if_neg (by rw [h]; decide)]
theorem ps_edF_yes {f : Nat → Int32} {n k i : Nat} (hk : 0 < k) (h : ps_isd (ps_sg f n i) = true) : ps_edF f n k i = ps_edF f n (k - 1) (i + 1) := by
  obtain ⟨k, rfl⟩ : ∃ z, k = z + 1 := ⟨k - 1, by omega⟩
  rw [ps_edF, if_pos h]; rfl
theorem ps_isd_lo {v : Int32} (h : v < nI 48) : ps_isd v = false := by
  unfold ps_isd
  rw [decide_eq_false (Int32.not_le.mpr h)]; rfl
theorem ps_isd_hi {v : Int32} (h : nI 57 < v) : ps_isd v = false := by
  unfold ps_isd
  rw [decide_eq_false (Int32.not_le.mpr h)]; simp
theorem ps_isd_in {v : Int32} (h : ¬ v < nI 48) (h2 : ¬ nI 57 < v) : ps_isd v = true := by
  unfold ps_isd
  rw [decide_eq_true (Int32.not_lt.mp h), decide_eq_true (Int32.not_lt.mp h2)]; rfl
/-- a part from place a on: where it ends, the number before its dash, the one behind it -/
def ps_rp (f : Nat → Int32) (n a : Nat) : Option (Nat × Int32 × Int32) :=
  if ps_sg f n (ps_edF f n 5 a) = nI 45 then
    (if (ps_nm f n a (ps_edF f n 5 a) = -1 ∧ ps_nm f n (ps_edF f n 5 a + 1) (ps_edF f n 5 (ps_edF f n 5 a + 1)) = -1) ∨ (¬ ps_nm f n (ps_edF f n 5 a + 1) (ps_edF f n 5 (ps_edF f n 5 a + 1)) = -1 ∧ ¬ ps_nm f n a (ps_edF f n 5 a) ≤ ps_nm f n (ps_edF f n 5 a + 1) (ps_edF f n 5 (ps_edF f n 5 a + 1))) then none
     else some (ps_edF f n 5 (ps_edF f n 5 a + 1), ps_nm f n a (ps_edF f n 5 a), ps_nm f n (ps_edF f n 5 a + 1) (ps_edF f n 5 (ps_edF f n 5 a + 1))))
  else none
theorem ps_rp_no {f : Nat → Int32} {n a : Nat} (h : ¬ ps_sg f n (ps_edF f n 5 a) = nI 45) : ps_rp f n a = none := by unfold ps_rp; rw [if_neg h]
theorem ps_rp_bad {f : Nat → Int32} {n a : Nat} (h : ps_sg f n (ps_edF f n 5 a) = nI 45) (h2 : (ps_nm f n a (ps_edF f n 5 a) = -1 ∧ ps_nm f n (ps_edF f n 5 a + 1) (ps_edF f n 5 (ps_edF f n 5 a + 1)) = -1) ∨ (¬ ps_nm f n (ps_edF f n 5 a + 1) (ps_edF f n 5 (ps_edF f n 5 a + 1)) = -1 ∧ ¬ ps_nm f n a (ps_edF f n 5 a) ≤ ps_nm f n (ps_edF f n 5 a + 1) (ps_edF f n 5 (ps_edF f n 5 a + 1)))) : ps_rp f n a = none := by unfold ps_rp; rw [if_pos h, if_pos h2]
theorem ps_rp_ok {f : Nat → Int32} {n a : Nat} (h : ps_sg f n (ps_edF f n 5 a) = nI 45) (h2 : ¬ ((ps_nm f n a (ps_edF f n 5 a) = -1 ∧ ps_nm f n (ps_edF f n 5 a + 1) (ps_edF f n 5 (ps_edF f n 5 a + 1)) = -1) ∨ (¬ ps_nm f n (ps_edF f n 5 a + 1) (ps_edF f n 5 (ps_edF f n 5 a + 1)) = -1 ∧ ¬ ps_nm f n a (ps_edF f n 5 a) ≤ ps_nm f n (ps_edF f n 5 a + 1) (ps_edF f n 5 (ps_edF f n 5 a + 1))))) : ps_rp f n a = some (ps_edF f n 5 (ps_edF f n 5 a + 1), ps_nm f n a (ps_edF f n 5 a), ps_nm f n (ps_edF f n 5 a + 1) (ps_edF f n 5 (ps_edF f n 5 a + 1))) := by unfold ps_rp; rw [if_pos h, if_neg h2]
def ps_tyOK (x : Int64) (n : Int32) (t : Nat) : Prop := ∃ nn : Nat, n = nI nn ∧ 1 ≤ nn ∧ nn ≤ 8 ∧ t + nn ≤ 60 ∧ ∀ j, j < nn → 33 ≤ ps_by x j ∧ ps_by x j ≤ 126
theorem ps_18 {n : Int32} (h1 : ¬ n < nI 1) (h2 : ¬ nI 8 < n) : ∃ nn : Nat, n = nI nn ∧ 1 ≤ nn ∧ nn ≤ 8 := by
  have z : ¬ n < 0 := fun h => h1 (by
    rw [Int32.lt_iff_toInt_lt, Int32.toInt_zero] at h
    rw [Int32.lt_iff_toInt_lt, nI_toInt (by decide)]
    omega)
  obtain ⟨j, hj, rfl⟩ := nI_of z
  exact ⟨j, rfl, ps_leOf h1 hj (by decide), ps_leOf h2 (by decide) hj⟩
theorem ps_by_lt (x : Int64) (j : Nat) : ps_by x j < 256 := Nat.mod_lt _ (by decide)
theorem ps_k255 {m : Nat} (h : m < 2 ^ 64) : lN m &&& (255 : Int64) = lN (m % 256) := by
  rw [show (255 : Int64) = lN (2 ^ 8 - 1) by decide]
  exact wb_mask h (by decide)
theorem ps_sub1 (v : Nat) : nI v - nI 1 = ps_pr v := by
  unfold ps_pr
  rw [ps_m1e, Int32.sub_eq_add_neg]; rfl
theorem ps_upI_self {σ : ps_σ} {k j : Nat} {v : Int32} (h : σ.1 k j = v) : ps_upI σ k j v = σ := by
  obtain ⟨a, b⟩ := σ
  unfold ps_upI
  have e1 : va_up (a k) j v = a k := funext (fun i => by unfold va_up; split <;> simp_all)
  have e2 : va_up a k (va_up (a k) j v) = a := by rw [e1]; exact funext (fun i => by unfold va_up; split <;> simp_all)
  rw [show va_up ((a, b) : ps_σ).1 k (va_up (((a, b) : ps_σ).1 k) j v) = a from e2]
theorem ps_upA_self {σ : ps_σ} (k : Nat) : ps_upA σ k (σ.2.2.1 k) = σ := by
  obtain ⟨a, b, c, d⟩ := σ
  show (a, b, va_up c k (c k), d) = (a, b, c, d)
  rw [show va_up c k (c k) = c from funext (fun j => by unfold va_up; split <;> simp_all)]
theorem ps_AI {σ : ps_σ} {k j k2 : Nat} {v : Int32} {f : Nat → Int32} : ps_upA (ps_upI σ k j v) k2 f = ps_upI (ps_upA σ k2 f) k j v := rfl
theorem ps_AA {σ : ps_σ} {k : Nat} {f h : Nat → Int32} : ps_upA (ps_upA σ k f) k h = ps_upA σ k h := by unfold ps_upA; rw [bx_uu]
theorem ps_II {σ : ps_σ} {k j : Nat} {v w : Int32} : ps_upI (ps_upI σ k j v) k j w = ps_upI σ k j w := by
  unfold ps_upI
  show (va_up (va_up σ.1 k (va_up (σ.1 k) j v)) k (va_up (va_up σ.1 k (va_up (σ.1 k) j v) k) j w), σ.2) = _
  rw [va_up_self, bx_uu, bx_uu]
