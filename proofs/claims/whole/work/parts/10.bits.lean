/-! ===== lN n to 2^64: shifts, and, or, masks, one bit ===== -/
theorem wb_tb (n : Nat) : (lN n).toBitVec = BitVec.ofNat 64 n := rfl
theorem wb_inj {a b : Int64} (h : a.toBitVec = b.toBitVec) : a = b := Int64.toBitVec_inj.mp h
theorem wb_tn {n : Nat} (h : n < 2 ^ 64) : (lN n).toBitVec.toNat = n := by rw [wb_tb, BitVec.toNat_ofNat, Nat.mod_eq_of_lt h]
theorem wb_of (x : Int64) : ∃ n, n < 2 ^ 64 ∧ x = lN n := ⟨x.toBitVec.toNat, x.toBitVec.isLt, wb_inj (by rw [wb_tb]; simp)⟩
theorem wb_of32 (x : Int32) : ∃ n, n < 2 ^ 32 ∧ x = nI n := ⟨x.toBitVec.toNat, x.toBitVec.isLt, Int32.toBitVec_inj.mp (by show _ = BitVec.ofNat 32 _; simp)⟩
theorem wb_c : ∀ k, k < 64 → ((nI k).toInt64 &&& 63) = lN k := by decide +kernel
theorem wb_cu : ∀ k, k < 64 → ((nI k).toInt64.toUInt64 &&& Int64.toUInt64 63) = UInt64.ofNat k := by decide +kernel
theorem wb_sm : ∀ k, k < 64 → (BitVec.ofNat 64 k).smod 64 = BitVec.ofNat 64 k := by decide +kernel
theorem wb_pw {a b : Nat} (h : a ≤ b) : 2 ^ b = 2 ^ a * 2 ^ (b - a) := by rw [← Nat.pow_add]; congr 1; omega
theorem wb_lt2 {a b : Nat} (h : a < b) : 2 ^ a < 2 ^ b := Nat.pow_lt_pow_right (by decide) h
theorem wb_mod (n : Nat) : lN n = lN (n % 2 ^ 64) := wb_inj (by rw [wb_tb, wb_tb]; apply BitVec.eq_of_toNat_eq; rw [BitVec.toNat_ofNat, BitVec.toNat_ofNat, Nat.mod_mod])
theorem wb_shr {n k : Nat} (hn : n < 2 ^ 64) (hk : k < 64) : ((lN n).toUInt64 >>> ((nI k).toInt64.toUInt64 &&& Int64.toUInt64 63)).toInt64 = lN (n / 2 ^ k) := by
  rw [wb_cu k hk]
  apply wb_inj
  apply BitVec.eq_of_toNat_eq
  show ((lN n).toUInt64 >>> UInt64.ofNat k).toNat = (BitVec.ofNat 64 _).toNat
  have h1 : (UInt64.ofNat k).toNat = k := by
    show (BitVec.ofNat 64 k).toNat = k
    rw [BitVec.toNat_ofNat, Nat.mod_eq_of_lt (by omega)]
  have h2 : (lN n).toUInt64.toNat = n := wb_tn hn
  rw [UInt64.toNat_shiftRight, h1, h2, Nat.mod_eq_of_lt hk, Nat.shiftRight_eq_div_pow, BitVec.toNat_ofNat, Nat.mod_eq_of_lt (Nat.lt_of_le_of_lt (Nat.div_le_self _ _) hn)]
theorem wb_shl (n : Nat) {k : Nat} (hk : k < 64) : lN n <<< ((nI k).toInt64 &&& 63) = lN (n * 2 ^ k) := by
  rw [wb_c k hk]
  apply wb_inj
  rw [Int64.toBitVec_shiftLeft, wb_tb, wb_tb, wb_tb, wb_sm k hk]
  apply BitVec.eq_of_toNat_eq
  rw [BitVec.shiftLeft_eq', BitVec.toNat_shiftLeft, BitVec.toNat_ofNat, BitVec.toNat_ofNat, BitVec.toNat_ofNat, Nat.mod_eq_of_lt (show k < 2 ^ 64 by omega), Nat.shiftLeft_eq, Nat.mul_mod, Nat.mod_mod, ← Nat.mul_mod]
theorem wb_and {a b : Nat} (ha : a < 2 ^ 64) (hb : b < 2 ^ 64) : lN a &&& lN b = lN (a &&& b) := by
  apply wb_inj
  rw [Int64.toBitVec_and, wb_tb, wb_tb, wb_tb]
  apply BitVec.eq_of_toNat_eq
  rw [BitVec.toNat_and, BitVec.toNat_ofNat, BitVec.toNat_ofNat, BitVec.toNat_ofNat, Nat.mod_eq_of_lt ha, Nat.mod_eq_of_lt hb, Nat.mod_eq_of_lt (Nat.and_lt_two_pow _ hb)]
theorem wb_or {a b : Nat} (ha : a < 2 ^ 64) (hb : b < 2 ^ 64) : lN a ||| lN b = lN (a ||| b) := by
  apply wb_inj
  rw [Int64.toBitVec_or, wb_tb, wb_tb, wb_tb]
  apply BitVec.eq_of_toNat_eq
  rw [BitVec.toNat_or, BitVec.toNat_ofNat, BitVec.toNat_ofNat, BitVec.toNat_ofNat, Nat.mod_eq_of_lt ha, Nat.mod_eq_of_lt hb, Nat.mod_eq_of_lt (Nat.or_lt_two_pow ha hb)]
theorem wb_mask {n k : Nat} (hn : n < 2 ^ 64) (hk : k < 64) : lN n &&& lN (2 ^ k - 1) = lN (n % 2 ^ k) := by
  rw [wb_and hn (by have := wb_lt2 hk; omega), Nat.and_two_pow_sub_one_eq_mod]
theorem wb_a1 {n : Nat} (hn : n < 2 ^ 64) : lN n &&& 1 = lN (n % 2) := wb_mask (k := 1) hn (by decide)
theorem wb_bit {n k : Nat} (hn : n < 2 ^ 64) (hk : k < 64) : ((lN n).toUInt64 >>> ((nI k).toInt64.toUInt64 &&& Int64.toUInt64 63)).toInt64 &&& 1 = lN (n / 2 ^ k % 2) := by
  rw [wb_shr hn hk, wb_a1 (Nat.lt_of_le_of_lt (Nat.div_le_self _ _) hn)]
theorem wb_xor {q k : Nat} (hk : k < 63) (h : 2 ^ k ≤ q) (h2 : q < 2 ^ (k + 1)) : lN q ^^^ lN (2 ^ k) = lN (q - 2 ^ k) := by
  obtain ⟨r, rfl⟩ : ∃ r, q = 2 ^ k + r := ⟨q - 2 ^ k, by omega⟩
  have hr : r < 2 ^ k := by rw [Nat.pow_succ] at h2; omega
  have hx : (2 ^ k + r) ^^^ 2 ^ k = r := by
    apply Nat.eq_of_testBit_eq
    intro i
    rw [Nat.testBit_xor, Nat.testBit_two_pow]
    rcases Nat.lt_trichotomy i k with h | h | h
    · rw [Nat.testBit_two_pow_add_gt h]
      simp [show ¬ k = i by omega]
    · subst h
      rw [Nat.testBit_two_pow_add_eq]
      simp
    · have a1 : 2 ^ (k + 1) ≤ 2 ^ i := Nat.pow_le_pow_right (by decide) h
      rw [Nat.testBit_lt_two_pow (show 2 ^ k + r < 2 ^ i by omega), Nat.testBit_lt_two_pow (show r < 2 ^ i by omega)]
      simp [show ¬ k = i by omega]
  have b1 := wb_lt2 (show k + 1 < 64 by omega)
  have b2 := wb_lt2 (show k < 64 by omega)
  apply wb_inj
  rw [Int64.toBitVec_xor, wb_tb, wb_tb, wb_tb]
  apply BitVec.eq_of_toNat_eq
  rw [BitVec.toNat_xor, BitVec.toNat_ofNat, BitVec.toNat_ofNat, BitVec.toNat_ofNat, Nat.mod_eq_of_lt (by omega : 2 ^ k + r < 2 ^ 64), Nat.mod_eq_of_lt b2, hx, Nat.add_sub_cancel_left, Nat.mod_eq_of_lt (by omega)]
/-! BITS of a long; counts; the library's bitCount by its bytes -/
def ps_bt (x : Int64) (j : Nat) : Bool := x.toBitVec.getLsbD j
theorem ps_bt_ext {x y : Int64} (h : ∀ j, j < 64 → ps_bt x j = ps_bt y j) : x = y := Int64.toBitVec_inj.mp (BitVec.eq_of_getLsbD_eq (fun i hi => h i hi))
theorem ps_bt_or (x y : Int64) (j : Nat) : ps_bt (x ||| y) j = (ps_bt x j || ps_bt y j) := by unfold ps_bt; rw [Int64.toBitVec_or, BitVec.getLsbD_or]
theorem ps_bt_and (x y : Int64) (j : Nat) : ps_bt (x &&& y) j = (ps_bt x j && ps_bt y j) := by unfold ps_bt; rw [Int64.toBitVec_and, BitVec.getLsbD_and]
theorem ps_bt_xor (x y : Int64) (j : Nat) : ps_bt (x ^^^ y) j = (ps_bt x j ^^ ps_bt y j) := by unfold ps_bt; rw [Int64.toBitVec_xor, BitVec.getLsbD_xor]
theorem ps_bt_big {x : Int64} {j : Nat} (h : 64 ≤ j) : ps_bt x j = false := BitVec.getLsbD_of_ge _ _ h
theorem ps_bt_0 (j : Nat) : ps_bt 0 j = false := BitVec.getLsbD_zero
theorem ps_bt_m1 : ∀ j, j < 64 → ps_bt (-1) j = true := by decide +kernel
theorem ps_bt_1 : ∀ j, j < 64 → ps_bt 1 j = decide (j = 0) := by decide +kernel
theorem ps_bt_not {x : Int64} {j : Nat} (h : j < 64) : ps_bt (x ^^^ (-1)) j = !ps_bt x j := by rw [ps_bt_xor, ps_bt_m1 j h, Bool.xor_true]
theorem ps_ne0 {x : Int64} : ¬ x = 0 ↔ ∃ j, j < 64 ∧ ps_bt x j = true := by
  constructor
  · intro h
    apply Classical.byContradiction
    intro hn
    apply h
    apply ps_bt_ext
    intro j hj
    rw [ps_bt_0]
    cases hb : ps_bt x j with
    | false => rfl
    | true => exact absurd ⟨j, hj, hb⟩ hn
  · rintro ⟨j, hj, hb⟩ rfl
    rw [ps_bt_0] at hb
    cases hb
theorem ps_eq0 {x : Int64} : x = 0 ↔ ∀ j, j < 64 → ps_bt x j = false := by
  constructor
  · rintro rfl j hj
    exact ps_bt_0 j
  · intro h
    apply ps_bt_ext
    intro j hj
    rw [ps_bt_0, h j hj]
theorem ps_sl : ∀ n, n < 64 → (((nI n).toInt64 &&& 63).toBitVec.smod 64).toNat = n := by decide +kernel
theorem ps_su : ∀ n, n < 64 → (((nI n).toInt64.toUInt64 &&& Int64.toUInt64 63).toBitVec % 64).toNat = n := by decide +kernel
theorem ps_shl (n : Nat) (hn : n < 64) (x : Int64) {i : Nat} (hi : i < 64) : ps_bt (x <<< ((nI n).toInt64 &&& 63)) i = (decide (n ≤ i) && ps_bt x (i - n)) := by
  unfold ps_bt
  rw [Int64.toBitVec_shiftLeft]
  show (x.toBitVec <<< (((nI n).toInt64 &&& 63).toBitVec.smod 64).toNat).getLsbD i = _
  rw [ps_sl n hn, BitVec.getLsbD_shiftLeft]
  rcases Nat.lt_or_ge i n with h | h
  · simp [h, Nat.not_le.mpr h]
  · simp [hi, h, Nat.not_lt.mpr h]
theorem ps_ushr (n : Nat) (hn : n < 64) (x : Int64) (i : Nat) : ps_bt ((x.toUInt64 >>> ((nI n).toInt64.toUInt64 &&& Int64.toUInt64 63)).toInt64) i = ps_bt x (n + i) := by
  show (x.toUInt64 >>> ((nI n).toInt64.toUInt64 &&& Int64.toUInt64 63)).toBitVec.getLsbD i = x.toUInt64.toBitVec.getLsbD (n + i)
  rw [UInt64.toBitVec_shiftRight]
  show (x.toUInt64.toBitVec >>> (((nI n).toInt64.toUInt64 &&& Int64.toUInt64 63).toBitVec % 64).toNat).getLsbD i = _
  rw [ps_su n hn, BitVec.getLsbD_ushiftRight]
theorem ps_bit1 (n : Nat) (hn : n < 64) (x : Int64) : ((x.toUInt64 >>> ((nI n).toInt64.toUInt64 &&& Int64.toUInt64 63)).toInt64 &&& 1) = 0 ↔ ps_bt x n = false := by
  rw [ps_eq0]
  constructor
  · intro h
    have t := h 0 (by omega)
    rw [ps_bt_and, ps_ushr n hn, ps_bt_1 0 (by omega)] at t
    simpa using t
  · intro h j hj
    rw [ps_bt_and, ps_ushr n hn, ps_bt_1 j hj]
    by_cases e : j = 0
    · subst e; simp [h]
    · simp [e]
/-- 1L << k -/
theorem ps_one (k : Nat) (hk : k < 64) {j : Nat} (hj : j < 64) : ps_bt ((1 : Int64) <<< ((nI k).toInt64 &&& 63)) j = decide (j = k) := by
  rw [ps_shl k hk 1 hj, ps_bt_1 (j - k) (by omega)]
  rcases Nat.lt_trichotomy j k with h | h | h
  · simp [Nat.not_le.mpr h, Nat.ne_of_lt h]
  · subst h; simp
  · rw [decide_eq_true (Nat.le_of_lt h), decide_eq_false (show ¬ j - k = 0 by omega), decide_eq_false (show ¬ j = k by omega)]; rfl
/-- the mask of the places low .. high of a word -/
theorem ps_mask (a b : Nat) (ha : a < 64) (hb : b < 64) {j : Nat} (hj : j < 64) : ps_bt (((-1 : Int64) <<< ((nI a).toInt64 &&& 63)) &&& (((-1 : Int64).toUInt64 >>> ((nI (63 - b)).toInt64.toUInt64 &&& Int64.toUInt64 63)).toInt64)) j = (decide (a ≤ j) && decide (j ≤ b)) := by
  rw [ps_bt_and, ps_shl a ha _ hj, ps_ushr (63 - b) (by omega)]
  have h1 : (decide (a ≤ j) && ps_bt (-1) (j - a)) = decide (a ≤ j) := by
    rw [ps_bt_m1 (j - a) (by omega), Bool.and_true]
  have h2 : ps_bt (-1) (63 - b + j) = decide (j ≤ b) := by
    rcases Nat.lt_or_ge b j with h | h
    · rw [ps_bt_big (by omega), decide_eq_false (by omega)]
    · rw [ps_bt_m1 _ (by omega), decide_eq_true h]
  rw [h1, h2]
/-! counts -/
def ps_cn (P : Nat → Bool) : Nat → Nat
  | 0 => 0
  | n + 1 => ps_cn P n + (if P n = true then 1 else 0)
theorem ps_cn_le (P : Nat → Bool) : ∀ n, ps_cn P n ≤ n
  | 0 => Nat.le_refl 0
  | n + 1 => by
    have := ps_cn_le P n
    rw [ps_cn]
    split <;> omega
theorem ps_cn_congr {P Q : Nat → Bool} : ∀ n, (∀ j, j < n → P j = Q j) → ps_cn P n = ps_cn Q n
  | 0, _ => rfl
  | n + 1, h => by rw [ps_cn, ps_cn, ps_cn_congr n (fun j hj => h j (by omega)), h n (by omega)]
theorem ps_cn_add (P : Nat → Bool) (a : Nat) : ∀ b, ps_cn P (a + b) = ps_cn P a + ps_cn (fun j => P (a + j)) b
  | 0 => rfl
  | b + 1 => by rw [← Nat.add_assoc, ps_cn, ps_cn_add P a b, ps_cn]; omega
theorem ps_cn_mono (P : Nat → Bool) {a b : Nat} (h : a ≤ b) : ps_cn P a ≤ ps_cn P b := by
  obtain ⟨d, rfl⟩ : ∃ d, b = a + d := ⟨b - a, by omega⟩
  rw [ps_cn_add]; omega
theorem ps_cn_none {P : Nat → Bool} : ∀ {n : Nat}, (∀ j, j < n → P j = false) → ps_cn P n = 0
  | 0, _ => rfl
  | n + 1, h => by rw [ps_cn, ps_cn_none (fun j hj => h j (by omega)), h n (by omega)]; rfl
theorem ps_cn_zero {P : Nat → Bool} : ∀ {n : Nat}, ps_cn P n = 0 → ∀ j, j < n → P j = false
  | 0, _, j, hj => absurd hj (Nat.not_lt_zero j)
  | n + 1, h, j, hj => by
    rw [ps_cn] at h
    rcases Nat.lt_or_ge j n with q | q
    · exact ps_cn_zero (n := n) (by omega) j q
    · have e : j = n := by omega
      subst e
      cases hb : P j with
      | false => rfl
      | true => rw [hb] at h; simp at h
theorem ps_cn_lt {P : Nat → Bool} {n j : Nat} (hj : j < n) (h : P j = true) : ps_cn P j < ps_cn P n := by
  have h1 : ps_cn P (j + 1) = ps_cn P j + 1 := by rw [ps_cn, if_pos h]
  have h2 := ps_cn_mono P (show j + 1 ≤ n by omega)
  omega
theorem ps_cn_all {P : Nat → Bool} : ∀ {n : Nat}, (∀ j, j < n → P j = true) → ps_cn P n = n
  | 0, _ => rfl
  | n + 1, h => by rw [ps_cn, ps_cn_all (fun j hj => h j (by omega)), h n (by omega)]; rfl
/-- with a and b apart -/
theorem ps_cn_or {P Q : Nat → Bool} : ∀ n, ps_cn (fun j => P j || Q j) n = ps_cn P n + ps_cn (fun j => Q j && !P j) n
  | 0 => rfl
  | n + 1 => by
    rw [ps_cn, ps_cn, ps_cn, ps_cn_or n]
    cases P n <;> cases Q n <;> simp <;> omega
theorem ps_cn_split {P Q : Nat → Bool} : ∀ n, ps_cn P n = ps_cn (fun j => P j && Q j) n + ps_cn (fun j => P j && !Q j) n
  | 0 => rfl
  | n + 1 => by
    rw [ps_cn, ps_cn, ps_cn, ps_cn_split (P := P) (Q := Q) n]
    cases P n <;> cases Q n <;> simp <;> omega
theorem ps_cn_range {a b : Nat} : ∀ n, ps_cn (fun j => decide (a ≤ j) && decide (j ≤ b)) n = min n (b + 1) - a
  | 0 => by simp [ps_cn]
  | n + 1 => by
    rw [ps_cn, ps_cn_range n]
    rcases Nat.lt_or_ge n a with h | h
    · simp [Nat.not_le.mpr h]; omega
    · rcases Nat.lt_or_ge b n with h2 | h2
      · simp [Nat.not_le.mpr h2]; omega
      · simp [h, h2]; omega
/-! the library's bitCount -/
def ps_m (d : Nat) : Nat → Nat
  | 0 => 0
  | k + 1 => d + 256 * ps_m d k
theorem ps_and256 {a d : Nat} (c e : Nat) (ha : a < 256) (hd : d < 256) : (a + 256 * c) &&& (d + 256 * e) = (a &&& d) + 256 * (c &&& e) := by
  have h1 : ((a + 256 * c) &&& (d + 256 * e)) / 2 ^ 8 = (a + 256 * c) / 2 ^ 8 &&& (d + 256 * e) / 2 ^ 8 := Nat.and_div_two_pow
  have h2 : ((a + 256 * c) &&& (d + 256 * e)) % 2 ^ 8 = (a + 256 * c) % 2 ^ 8 &&& (d + 256 * e) % 2 ^ 8 := Nat.and_mod_two_pow
  rw [show (a + 256 * c) / 2 ^ 8 = c by omega, show (d + 256 * e) / 2 ^ 8 = e by omega] at h1
  rw [show (a + 256 * c) % 2 ^ 8 = a by omega, show (d + 256 * e) % 2 ^ 8 = d by omega] at h2
  omega
def ps_g1 (k n : Nat) : Nat := n - ((n / 2) &&& ps_m 85 k)
def ps_g2 (k n : Nat) : Nat := (n &&& ps_m 51 k) + ((n / 4) &&& ps_m 51 k)
def ps_g3 (k n : Nat) : Nat := (n + n / 16) &&& ps_m 15 k
def ps_pb (b : Nat) : Nat := ps_g3 1 (ps_g2 1 (ps_g1 1 b))
theorem ps_b1 : ∀ b, b < 256 → ∀ t, t < 2 → ((b / 2 + 128 * t) &&& 85 = (b / 2) &&& 85) ∧ (b / 2) &&& 85 ≤ b := by decide +kernel
theorem ps_b2 : ∀ b, b < 256 → ∀ t, t < 4 → ((b / 4 + 64 * t) &&& 51 = (b / 4) &&& 51) := by decide +kernel
theorem ps_b2n : ∀ b, b < 256 → ((b &&& 51) + ((b / 4) &&& 51) < 256) := by decide +kernel
theorem ps_b2m : ∀ b, b < 256 → (((b - ((b / 2) &&& 85)) &&& 51) + (((b - ((b / 2) &&& 85)) / 4) &&& 51)) < 69 ∧ (((b - ((b / 2) &&& 85)) &&& 51) + (((b - ((b / 2) &&& 85)) / 4) &&& 51)) % 16 < 5 := by decide +kernel
theorem ps_b3 : ∀ b, b < 69 → ∀ t, t < 5 → ((b + b / 16 + 16 * t) &&& 15 = (b + b / 16) &&& 15) := by decide +kernel
theorem ps_g1_s (k b y : Nat) (hb : b < 256) : ps_g1 (k + 1) (b + 256 * y) = (b - ((b / 2) &&& 85)) + 256 * ps_g1 k y := by
  unfold ps_g1
  rw [ps_m, show (b + 256 * y) / 2 = (b / 2 + 128 * (y % 2)) + 256 * (y / 2) by omega, ps_and256 _ _ (by omega) (by omega), (ps_b1 b hb (y % 2) (by omega)).1]
  have h1 := (ps_b1 b hb (y % 2) (by omega)).2
  have h2 : (y / 2) &&& ps_m 85 k ≤ y / 2 := Nat.and_le_left
  omega
theorem ps_g2_s (k b y : Nat) (hb : b < 256) : ps_g2 (k + 1) (b + 256 * y) = ((b &&& 51) + ((b / 4) &&& 51)) + 256 * ps_g2 k y := by
  unfold ps_g2
  rw [ps_m, show (b + 256 * y) / 4 = (b / 4 + 64 * (y % 4)) + 256 * (y / 4) by omega, ps_and256 _ _ (by omega) (by omega), ps_and256 _ _ (by omega) (by omega), ps_b2 b hb (y % 4) (by omega)]
  omega
theorem ps_g3_s (k b y : Nat) (hb : b < 69) (hy : y % 16 < 5) : ps_g3 (k + 1) (b + 256 * y) = ((b + b / 16) &&& 15) + 256 * ps_g3 k y := by
  unfold ps_g3
  rw [ps_m, show b + 256 * y + (b + 256 * y) / 16 = (b + b / 16 + 16 * (y % 16)) + 256 * (y + y / 16) by omega, ps_and256 _ _ (by omega) (by omega), ps_b3 b hb (y % 16) hy]
def ps_bytes (k n : Nat) : Nat := ps_g2 k (ps_g1 k n)
theorem ps_bytes_low : ∀ (k n : Nat), n < 256 ^ k → ps_bytes k n % 16 < 5
  | 0, n, h => by
    have : n = 0 := by simpa using h
    subst this; decide
  | k + 1, n, h => by
    have hb : n % 256 < 256 := Nat.mod_lt _ (by decide)
    have e : n = n % 256 + 256 * (n / 256) := by omega
    unfold ps_bytes
    rw [e, ps_g1_s k _ _ hb]
    have h1 := (ps_b1 (n % 256) hb 0 (by omega)).2
    rw [ps_g2_s k _ _ (by omega)]
    have h2 := (ps_b2m (n % 256) hb).2
    omega
def ps_dig (k n : Nat) : Nat := ps_g3 k (ps_bytes k n)
theorem ps_dig_s (k n : Nat) (h : n < 256 ^ (k + 1)) : ps_dig (k + 1) n = ps_dig 1 (n % 256) + 256 * ps_dig k (n / 256) := by
  have hb : n % 256 < 256 := Nat.mod_lt _ (by decide)
  have hy : n / 256 < 256 ^ k := by
    rw [Nat.pow_succ] at h
    exact Nat.div_lt_of_lt_mul (by omega)
  have h1 := (ps_b1 (n % 256) hb 0 (by omega)).2
  have h2 := ps_b2m (n % 256) hb
  have key : ∀ (k y : Nat), ps_bytes k y % 16 < 5 → ps_dig (k + 1) (n % 256 + 256 * y) = (((((n % 256) - (((n % 256) / 2) &&& 85)) &&& 51) + ((((n % 256) - (((n % 256) / 2) &&& 85)) / 4) &&& 51)) + ((((n % 256) - (((n % 256) / 2) &&& 85)) &&& 51) + ((((n % 256) - (((n % 256) / 2) &&& 85)) / 4) &&& 51)) / 16 &&& 15) + 256 * ps_dig k y := by
    intro k y hl
    have hl2 : ps_g2 k (ps_g1 k y) % 16 < 5 := hl
    unfold ps_dig ps_bytes
    rw [ps_g1_s k _ _ hb, ps_g2_s k _ _ (by omega), ps_g3_s k _ _ h2.1 hl2]
  have a1 := key k (n / 256) (ps_bytes_low k _ hy)
  have a2 := key 0 0 (by decide)
  have e : n % 256 + 256 * (n / 256) = n := by omega
  rw [e] at a1
  have z : ps_dig 0 0 = 0 := by decide
  rw [show n % 256 + 256 * 0 = n % 256 by omega, z] at a2
  have a3 : ps_dig 1 (n % 256) = _ := a2
  rw [a1, a3]
  omega
theorem ps_dig1 : ∀ b, b < 256 → ps_dig 1 b = ps_cn (fun j => b.testBit j) 8 := by decide +kernel
theorem ps_cn_byte (n k : Nat) : ps_cn (fun j => n.testBit j) (8 + k) = ps_cn (fun j => (n % 256).testBit j) 8 + ps_cn (fun j => (n / 256).testBit j) k := by
  rw [ps_cn_add]
  congr 1
  · apply ps_cn_congr
    intro j hj
    have := Nat.testBit_mod_two_pow n 8 j
    rw [show (2 : Nat) ^ 8 = 256 from rfl] at this
    rw [this, decide_eq_true hj, Bool.true_and]
  · apply ps_cn_congr
    intro j _
    have := Nat.testBit_div_two_pow (n := 8) n j
    rw [show (2 : Nat) ^ 8 = 256 from rfl] at this
    rw [this, Nat.add_comm]
theorem ps_bytes_lt : ∀ (k n : Nat), n < 256 ^ k → ps_bytes k n * 3 < 256 ^ k
  | 0, n, h => by
    have : n = 0 := by simpa using h
    subst this; decide
  | k + 1, n, h => by
    have hb : n % 256 < 256 := Nat.mod_lt _ (by decide)
    have hy : n / 256 < 256 ^ k := by
      rw [Nat.pow_succ] at h
      exact Nat.div_lt_of_lt_mul (by omega)
    have ih := ps_bytes_lt k (n / 256) hy
    have e : n = n % 256 + 256 * (n / 256) := by omega
    have h1 := (ps_b1 (n % 256) hb 0 (by omega)).2
    have h2 := (ps_b2m (n % 256) hb).1
    have q : ps_bytes (k + 1) n = ((((n % 256) - (((n % 256) / 2) &&& 85)) &&& 51) + ((((n % 256) - (((n % 256) / 2) &&& 85)) / 4) &&& 51)) + 256 * ps_bytes k (n / 256) := by
      conv => lhs; rw [e]
      unfold ps_bytes
      rw [ps_g1_s k _ _ hb, ps_g2_s k _ _ (by omega)]
    rw [q, Nat.pow_succ]
    omega
theorem ps_dig1_le : ∀ b, b < 256 → ps_dig 1 b ≤ 8 := fun b hb => by rw [ps_dig1 b hb]; exact ps_cn_le _ 8
theorem ps_sum8 (c0 c1 c2 c3 c4 c5 c6 c7 d : Nat) (h0 : c0 ≤ 8) (h1 : c1 ≤ 8) (h2 : c2 ≤ 8) (h3 : c3 ≤ 8) (h4 : c4 ≤ 8) (h5 : c5 ≤ 8) (h6 : c6 ≤ 8) (h7 : c7 ≤ 8)
    (hd : d = c0 + 256 * (c1 + 256 * (c2 + 256 * (c3 + 256 * (c4 + 256 * (c5 + 256 * (c6 + 256 * c7))))))) :
    d < 2 ^ 60 ∧ d + d / 256 < 2 ^ 61 ∧ (d + d / 256) + (d + d / 256) / 65536 < 2 ^ 62 ∧ (((d + d / 256) + (d + d / 256) / 65536) + ((d + d / 256) + (d + d / 256) / 65536) / 4294967296) % 128 = c0 + c1 + c2 + c3 + c4 + c5 + c6 + c7 := by
  have e1 : d / 256 = c1 + 256 * (c2 + 256 * (c3 + 256 * (c4 + 256 * (c5 + 256 * (c6 + 256 * c7))))) := by
    rw [hd, Nat.add_mul_div_left _ _ (by decide), Nat.div_eq_of_lt (by omega), Nat.zero_add]
  have b1 : d < 2 ^ 60 := by omega
  obtain ⟨x, hx⟩ : ∃ x, x = d + d / 256 := ⟨_, rfl⟩
  have ex : x = ((c0 + c1) + 256 * (c1 + c2)) + 65536 * ((c2 + c3) + 256 * ((c3 + c4) + 256 * ((c4 + c5) + 256 * ((c5 + c6) + 256 * ((c6 + c7) + 256 * c7))))) := by rw [hx, e1, hd]; omega
  rw [← hx]
  clear hx e1 hd
  have e2 : x / 65536 = (c2 + c3) + 256 * ((c3 + c4) + 256 * ((c4 + c5) + 256 * ((c5 + c6) + 256 * ((c6 + c7) + 256 * c7)))) := by
    rw [ex, Nat.add_mul_div_left _ _ (by decide), Nat.div_eq_of_lt (by omega), Nat.zero_add]
  have b2 : x < 2 ^ 61 := by omega
  obtain ⟨y, hy⟩ : ∃ y, y = x + x / 65536 := ⟨_, rfl⟩
  have ey : y = ((c0 + c1 + c2 + c3) + 256 * ((c1 + c2 + c3 + c4) + 256 * ((c2 + c3 + c4 + c5) + 256 * (c3 + c4 + c5 + c6)))) + 4294967296 * ((c4 + c5 + c6 + c7) + 256 * ((c5 + c6 + c7) + 256 * ((c6 + c7) + 256 * c7))) := by rw [hy, e2, ex]; omega
  rw [← hy]
  clear hy e2 ex
  have e3 : y / 4294967296 = (c4 + c5 + c6 + c7) + 256 * ((c5 + c6 + c7) + 256 * ((c6 + c7) + 256 * c7)) := by
    rw [ey, Nat.add_mul_div_left _ _ (by decide), Nat.div_eq_of_lt (by omega), Nat.zero_add]
  have b3 : y < 2 ^ 62 := by omega
  refine ⟨b1, b2, b3, ?_⟩
  clear b1 b2 b3
  rw [e3, ey]
  clear e3 ey
  omega
theorem ps_dig8 (n : Nat) (hn : n < 2 ^ 64) : ps_dig 8 n < 2 ^ 60 ∧ ps_dig 8 n + ps_dig 8 n / 256 < 2 ^ 61 ∧ (ps_dig 8 n + ps_dig 8 n / 256) + (ps_dig 8 n + ps_dig 8 n / 256) / 65536 < 2 ^ 62 ∧ (((ps_dig 8 n + ps_dig 8 n / 256) + (ps_dig 8 n + ps_dig 8 n / 256) / 65536) + ((ps_dig 8 n + ps_dig 8 n / 256) + (ps_dig 8 n + ps_dig 8 n / 256) / 65536) / 4294967296) % 128 = ps_cn (fun j => n.testBit j) 64 := by
  have l : ∀ m : Nat, m % 256 < 256 := fun m => Nat.mod_lt _ (by decide)
  obtain ⟨n1, e1⟩ : ∃ z, z = n / 256 := ⟨_, rfl⟩
  obtain ⟨n2, e2⟩ : ∃ z, z = n1 / 256 := ⟨_, rfl⟩
  obtain ⟨n3, e3⟩ : ∃ z, z = n2 / 256 := ⟨_, rfl⟩
  obtain ⟨n4, e4⟩ : ∃ z, z = n3 / 256 := ⟨_, rfl⟩
  obtain ⟨n5, e5⟩ : ∃ z, z = n4 / 256 := ⟨_, rfl⟩
  obtain ⟨n6, e6⟩ : ∃ z, z = n5 / 256 := ⟨_, rfl⟩
  obtain ⟨n7, e7⟩ : ∃ z, z = n6 / 256 := ⟨_, rfl⟩
  have k7 : n1 < 256 ^ 7 := by rw [e1]; exact Nat.div_lt_of_lt_mul (by omega)
  have k6 : n2 < 256 ^ 6 := by rw [e2]; exact Nat.div_lt_of_lt_mul (by omega)
  have k5 : n3 < 256 ^ 5 := by rw [e3]; exact Nat.div_lt_of_lt_mul (by omega)
  have k4 : n4 < 256 ^ 4 := by rw [e4]; exact Nat.div_lt_of_lt_mul (by omega)
  have k3 : n5 < 256 ^ 3 := by rw [e5]; exact Nat.div_lt_of_lt_mul (by omega)
  have k2 : n6 < 256 ^ 2 := by rw [e6]; exact Nat.div_lt_of_lt_mul (by omega)
  have k1 : n7 < 256 := by rw [e7]; exact Nat.div_lt_of_lt_mul (by omega)
  have u1 : ps_dig 8 n = ps_dig 1 (n % 256) + 256 * ps_dig 7 n1 := by rw [e1]; exact ps_dig_s 7 n hn
  have u2 : ps_dig 7 n1 = ps_dig 1 (n1 % 256) + 256 * ps_dig 6 n2 := by rw [e2]; exact ps_dig_s 6 n1 k7
  have u3 : ps_dig 6 n2 = ps_dig 1 (n2 % 256) + 256 * ps_dig 5 n3 := by rw [e3]; exact ps_dig_s 5 n2 k6
  have u4 : ps_dig 5 n3 = ps_dig 1 (n3 % 256) + 256 * ps_dig 4 n4 := by rw [e4]; exact ps_dig_s 4 n3 k5
  have u5 : ps_dig 4 n4 = ps_dig 1 (n4 % 256) + 256 * ps_dig 3 n5 := by rw [e5]; exact ps_dig_s 3 n4 k4
  have u6 : ps_dig 3 n5 = ps_dig 1 (n5 % 256) + 256 * ps_dig 2 n6 := by rw [e6]; exact ps_dig_s 2 n5 k3
  have u7 : ps_dig 2 n6 = ps_dig 1 (n6 % 256) + 256 * ps_dig 1 n7 := by rw [e7]; exact ps_dig_s 1 n6 k2
  have u8 : ps_dig 1 n7 = ps_dig 1 (n7 % 256) := by rw [Nat.mod_eq_of_lt k1]
  have v1 : ps_cn (fun j => n.testBit j) 64 = ps_cn (fun j => (n % 256).testBit j) 8 + ps_cn (fun j => n1.testBit j) 56 := by rw [e1]; exact ps_cn_byte n 56
  have v2 : ps_cn (fun j => n1.testBit j) 56 = ps_cn (fun j => (n1 % 256).testBit j) 8 + ps_cn (fun j => n2.testBit j) 48 := by rw [e2]; exact ps_cn_byte n1 48
  have v3 : ps_cn (fun j => n2.testBit j) 48 = ps_cn (fun j => (n2 % 256).testBit j) 8 + ps_cn (fun j => n3.testBit j) 40 := by rw [e3]; exact ps_cn_byte n2 40
  have v4 : ps_cn (fun j => n3.testBit j) 40 = ps_cn (fun j => (n3 % 256).testBit j) 8 + ps_cn (fun j => n4.testBit j) 32 := by rw [e4]; exact ps_cn_byte n3 32
  have v5 : ps_cn (fun j => n4.testBit j) 32 = ps_cn (fun j => (n4 % 256).testBit j) 8 + ps_cn (fun j => n5.testBit j) 24 := by rw [e5]; exact ps_cn_byte n4 24
  have v6 : ps_cn (fun j => n5.testBit j) 24 = ps_cn (fun j => (n5 % 256).testBit j) 8 + ps_cn (fun j => n6.testBit j) 16 := by rw [e6]; exact ps_cn_byte n5 16
  have v7 : ps_cn (fun j => n6.testBit j) 16 = ps_cn (fun j => (n6 % 256).testBit j) 8 + ps_cn (fun j => n7.testBit j) 8 := by rw [e7]; exact ps_cn_byte n6 8
  have v8 : ps_cn (fun j => n7.testBit j) 8 = ps_cn (fun j => (n7 % 256).testBit j) 8 := by rw [Nat.mod_eq_of_lt k1]
  have hd : ps_dig 8 n = ps_dig 1 (n % 256) + 256 * (ps_dig 1 (n1 % 256) + 256 * (ps_dig 1 (n2 % 256) + 256 * (ps_dig 1 (n3 % 256) + 256 * (ps_dig 1 (n4 % 256) + 256 * (ps_dig 1 (n5 % 256) + 256 * (ps_dig 1 (n6 % 256) + 256 * ps_dig 1 (n7 % 256))))))) := by rw [u1, u2, u3, u4, u5, u6, u7, u8]
  have hc : ps_dig 1 (n % 256) + ps_dig 1 (n1 % 256) + ps_dig 1 (n2 % 256) + ps_dig 1 (n3 % 256) + ps_dig 1 (n4 % 256) + ps_dig 1 (n5 % 256) + ps_dig 1 (n6 % 256) + ps_dig 1 (n7 % 256) = ps_cn (fun j => n.testBit j) 64 := by
    rw [v1, v2, v3, v4, v5, v6, v7, v8, ps_dig1 _ (l n), ps_dig1 _ (l n1), ps_dig1 _ (l n2), ps_dig1 _ (l n3), ps_dig1 _ (l n4), ps_dig1 _ (l n5), ps_dig1 _ (l n6), ps_dig1 _ (l n7)]
    simp only [Nat.add_assoc]
  have S := ps_sum8 _ _ _ _ _ _ _ _ (ps_dig 8 n) (ps_dig1_le _ (l n)) (ps_dig1_le _ (l n1)) (ps_dig1_le _ (l n2)) (ps_dig1_le _ (l n3)) (ps_dig1_le _ (l n4)) (ps_dig1_le _ (l n5)) (ps_dig1_le _ (l n6)) (ps_dig1_le _ (l n7)) hd
  rw [hc] at S
  exact S
/-- a long by its number: the bits -/
theorem ps_bt_lN {n : Nat} (h : n < 2 ^ 64) (j : Nat) : ps_bt (lN n) j = n.testBit j := by
  unfold ps_bt
  show (BitVec.ofNat 64 n).getLsbD j = _
  rw [BitVec.getLsbD_ofNat]
  rcases Nat.lt_or_ge j 64 with q | q
  · rw [decide_eq_true q, Bool.true_and]
  · rw [decide_eq_false (by omega), Bool.false_and, Nat.testBit_lt_two_pow (Nat.lt_of_lt_of_le h (Nat.pow_le_pow_right (by decide) q))]
/-- how many bits of a long are set -/
def ps_pc (x : Int64) : Nat := ps_cn (ps_bt x) 64
theorem ps_pc_lN {n : Nat} (h : n < 2 ^ 64) : ps_pc (lN n) = ps_cn (fun j => n.testBit j) 64 := ps_cn_congr 64 (fun j _ => ps_bt_lN h j)
theorem ps_pc_le (x : Int64) : ps_pc x ≤ 64 := ps_cn_le _ 64
theorem ps_pc_congr {x : Int64} {P : Nat → Bool} (h : ∀ j, j < 64 → ps_bt x j = P j) : ps_pc x = ps_cn P 64 := ps_cn_congr 64 h
/-! the lowest bit -/
theorem ps_bt_neg (x : Int64) {j : Nat} (hj : j < 64) : ps_bt (-x) j = (ps_bt x j ^^ decide (∃ i, i < j ∧ ps_bt x i = true)) := by
  unfold ps_bt
  rw [Int64.toBitVec_neg, BitVec.getLsbD_neg, decide_eq_true hj, Bool.true_and]
theorem ps_lowAnd {x : Int64} {k j : Nat} (hk : k < 64) (hb : ps_bt x k = true) (hl : ∀ i, i < k → ps_bt x i = false) (hj : j < 64) : ps_bt (x &&& -x) j = decide (j = k) := by
  rw [ps_bt_and, ps_bt_neg x hj]
  rcases Nat.lt_trichotomy j k with h | h | h
  · rw [hl j h, decide_eq_false (show ¬ j = k by omega)]; rfl
  · subst h
    have n : ¬ ∃ i, i < j ∧ ps_bt x i = true := by
      rintro ⟨i, hi, hx⟩
      rw [hl i hi] at hx
      cases hx
    rw [hb, decide_eq_false n, decide_eq_true (rfl : j = j)]; rfl
  · have n : ∃ i, i < j ∧ ps_bt x i = true := ⟨k, h, hb⟩
    rw [decide_eq_true n, decide_eq_false (show ¬ j = k by omega)]
    cases ps_bt x j <;> rfl
theorem ps_low {x : Int64} {k : Nat} (hk : k < 64) (hb : ps_bt x k = true) (hl : ∀ i, i < k → ps_bt x i = false) : ps_pc ((x &&& -x) - 1) = k := by
  have e : x &&& -x = lN (2 ^ k) := by
    apply ps_bt_ext
    intro j hj
    rw [ps_lowAnd hk hb hl hj, ps_bt_lN (Nat.pow_lt_pow_right (by decide) hk), Nat.testBit_two_pow]
    apply decide_eq_decide.mpr
    omega
  have p := Nat.two_pow_pos k
  have e2 : lN (2 ^ k) - 1 = lN (2 ^ k - 1) := by
    have := lN_sub (a := 2 ^ k) (b := 1) (by omega)
    exact this
  have q : 2 ^ k < 2 ^ 64 := Nat.pow_lt_pow_right (by decide) hk
  rw [e, e2, ps_pc_lN (by omega)]
  have c : ps_cn (fun j => (2 ^ k - 1).testBit j) 64 = ps_cn (fun j => decide (0 ≤ j) && decide (j ≤ k - 1)) 64 ∨ k = 0 := by
    rcases Nat.eq_zero_or_pos k with h | h
    · exact Or.inr h
    · left
      apply ps_cn_congr
      intro j _
      rw [Nat.testBit_two_pow_sub_one, decide_eq_true (Nat.zero_le j), Bool.true_and]
      apply decide_eq_decide.mpr
      omega
  rcases c with c | c
  · rcases Nat.eq_zero_or_pos k with h | h
    · subst h
      exact ps_cn_none (fun j _ => by simp)
    · rw [c, ps_cn_range]; omega
  · subst c
    exact ps_cn_none (fun j _ => by simp)
/-- bits & (bits - 1): the lowest bit goes -/
theorem ps_dropLow {x : Int64} {k j : Nat} (hk : k < 64) (hb : ps_bt x k = true) (hl : ∀ i, i < k → ps_bt x i = false) (hj : j < 64) : ps_bt (x &&& (x - 1)) j = (ps_bt x j && !decide (j = k)) := by
  have e : (x - 1).toBitVec = ~~~ (-x.toBitVec) := by
    rw [BitVec.not_neg]
    exact Int64.toBitVec_sub
  have e2 : ps_bt (x - 1) j = !ps_bt (-x) j := by
    unfold ps_bt
    rw [e, BitVec.getLsbD_not, decide_eq_true hj, Bool.true_and, Int64.toBitVec_neg]
  rw [ps_bt_and, e2, ps_bt_neg x hj]
  rcases Nat.lt_trichotomy j k with h | h | h
  · rw [hl j h]; rfl
  · subst h
    have n : ¬ ∃ i, i < j ∧ ps_bt x i = true := by
      rintro ⟨i, hi, hx⟩
      rw [hl i hi] at hx
      cases hx
    rw [hb, decide_eq_false n, decide_eq_true (rfl : j = j)]; rfl
  · have n : ∃ i, i < j ∧ ps_bt x i = true := ⟨k, h, hb⟩
    rw [decide_eq_true n, decide_eq_false (show ¬ j = k by omega)]
    cases ps_bt x j <;> rfl
/-- the least bit that is set -/
theorem ps_least {P : Nat → Bool} {n : Nat} (h : ∃ j, j < n ∧ P j = true) : ∃ k, k < n ∧ P k = true ∧ ∀ i, i < k → P i = false := by
  obtain ⟨k, ⟨h1, h2⟩, h3⟩ := pk_least (fun j => j < n ∧ P j = true) h
  refine ⟨k, h1, h2, fun i hi => ?_⟩
  cases hb : P i with
  | false => rfl
  | true => exact absurd ⟨by omega, hb⟩ (h3 i hi)
