/-! a set of places as 64 longs -/
def ps_hs (f : Nat → Int64) (p : Nat) : Bool := ps_bt (f (p / 64)) (p % 64)
theorem ps_hs_at (f : Nat → Int64) {w j : Nat} (hj : j < 64) : ps_hs f (64 * w + j) = ps_bt (f w) j := by
  unfold ps_hs
  rw [show (64 * w + j) / 64 = w by omega, show (64 * w + j) % 64 = j by omega]
theorem ps_hs_ext {f g : Nat → Int64} {p : Nat} (h : f (p / 64) = g (p / 64)) : ps_hs f p = ps_hs g p := by unfold ps_hs; rw [h]
theorem ps_hs_0 (p : Nat) : ps_hs (fun _ => 0) p = false := ps_bt_0 _
theorem ps_cn_words (f : Nat → Int64) (w : Nat) : ps_cn (ps_hs f) (64 * (w + 1)) = ps_cn (ps_hs f) (64 * w) + ps_pc (f w) := by
  rw [Nat.mul_succ, ps_cn_add]
  congr 1
  exact ps_cn_congr 64 (fun j hj => ps_hs_at f hj)
/-- the first place from p on, below 4096, where S is b; 4096 if there is none -/
def ps_nxF (S : Nat → Bool) (b : Bool) : Nat → Nat → Nat
  | 0, p => p
  | n + 1, p => if S p = b then p else ps_nxF S b n (p + 1)
def ps_nx (S : Nat → Bool) (b : Bool) (p : Nat) : Nat := ps_nxF S b (4096 - p) p
theorem ps_nxF_spec (S : Nat → Bool) (b : Bool) : ∀ n p, p ≤ ps_nxF S b n p ∧ ps_nxF S b n p ≤ p + n ∧ (∀ q, p ≤ q → q < ps_nxF S b n p → ¬ S q = b) ∧ (ps_nxF S b n p < p + n → S (ps_nxF S b n p) = b)
  | 0, p => ⟨Nat.le_refl p, Nat.le_refl p, fun q h1 h2 => absurd h2 (Nat.not_lt.mpr h1), fun h => absurd h (Nat.lt_irrefl p)⟩
  | n + 1, p => by
    by_cases h : S p = b
    · have e : ps_nxF S b (n + 1) p = p := by rw [ps_nxF, if_pos h]
      rw [e]
      exact ⟨Nat.le_refl p, by omega, fun q h1 h2 => absurd h2 (Nat.not_lt.mpr h1), fun _ => h⟩
    · have e : ps_nxF S b (n + 1) p = ps_nxF S b n (p + 1) := by rw [ps_nxF, if_neg h]
      obtain ⟨a1, a2, a3, a4⟩ := ps_nxF_spec S b n (p + 1)
      rw [e]
      refine ⟨by omega, by omega, fun q h1 h2 => ?_, fun h1 => a4 (by omega)⟩
      rcases Nat.lt_or_ge p q with z | z
      · exact a3 q z h2
      · have : q = p := by omega
        subst this
        exact h
theorem ps_nx_spec (S : Nat → Bool) (b : Bool) {p : Nat} (hp : p ≤ 4096) : p ≤ ps_nx S b p ∧ ps_nx S b p ≤ 4096 ∧ (∀ q, p ≤ q → q < ps_nx S b p → ¬ S q = b) ∧ (ps_nx S b p < 4096 → S (ps_nx S b p) = b) := by
  obtain ⟨a1, a2, a3, a4⟩ := ps_nxF_spec S b (4096 - p) p
  have e : p + (4096 - p) = 4096 := by omega
  rw [e] at a2 a4
  exact ⟨a1, a2, a3, a4⟩
theorem ps_nx_uniq {S : Nat → Bool} {b : Bool} {p r : Nat} (h1 : p ≤ r) (h2 : r ≤ 4096) (h3 : ∀ q, p ≤ q → q < r → ¬ S q = b) (h4 : r < 4096 → S r = b) : ps_nx S b p = r := by
  obtain ⟨a1, a2, a3, a4⟩ := ps_nx_spec S b (p := p) (by omega)
  rcases Nat.lt_trichotomy (ps_nx S b p) r with h | h | h
  · exact absurd (a4 (by omega)) (h3 _ a1 h)
  · exact h
  · exact absurd (h4 (by omega)) (a3 r h1 h)
theorem ps_nx_congr {S T : Nat → Bool} (b : Bool) {p : Nat} (hp : p ≤ 4096) (h : ∀ q, q < 4096 → S q = T q) : ps_nx S b p = ps_nx T b p := by
  obtain ⟨a1, a2, a3, a4⟩ := ps_nx_spec T b hp
  exact ps_nx_uniq a1 a2 (fun q h1 h2 => by rw [h q (by omega)]; exact a3 q h1 h2) (fun h5 => by rw [h _ h5]; exact a4 h5)
theorem ps_cn_flat {P : Nat → Bool} {a b : Nat} (hab : a ≤ b) (h : ∀ q, a ≤ q → q < b → P q = false) : ps_cn P b = ps_cn P a := by
  obtain ⟨d, rfl⟩ : ∃ d, b = a + d := ⟨b - a, by omega⟩
  rw [ps_cn_add, ps_cn_none (fun j hj => h (a + j) (by omega) (by omega))]
  omega
theorem ps_cn_succ (P : Nat → Bool) (n : Nat) : ps_cn P (n + 1) = ps_cn P n + (if P n = true then 1 else 0) := rfl
/-! the last n go: what lies above a place -/
def ps_ab (S : Nat → Bool) (q : Nat) : Nat := ps_cn S 4096 - ps_cn S (q + 1)
/-- all places from p on are done -/
def ps_dl (S : Nat → Bool) (n p q : Nat) : Bool := if p ≤ q then (S q && decide (n ≤ ps_ab S q)) else S q
def ps_left (S : Nat → Bool) (n p : Nat) : Nat := n - (ps_cn S 4096 - ps_cn S p)
theorem ps_dl_top (S : Nat → Bool) (n : Nat) {q : Nat} (hq : q < 4096) : ps_dl S n 4096 q = S q := by unfold ps_dl; rw [if_neg (by omega)]
theorem ps_left_top (S : Nat → Bool) (n : Nat) : ps_left S n 4096 = n := by unfold ps_left; omega
theorem ps_dl_one {S : Nat → Bool} {n q : Nat} (hq : q < 4096) (hs : S q = true) (hl : 0 < ps_left S n (q + 1)) : ps_left S n q + 1 = ps_left S n (q + 1) ∧ ∀ r, ps_dl S n q r = (ps_dl S n (q + 1) r && !decide (r = q)) := by
  have c1 := ps_cn_succ S q
  rw [if_pos hs] at c1
  have c2 := ps_cn_mono S (show q + 1 ≤ 4096 by omega)
  unfold ps_left at *
  refine ⟨by omega, fun r => ?_⟩
  unfold ps_dl
  rcases Nat.lt_trichotomy r q with h | h | h
  · rw [if_neg (by omega), if_neg (by omega), decide_eq_false (show ¬ r = q by omega)]; simp
  · subst h
    rw [if_pos (Nat.le_refl r), if_neg (by omega), decide_eq_true (rfl : r = r)]
    rw [decide_eq_false (show ¬ n ≤ ps_ab S r by unfold ps_ab; omega)]
    simp
  · rw [if_pos (by omega), if_pos (by omega), decide_eq_false (show ¬ r = q by omega)]; simp
theorem ps_dl_none {S : Nat → Bool} {n q : Nat} (hs : S q = false) : ps_left S n q = ps_left S n (q + 1) ∧ ∀ r, ps_dl S n q r = ps_dl S n (q + 1) r := by
  have c1 := ps_cn_succ S q
  rw [hs, if_neg (by decide)] at c1
  unfold ps_left
  refine ⟨by rw [c1]; rfl, fun r => ?_⟩
  unfold ps_dl
  rcases Nat.lt_trichotomy r q with h | h | h
  · rw [if_neg (by omega), if_neg (by omega)]
  · subst h
    rw [if_pos (Nat.le_refl r), if_neg (by omega), hs]; rfl
  · rw [if_pos (by omega), if_pos (by omega)]
theorem ps_dl_done {S : Nat → Bool} {n p a : Nat} (ha : a ≤ p) (hp : p ≤ 4096) (hl : ps_left S n p = 0) : ps_left S n a = 0 ∧ ∀ r, ps_dl S n a r = ps_dl S n p r := by
  have c1 := ps_cn_mono S ha
  have c2 := ps_cn_mono S hp
  unfold ps_left at *
  refine ⟨by omega, fun r => ?_⟩
  unfold ps_dl
  by_cases h1 : p ≤ r
  · rw [if_pos (by omega), if_pos h1]
  · rw [if_neg h1]
    by_cases h2 : a ≤ r
    · have c3 := ps_cn_mono S (show r + 1 ≤ p by omega)
      rw [if_pos h2, decide_eq_true (show n ≤ ps_ab S r by unfold ps_ab; omega), Bool.and_true]
    · rw [if_neg h2]
theorem ps_dl_flat {S : Nat → Bool} {n a p : Nat} (ha : a ≤ p) (h : ∀ q, a ≤ q → q < p → S q = false) : ps_left S n a = ps_left S n p ∧ ∀ r, ps_dl S n a r = ps_dl S n p r := by
  have c := ps_cn_flat ha h
  unfold ps_left
  refine ⟨by rw [c], fun r => ?_⟩
  unfold ps_dl
  by_cases h1 : p ≤ r
  · rw [if_pos (by omega), if_pos h1]
  · rw [if_neg h1]
    by_cases h2 : a ≤ r
    · rw [if_pos h2, h r h2 (by omega)]; rfl
    · rw [if_neg h2]
theorem ps_dl_low {S : Nat → Bool} {n p q : Nat} (h : q < p) : ps_dl S n p q = S q := by unfold ps_dl; rw [if_neg (by omega)]
/-! spans: the places at which one begins -/
def ps_st (S : Nat → Bool) (p : Nat) : Bool := S p && !(decide (0 < p) && S (p - 1))
def ps_sp (S : Nat → Bool) : Nat := ps_cn (ps_st S) 4096
theorem ps_st_first (S : Nat → Bool) : ps_cn (ps_st S) (ps_nx S true 0) = 0 := by
  obtain ⟨-, -, a3, -⟩ := ps_nx_spec S true (p := 0) (by omega)
  apply ps_cn_none
  intro j hj
  unfold ps_st
  have := a3 j (Nat.zero_le j) hj
  rw [Bool.not_eq_true] at this
  rw [this]; rfl
theorem ps_st_next {S : Nat → Bool} {p : Nat} (hp : p < 4096) (hs : ps_st S p = true) : ps_cn (ps_st S) (ps_nx S true (ps_nx S false p)) = ps_cn (ps_st S) p + 1 ∧ p < ps_nx S false p ∧ (ps_nx S true (ps_nx S false p) < 4096 → ps_st S (ps_nx S true (ps_nx S false p)) = true) := by
  obtain ⟨a1, a2, a3, a4⟩ := ps_nx_spec S false (p := p) (by omega)
  obtain ⟨b1, b2, b3, b4⟩ := ps_nx_spec S true (p := ps_nx S false p) a2
  generalize ps_nx S false p = e at *
  generalize ps_nx S true e = r at *
  have hsp : S p = true := by
    unfold ps_st at hs
    rw [Bool.and_eq_true] at hs
    exact hs.1
  have hpe : p < e := by
    rcases Nat.lt_or_ge p e with h | h
    · exact h
    · have : e = p := by omega
      subst this
      rw [a4 hp] at hsp
      cases hsp
  have c1 := ps_cn_succ (ps_st S) p
  rw [if_pos hs] at c1
  have c2 : ps_cn (ps_st S) r = ps_cn (ps_st S) (p + 1) := by
    apply ps_cn_flat (by omega)
    intro q h1 h2
    unfold ps_st
    rcases Nat.lt_or_ge q e with h | h
    · have := a3 (q - 1) (by omega) (by omega)
      rw [Bool.not_eq_false] at this
      rw [this, decide_eq_true (show 0 < q by omega)]
      simp
    · have := b3 q h h2
      rw [Bool.not_eq_true] at this
      rw [this]; rfl
  refine ⟨by omega, hpe, fun hr => ?_⟩
  unfold ps_st
  rw [b4 hr]
  rcases Nat.lt_or_ge e r with h | h
  · have := b3 (r - 1) (by omega) (by omega)
    rw [Bool.not_eq_true] at this
    rw [this]; simp
  · have e1 : e = r := by omega
    subst e1
    have := a4 hr
    rw [b4 hr] at this
    cases this
/-! small rows for walks -/
def ps_bI (b : Bool) : Int32 := if b = true then 1 else 0
theorem ps_bI_0 {b : Bool} : ps_bI b = 0 ↔ b = false := by cases b <;> decide
theorem ps_bI_n0 {b : Bool} : ¬ ps_bI b = 0 ↔ b = true := by cases b <;> decide
theorem ps_lcmp0 {x y : Int64} : lg_cmp x y = 0 ↔ x = y := by
  unfold lg_cmp
  constructor
  · intro h
    by_cases h1 : x > y
    · rw [if_pos h1] at h; exact absurd h (by decide)
    · rw [if_neg h1] at h
      by_cases h2 : x = y
      · exact h2
      · rw [if_neg h2] at h; exact absurd h (by decide)
  · rintro rfl
    rw [if_neg (show ¬ x > x by rw [gt_iff_lt, Int64.lt_iff_toInt_lt]; omega), if_pos rfl]
theorem ps_bit1t {n : Nat} {x : Int64} (hn : n < 64) (h : ¬ ((x.toUInt64 >>> ((nI n).toInt64.toUInt64 &&& Int64.toUInt64 63)).toInt64 &&& 1) = 0) : ps_bt x n = true := by
  cases hb : ps_bt x n with
  | false => exact absurd ((ps_bit1 n hn x).mpr hb) h
  | true => rfl
theorem ps_le_nlt {n : Nat} {x : Int32} (hn : n < 2 ^ 31) (h : nI n ≤ x) : ¬ x < 0 := by
  rw [Int32.le_iff_toInt_le, nI_toInt hn] at h
  rw [Int32.lt_iff_toInt_lt, Int32.toInt_zero]
  omega
theorem ps_not_out {j N : Nat} (hj : j < N) (hN : N < 2 ^ 31) : ¬ (nI j < 0 ∨ nI N ≤ nI j) := by
  rintro (h | h)
  · exact nI_pos (by omega) h
  · exact nI_ge hj hN h
theorem ps_nx_mask (a : Nat) {j : Nat} (hj : j < 64) : (decide (a % 64 ≤ j) && ps_bt (-1) (j - a % 64)) = decide (a ≤ 64 * (a / 64) + j) := by
  rw [ps_bt_m1 _ (by omega), Bool.and_true]
  apply decide_eq_decide.mpr
  omega
theorem ps_nx_go {S : Nat → Bool} {b : Bool} {a w : Nat} (hno : ∀ q, a ≤ q → q < 64 * w → ¬ S q = b) (hz : ∀ j, j < 64 → (decide (S (64 * w + j) = b) && decide (a ≤ 64 * w + j)) = false) : ∀ q, a ≤ q → q < 64 * (w + 1) → ¬ S q = b := by
  intro q h1 h2 h3
  rcases Nat.lt_or_ge q (64 * w) with h | h
  · exact hno q h1 h h3
  · have := hz (q - 64 * w) (by omega)
    rw [show 64 * w + (q - 64 * w) = q by omega, decide_eq_true h3, decide_eq_true h1] at this
    cases this
theorem ps_nx_hit {S : Nat → Bool} {b : Bool} {a w j : Nat} {bits : Int64} (hno : ∀ q, a ≤ q → q < 64 * w → ¬ S q = b) (hbits : ∀ j, j < 64 → ps_bt bits j = (decide (S (64 * w + j) = b) && decide (a ≤ 64 * w + j))) (hj : j < 64) (hj1 : ps_bt bits j = true) (hj2 : ∀ i, i < j → ps_bt bits i = false) (hw : w < 64) : ps_nx S b a = w * 64 + j := by
  rw [hbits j hj, Bool.and_eq_true, decide_eq_true_eq, decide_eq_true_eq] at hj1
  have e : w * 64 + j = 64 * w + j := by omega
  rw [e]
  apply ps_nx_uniq hj1.2 (by omega) _ (fun _ => hj1.1)
  intro q h1 h2 h3
  rcases Nat.lt_or_ge q (64 * w) with h | h
  · exact hno q h1 h h3
  · have t := hj2 (q - 64 * w) (by omega)
    rw [hbits _ (by omega), show 64 * w + (q - 64 * w) = q by omega, decide_eq_true h3, decide_eq_true h1] at t
    cases t
theorem ps_nx_miss {S : Nat → Bool} {b : Bool} {a w : Nat} (ha : a ≤ 4096) (hw : w = 64) (hno : ∀ q, a ≤ q → q < 64 * w → ¬ S q = b) : ps_nx S b a = 4096 := by
  subst hw
  exact ps_nx_uniq ha (Nat.le_refl _) (fun q h1 h2 => hno q h1 (by omega)) (fun h => absurd h (by omega))
/-! rows for the walks of Places -/
theorem ps_st_0 (S : Nat → Bool) : ps_nx S true 0 < 4096 → ps_st S (ps_nx S true 0) = true := by
  intro h
  obtain ⟨-, -, a3, a4⟩ := ps_nx_spec S true (p := 0) (by omega)
  unfold ps_st
  rw [a4 h]
  rcases Nat.eq_zero_or_pos (ps_nx S true 0) with z | z
  · rw [z]; rfl
  · have := a3 (ps_nx S true 0 - 1) (by omega) (by omega)
    rw [Bool.not_eq_true] at this
    rw [this]; simp
def ps_ad (S : Nat → Bool) (a b q : Nat) : Bool := (decide (a ≤ q) && decide (q ≤ b)) && !S q
theorem ps_ad_0 {S : Nat → Bool} {a b : Nat} : 0 = ps_cn (ps_ad S a b) (64 * (a / 64)) := by
  symm
  apply ps_cn_none
  intro j hj
  unfold ps_ad
  rw [decide_eq_false (show ¬ a ≤ j by omega)]; rfl
theorem ps_ad_low {S : Nat → Bool} {a b q : Nat} (h : q < a) : S q = (S q || (decide (a ≤ q) && decide (q ≤ b))) := by
  rw [decide_eq_false (show ¬ a ≤ q by omega)]; simp
theorem ps_ad_mask {a b i j : Nat} (hj : j < 64) (hib : i ≤ b / 64) : (decide (a - i * 64 ≤ j) && decide (j ≤ min (b - i * 64) 63)) = (decide (a ≤ 64 * i + j) && decide (64 * i + j ≤ b)) := by
  congr 1
  · apply decide_eq_decide.mpr; omega
  · apply decide_eq_decide.mpr; omega
theorem ps_ad_cn {F f : Nat → Int64} {a b i fr : Nat} {mk : Int64} (hfr : fr = ps_cn (ps_ad (ps_hs F) a b) (64 * i)) (hfi : f i = F i) (hmk : ∀ j, j < 64 → ps_bt mk j = (decide (a ≤ 64 * i + j) && decide (64 * i + j ≤ b))) : fr + ps_pc (mk &&& (f i ^^^ (-1))) = ps_cn (ps_ad (ps_hs F) a b) (64 * (i + 1)) := by
  rw [Nat.mul_succ, ps_cn_add, ← hfr]
  congr 1
  apply ps_pc_congr
  intro j hj
  rw [ps_bt_and, ps_bt_not hj, hmk j hj, hfi]
  unfold ps_ad
  rw [ps_hs_at F hj]
theorem ps_hs_up_ne {f : Nat → Int64} {i q : Nat} {x : Int64} (h : q / 64 ≠ i) : ps_hs (va_up f i x) q = ps_hs f q := by
  unfold ps_hs
  rw [va_up_ne _ _ h]
theorem ps_hs_up {f : Nat → Int64} {i q : Nat} {x : Int64} (h : q / 64 = i) : ps_hs (va_up f i x) q = ps_bt x (q % 64) := by
  unfold ps_hs
  rw [h, va_up_self]
theorem ps_ad_set {F f : Nat → Int64} {a b i : Nat} {mk : Int64} (hs : ∀ q, q < 64 * i → ps_hs f q = (ps_hs F q || (decide (a ≤ q) && decide (q ≤ b)))) (hfi : f i = F i) (hmk : ∀ j, j < 64 → ps_bt mk j = (decide (a ≤ 64 * i + j) && decide (64 * i + j ≤ b))) : ∀ q, q < 64 * (i + 1) → ps_hs (va_up f i (f i ||| mk)) q = (ps_hs F q || (decide (a ≤ q) && decide (q ≤ b))) := by
  intro q hq
  rcases Nat.lt_or_ge q (64 * i) with h | h
  · rw [ps_hs_up_ne (by omega)]
    exact hs q h
  · have e : q / 64 = i := by omega
    rw [ps_hs_up e, ps_bt_or, hmk _ (by omega), hfi, show 64 * i + q % 64 = q by omega]
    unfold ps_hs
    rw [e]
theorem ps_ad_all {S : Nat → Bool} {a b : Nat} (hb : b < 4096) : ps_cn (ps_ad S a b) (64 * (b / 64 + 1)) = ps_cn (ps_ad S a b) 4096 := by
  symm
  apply ps_cn_flat (by omega)
  intro q h1 _
  unfold ps_ad
  rw [decide_eq_false (show ¬ q ≤ b by omega)]; simp
theorem ps_ad_end {F f : Nat → Int64} {a b i : Nat} (_ : b < 4096) (hib : i = b / 64 + 1) (hf : ∀ j, i ≤ j → f j = F j) (hs : ∀ q, q < 64 * i → ps_hs f q = (ps_hs F q || (decide (a ≤ q) && decide (q ≤ b)))) : ∀ q, q < 4096 → ps_hs f q = (ps_hs F q || (decide (a ≤ q) && decide (q ≤ b))) := by
  intro q _
  rcases Nat.lt_or_ge q (64 * i) with h | h
  · exact hs q h
  · rw [ps_hs_ext (hf (q / 64) (by omega)), decide_eq_false (show ¬ q ≤ b by omega)]; simp
theorem ps_max0 {a b : Nat} (ha : a < 2 ^ 30) (hb : b < 2 ^ 30) : (if nI a - nI b < nI 0 then nI 0 else nI a - nI b) = nI (a - b) := by
  rcases Nat.lt_or_ge a b with h | h
  · rw [if_pos (show nI a - nI b < nI 0 from pk_sneg hb h), show a - b = 0 by omega]
  · rw [pk_sub h, if_neg (nI_nlt (Nat.zero_le _) (by omega))]
theorem ps_min63 {x : Nat} (hx : x < 2 ^ 30) : (if nI 63 < nI x then nI 63 else nI x) = nI (min x 63) := by
  rcases Nat.lt_or_ge 63 x with h | h
  · rw [if_pos (nI_lt h (by omega)), Nat.min_eq_right (by omega)]
  · rw [if_neg (nI_nlt h (by omega)), Nat.min_eq_left h]
theorem ps_rm_set {F G f : Nat → Int64} {i : Nat} (hs : ∀ q, q < 64 * i → ps_hs f q = (ps_hs F q && !ps_hs G q)) (hfi : f i = F i) : ∀ q, q < 64 * (i + 1) → ps_hs (va_up f i (f i &&& (G i ^^^ (-1)))) q = (ps_hs F q && !ps_hs G q) := by
  intro q hq
  rcases Nat.lt_or_ge q (64 * i) with h | h
  · rw [ps_hs_up_ne (by omega)]
    exact hs q h
  · have e : q / 64 = i := by omega
    rw [ps_hs_up e, ps_bt_and, ps_bt_not (by omega), hfi]
    unfold ps_hs
    rw [e]
def ps_pr (v : Nat) : Int32 := nI v + Int32.ofInt (-1)
theorem ps_m1e : Int32.ofInt (-1) = -1 := by decide
theorem ps_pr_s (v : Nat) : ps_pr (v + 1) = nI v := by
  unfold ps_pr
  rw [ps_m1e]
  exact pk_m1 v
theorem ps_pr_neg {v : Nat} (hv : v < 2 ^ 31) (h : ps_pr v < 0) : v = 0 := by
  rcases Nat.eq_zero_or_pos v with z | z
  · exact z
  · obtain ⟨w, rfl⟩ : ∃ w, v = w + 1 := ⟨v - 1, by omega⟩
    rw [ps_pr_s] at h
    exact absurd h (nI_pos (by omega))
theorem ps_pr_pos {v : Nat} (h : ¬ ps_pr v < 0) : ¬ v = 0 := by
  rintro rfl
  exact h (by decide)
theorem ps_le0 {n : Nat} (hn : n < 2 ^ 31) (h : nI n ≤ 0) : n = 0 := by
  rw [Int32.le_iff_toInt_le, nI_toInt hn, Int32.toInt_zero] at h
  omega
theorem ps_nle0 {n : Nat} (h : ¬ nI n ≤ 0) : 0 < n := by
  rcases Nat.eq_zero_or_pos n with z | z
  · subst z
    exact absurd (by decide) h
  · exact z
theorem ps_dec1 {n : Nat} (h : 0 < n) : nI n + Int32.ofInt (-1) = nI (n - 1) := by
  rw [ps_m1e]
  exact sb_m1 h
theorem ps_dl_word {S : Nat → Bool} {n w b : Nat} {f : Nat → Int64} (hb : b ≤ 64) (hw : w < 64) (hd : ∀ q, q < 4096 → ps_hs f q = ps_dl S n (64 * w + b) q) (hz : ∀ j, j < 64 → ps_bt (f w) j = false) : ps_left S n (64 * w) = ps_left S n (64 * w + b) ∧ ∀ r, ps_dl S n (64 * w) r = ps_dl S n (64 * w + b) r := by
  apply ps_dl_flat (by omega)
  intro q h1 h2
  have h3 := hd q (by omega)
  rw [ps_dl_low h2] at h3
  rw [← h3]
  have h4 := hz (q % 64) (by omega)
  unfold ps_hs
  rw [show q / 64 = w by omega]
  exact h4
theorem ps_dl_bit {S : Nat → Bool} {n w b : Nat} {f : Nat → Int64} (hb : b < 64) (hw : w < 64) (hd : ∀ q, q < 4096 → ps_hs f q = ps_dl S n (64 * w + (b + 1)) q) : ps_bt (f w) b = S (64 * w + b) := by
  rw [← ps_hs_at f hb, hd _ (by omega), ps_dl_low (by omega)]
theorem ps_dl_set {S : Nat → Bool} {n w b : Nat} {f : Nat → Int64} (hb : b < 64) (hd : ∀ q, q < 4096 → ps_hs f q = ps_dl S n (64 * w + (b + 1)) q) (h : ∀ r, ps_dl S n (64 * w + b) r = (ps_dl S n (64 * w + b + 1) r && !decide (r = 64 * w + b))) : ∀ q, q < 4096 → ps_hs (va_up f w (f w &&& (((1 : Int64) <<< ((nI b).toInt64 &&& 63)) ^^^ (-1)))) q = ps_dl S n (64 * w + b) q := by
  intro q hq
  rw [h q, show 64 * w + b + 1 = 64 * w + (b + 1) by omega, ← hd q hq]
  by_cases e : q / 64 = w
  · rw [ps_hs_up e, ps_bt_and, ps_bt_not (by omega), ps_one b hb (by omega)]
    have e2 : decide (q % 64 = b) = decide (q = 64 * w + b) := decide_eq_decide.mpr (by omega)
    rw [e2]
    unfold ps_hs
    rw [e]
  · rw [ps_hs_up_ne e, decide_eq_false (show ¬ q = 64 * w + b by omega)]; simp
/-! the library's bitCount: its constants -/
theorem ps_k1 {m : Nat} (h : m < 2 ^ 64) : lN m &&& (6148914691236517205 : Int64) = lN (m &&& ps_m 85 8) := by
  rw [show (6148914691236517205 : Int64) = lN (ps_m 85 8) by decide]
  exact wb_and h (by decide)
theorem ps_k2 {m : Nat} (h : m < 2 ^ 64) : lN m &&& (3689348814741910323 : Int64) = lN (m &&& ps_m 51 8) := by
  rw [show (3689348814741910323 : Int64) = lN (ps_m 51 8) by decide]
  exact wb_and h (by decide)
theorem ps_k3 {m : Nat} (h : m < 2 ^ 64) : lN m &&& (1085102592571150095 : Int64) = lN (m &&& ps_m 15 8) := by
  rw [show (1085102592571150095 : Int64) = lN (ps_m 15 8) by decide]
  exact wb_and h (by decide)
theorem ps_k4 {n y : Nat} (hn : n < 2 ^ 64) (h : y % 128 = ps_cn (fun j => n.testBit j) 64) : (lN y).toInt32 &&& nI 127 = nI (ps_pc (lN n)) := by
  rw [lN_i, pk_and (nI y) 7 (by decide), ps_pc_lN hn, ← h]
  have e : (nI y).toBitVec.toNat = y % 2 ^ 32 := BitVec.toNat_ofNat y 32
  rw [e]
  congr 1
  omega
