/-! the plan, place by place -/
theorem pm_lof_fuel {M : Nat → Bool} {c : Nat} : ∀ (n z f f2 : Nat), 4096 - z ≤ n → z < 4096 → M z = true → 4096 - z ≤ f → 4096 - z ≤ f2 → ps_lof M c f z = ps_lof M c f2 z
  | 0, z, f, f2, hn, hz, _, _, _ => by omega
  | n + 1, z, f, f2, hn, hz, hm, h1, h2 => by
    by_cases h : ps_nx M true (z + 1) = 4096 ∨ c < ps_nx M true (z + 1) - z - 1
    · rw [ps_lof_stop h, ps_lof_stop h]
    · rw [ps_lof_go (by omega) h, ps_lof_go (k := f2) (by omega) h]
      obtain ⟨a1, a2, a3, a4, a5⟩ := ps_lof_st hz (fun e => h (Or.inl e))
      exact pm_lof_fuel n _ _ _ (by omega) (by omega) a5 (by omega) (by omega)
theorem pm_nx_mid {M : Nat → Bool} {z y : Nat} (hzy : z < y) (hy : y < 4096) (hm : M y = true) (hno : ∀ q, z < q → q < y → M q = false) : ps_nx M true (z + 1) = y :=
  ps_nx_uniq (by omega) (by omega) (fun q h1 h2 h3 => by rw [hno q (by omega) h2] at h3; cases h3) (fun _ => hm)
theorem pm_lof_step {M : Nat → Bool} {c z y : Nat} (hzy : z < y) (hy : y < 4096) (hm : M y = true) (hno : ∀ q, z < q → q < y → M q = false) (hc : y - z - 1 ≤ c) : ps_lof M c 4096 z = ps_lof M c 4096 y := by
  have e1 := pm_nx_mid hzy hy hm hno
  rw [ps_lof_go (by omega) (by rw [e1]; omega), e1]
  have g1 := ps_nx_false_gt hy hm
  have s1 := ps_nx_spec M false (p := y) (by omega)
  by_cases hw : ps_nx M false y = y + 1
  · rw [hw]
    exact pm_lof_fuel (4096 - y) y _ _ (by omega) hy hm (by omega) (by omega)
  · have hm1 : M (y + 1) = true := by
      have := s1.2.2.1 (y + 1) (by omega) (by omega)
      rw [Bool.not_eq_false] at this; exact this
    have e2 : ps_nx M true (y + 1) = y + 1 := ps_nx_uniq (by omega) (by omega) (fun q h1 h2 => by omega) (fun _ => hm1)
    have e3 : ps_nx M false (y + 1) = ps_nx M false y := ps_nx_uniq (by omega) (by omega) (fun q h1 h2 => s1.2.2.1 q (by omega) h2) s1.2.2.2
    rw [ps_lof_go (z := y) (by omega) (by rw [e2]; omega), e2, e3]
theorem pm_nx_4096 (M : Nat → Bool) (b : Bool) : ps_nx M b 4096 = 4096 := ps_nx_uniq (by omega) (by omega) (fun q h1 h2 => by omega) (fun h => absurd h (by omega))
theorem pm_plF_fuel {M : Nat → Bool} {c : Nat} : ∀ (n p f f2 : Nat), 4096 - p ≤ n → p ≤ 4096 → 4096 - p ≤ f → 4096 - p ≤ f2 → ps_plF M c f p = ps_plF M c f2 p
  | n, p, f, f2, hn, hp, h1, h2 => by
    have s := ps_nx_spec M true hp
    by_cases h : ps_nx M true p < 4096
    · obtain ⟨n, rfl⟩ : ∃ z, n = z + 1 := ⟨n - 1, by omega⟩
      rw [ps_plF_yes (by omega) h, ps_plF_yes (k := f2) (by omega) h]
      have l := ps_lof_spec (M := M) (c := c) 4096 _ h (s.2.2.2 h)
      rw [pm_plF_fuel n _ (f - 1) (f2 - 1) (by omega) (by omega) (by omega) (by omega)]
    · rw [ps_plF_no _ (by omega), ps_plF_no _ (by omega)]
theorem pm_plF_skip {M : Nat → Bool} {c p : Nat} (f : Nat) (hp : p < 4096) (h : M p = false) : ps_plF M c f p = ps_plF M c f (p + 1) := by
  have s := ps_nx_spec M true (p := p + 1) (by omega)
  have e : ps_nx M true p = ps_nx M true (p + 1) := ps_nx_uniq (by omega) s.2.1 (fun q h1 h2 h3 => by
    rcases Nat.lt_or_ge p q with z | z
    · exact s.2.2.1 q z h2 h3
    · rw [show q = p by omega, h] at h3; cases h3) s.2.2.2
  cases f with
  | zero => rfl
  | succ f => rw [ps_plF, ps_plF, e]
def pm_run (M : Nat → Bool) (c : Nat) : Nat → Nat → Option (Nat × Nat) → List (Nat × Nat)
  | 0, _, o => o.toList
  | f + 1, k, o => if M k = true then (match o with
    | none => pm_run M c f (k + 1) (some (k, k))
    | some r => if k - r.2 - 1 ≤ c then pm_run M c f (k + 1) (some (r.1, k)) else r :: pm_run M c f (k + 1) (some (k, k))) else pm_run M c f (k + 1) o
theorem pm_run_no {M : Nat → Bool} {c k : Nat} {o : Option (Nat × Nat)} (hk : k < 4096) (h : M k = false) : pm_run M c (4096 - k) k o = pm_run M c (4096 - (k + 1)) (k + 1) o := by
  rw [show 4096 - k = (4096 - (k + 1)) + 1 by omega]
  cases o <;> rw [pm_run, if_neg (by rw [h]; decide)]
theorem pm_run_new {M : Nat → Bool} {c k : Nat} (hk : k < 4096) (h : M k = true) : pm_run M c (4096 - k) k none = pm_run M c (4096 - (k + 1)) (k + 1) (some (k, k)) := by
  rw [show 4096 - k = (4096 - (k + 1)) + 1 by omega, pm_run, if_pos h]
theorem pm_run_on {M : Nat → Bool} {c k a z : Nat} (hk : k < 4096) (h : M k = true) (hc : k - z - 1 ≤ c) : pm_run M c (4096 - k) k (some (a, z)) = pm_run M c (4096 - (k + 1)) (k + 1) (some (a, k)) := by
  rw [show 4096 - k = (4096 - (k + 1)) + 1 by omega, pm_run, if_pos h]
  show (if k - z - 1 ≤ c then _ else _) = _
  rw [if_pos hc]
theorem pm_run_cut {M : Nat → Bool} {c k a z : Nat} (hk : k < 4096) (h : M k = true) (hc : ¬ k - z - 1 ≤ c) : pm_run M c (4096 - k) k (some (a, z)) = (a, z) :: pm_run M c (4096 - (k + 1)) (k + 1) (some (k, k)) := by
  rw [show 4096 - k = (4096 - (k + 1)) + 1 by omega, pm_run, if_pos h]
  show (if k - z - 1 ≤ c then _ else _) = _
  rw [if_neg hc]
theorem pm_run_eq {M : Nat → Bool} {c : Nat} : ∀ (n k : Nat), k + n = 4096 → pm_run M c (4096 - k) k none = ps_plF M c 4096 k ∧ ∀ a z, z < k → M z = true → (∀ q, z < q → q < k → M q = false) → pm_run M c (4096 - k) k (some (a, z)) = (a, ps_lof M c 4096 z) :: ps_plF M c 4096 (ps_lof M c 4096 z + 1)
  | 0, k, h => by
    obtain rfl : k = 4096 := by omega
    refine ⟨?_, fun a z hz hm hno => ?_⟩
    · rw [ps_plF_no _ (by rw [pm_nx_4096]; omega)]; rfl
    · have e : ps_nx M true (z + 1) = 4096 := ps_nx_uniq (by omega) (by omega) (fun q h1 h2 h3 => by rw [hno q (by omega) h2] at h3; cases h3) (fun h => absurd h (by omega))
      rw [ps_lof_stop (Or.inl e), ps_plF_no _ (by rw [e]; omega)]; rfl
  | n + 1, k, h => by
    obtain ⟨ia, ib⟩ := pm_run_eq (M := M) (c := c) n (k + 1) (by omega)
    cases hk : M k with
    | false =>
      refine ⟨by rw [pm_run_no (by omega) hk, ia, pm_plF_skip _ (by omega) hk], fun a z hz hm hno => ?_⟩
      rw [pm_run_no (by omega) hk]
      exact ib a z (by omega) hm (fun q h1 h2 => by
        rcases Nat.lt_or_ge q k with y | y
        · exact hno q h1 y
        · rw [show q = k by omega]; exact hk)
    | true =>
      have ik := ib k k (by omega) hk (fun q h1 h2 => by omega)
      have ek : ps_nx M true k = k := ps_nx_uniq (by omega) (by omega) (fun q h1 h2 => by omega) (fun _ => hk)
      have lk := ps_lof_spec (M := M) (c := c) 4096 k (by omega) hk
      have pk : ps_plF M c 4096 k = (k, ps_lof M c 4096 k) :: ps_plF M c 4096 (ps_lof M c 4096 k + 1) := by
        rw [ps_plF_yes (by omega) (by rw [ek]; omega), ek, pm_plF_fuel 4096 (ps_lof M c 4096 k + 1) (4096 - 1) 4096 (by omega) (by omega) (by omega) (by omega)]
      refine ⟨by rw [pm_run_new (by omega) hk, ik, pk], fun a z hz hm hno => ?_⟩
      by_cases hc : k - z - 1 ≤ c
      · rw [pm_run_on (by omega) hk hc, ib a k (by omega) hk (fun q h1 h2 => by omega), pm_lof_step hz (by omega) hk hno hc]
      · have e1 := pm_nx_mid hz (by omega) hk hno
        rw [pm_run_cut (by omega) hk hc, ik, ps_lof_stop (z := z) (by rw [e1]; omega)]
        rw [ps_plF_yes (p := z + 1) (by omega) (by rw [e1]; omega), e1, pm_plF_fuel 4096 (ps_lof M c 4096 k + 1) (4096 - 1) 4096 (by omega) (by omega) (by omega) (by omega)]
/-! spans are a plan that costs nothing -/
theorem pm_lof_0 {W : Nat → Bool} {z : Nat} (hz : z < 4096) (h : W z = true) : ps_lof W 0 4096 z = ps_nx W false z - 1 := by
  have g1 := ps_nx_false_gt hz h
  have s1 := ps_nx_spec W false (p := z) (by omega)
  have s2 := ps_nx_spec W true (p := z + 1) (by omega)
  by_cases hw : ps_nx W false z = z + 1
  · rw [hw, ps_lof_stop]; rfl
    rcases Nat.lt_or_ge (ps_nx W true (z + 1)) 4096 with y | y
    · right
      have : ¬ ps_nx W true (z + 1) = z + 1 := fun e => by
        have a := s2.2.2.2 y
        have b := s1.2.2.2 (by rw [hw]; omega)
        rw [hw, ← e, a] at b; cases b
      omega
    · left; omega
  · have hm1 : W (z + 1) = true := by
      have := s1.2.2.1 (z + 1) (by omega) (by omega)
      rw [Bool.not_eq_false] at this; exact this
    have e2 : ps_nx W true (z + 1) = z + 1 := ps_nx_uniq (by omega) (by omega) (fun q h1 h2 => by omega) (fun _ => hm1)
    have e3 : ps_nx W false (z + 1) = ps_nx W false z := ps_nx_uniq (by omega) (by omega) (fun q h1 h2 => s1.2.2.1 q (by omega) h2) s1.2.2.2
    rw [ps_lof_go (by omega) (by rw [e2]; omega), e2, e3, ps_lof_stop]
    have e4 : ps_nx W false z - 1 + 1 = ps_nx W false z := by omega
    rw [e4]
    have s3 := ps_nx_spec W true (p := ps_nx W false z) (by omega)
    rcases Nat.lt_or_ge (ps_nx W true (ps_nx W false z)) 4096 with y | y
    · right
      have : ¬ ps_nx W true (ps_nx W false z) = ps_nx W false z := fun e => by
        have a := s3.2.2.2 y
        have b := s1.2.2.2 (by omega)
        rw [e, b] at a; cases a
      omega
    · left; omega
theorem pm_spF_pl {W : Nat → Bool} : ∀ (c p : Nat), p ≤ 4096 → ps_spF W c p = ps_plF W 0 c p
  | 0, _, _ => rfl
  | c + 1, p, hp => by
    have s := ps_nx_spec W true hp
    rw [ps_spF, ps_plF]
    split
    · rename_i h
      have g := ps_nx_false_gt h (s.2.2.2 h)
      rw [pm_lof_0 h (s.2.2.2 h), show ps_nx W false (ps_nx W true p) - 1 + 1 = ps_nx W false (ps_nx W true p) by omega, pm_spF_pl c _ g.2]
    · rfl
theorem pm_plF_take {M : Nat → Bool} {c : Nat} : ∀ (k f p : Nat), k ≤ f → ps_plF M c k p = (ps_plF M c f p).take k
  | 0, f, p, _ => by rw [ps_plF, List.take_zero]
  | k + 1, f, p, h => by
    obtain ⟨f, rfl⟩ : ∃ z, f = z + 1 := ⟨f - 1, by omega⟩
    rw [ps_plF, ps_plF]
    split
    · rw [List.take_succ_cons, pm_plF_take k f _ (by omega)]
    · rfl
theorem pm_cn_mem (L : List Nat) (n : Nat) : ps_cn (fun q => decide (q ∈ L)) n ≤ L.length := by
  induction L with
  | nil => rw [ps_cn_none (fun j _ => by simp)]; exact Nat.zero_le _
  | cons a L ih =>
    have h1 : ps_cn (fun q => decide (q ∈ a :: L)) n = ps_cn (fun q => decide (q = a) || decide (q ∈ L)) n := ps_cn_congr n (fun j _ => by simp)
    rw [h1, ps_cn_or]
    have h2 : ps_cn (fun q => decide (q = a)) n ≤ 1 := by
      have : ps_cn (fun q => decide (q = a)) n = ps_cn (fun j => decide (a ≤ j) && decide (j ≤ a)) n := ps_cn_congr n (fun j _ => by
        by_cases e : j = a
        · subst e; simp
        · rw [decide_eq_false e]
          by_cases z : a ≤ j
          · rw [decide_eq_false (show ¬ j ≤ a by omega)]; simp
          · rw [decide_eq_false z]; rfl)
      rw [this, ps_cn_range]; omega
    have h3 : ps_cn (fun j => decide (j ∈ L) && !decide (j = a)) n ≤ ps_cn (fun q => decide (q ∈ L)) n := ps_cn_sub n (fun q _ h => by
      rw [Bool.and_eq_true] at h; exact h.1)
    rw [List.length_cons]; omega
theorem pm_len_le {P L : List Nat} (hP : P.Pairwise (· < ·)) (h : ∀ q ∈ P, q ∈ L) : P.length ≤ L.length := by
  rcases Nat.eq_zero_or_pos P.length with z | z
  · omega
  · have h1 := ps_cn_list P hP (P.length - 1) (by omega)
    have h2 := ps_cn_succ (fun q => decide (q ∈ P)) (P[P.length - 1]'(by omega))
    rw [h1, if_pos (by simp)] at h2
    have h3 := ps_cn_sub (A := fun q => decide (q ∈ P)) (B := fun q => decide (q ∈ L)) (P[P.length - 1]'(by omega) + 1) (fun q _ hq => by
      rw [decide_eq_true_eq] at hq ⊢; exact h q hq)
    have h4 := pm_cn_mem L (P[P.length - 1]'(by omega) + 1)
    omega
theorem pm_sp_start {W : Nat → Bool} : ∀ (k p : Nat), p ≤ 4096 → (p = 0 ∨ p = 4096 ∨ W p = false) → ∀ r ∈ ps_plF W 0 k p, W r.1 = true ∧ (r.1 = 0 ∨ W (r.1 - 1) = false)
  | 0, p, _, _, r, hr => by rw [ps_plF] at hr; exact absurd hr List.not_mem_nil
  | k + 1, p, hp, h0, r, hr => by
    have s := ps_nx_spec W true hp
    rw [ps_plF] at hr
    split at hr
    · rename_i h
      have g := ps_nx_false_gt h (s.2.2.2 h)
      have sf := ps_nx_spec W false (p := ps_nx W true p) (by omega)
      rcases List.mem_cons.mp hr with z | z
      · subst z
        refine ⟨s.2.2.2 h, ?_⟩
        show ps_nx W true p = 0 ∨ _
        rcases Nat.eq_zero_or_pos (ps_nx W true p) with y | y
        · exact Or.inl y
        · right
          show W (ps_nx W true p - 1) = false
          have hpp : p ≤ ps_nx W true p - 1 := by
            rcases h0 with e | e | e
            · omega
            · omega
            · have : ¬ ps_nx W true p = p := fun e2 => by
                have := s.2.2.2 h
                rw [e2, e] at this; cases this
              omega
          have := s.2.2.1 (ps_nx W true p - 1) hpp (by omega)
          cases hh : W (ps_nx W true p - 1) with
          | false => rfl
          | true => exact absurd hh this
      · rw [pm_lof_0 h (s.2.2.2 h), show ps_nx W false (ps_nx W true p) - 1 + 1 = ps_nx W false (ps_nx W true p) by omega] at z
        refine pm_sp_start k _ g.2 ?_ r z
        rcases Nat.lt_or_ge (ps_nx W false (ps_nx W true p)) 4096 with y | y
        · exact Or.inr (Or.inr (sf.2.2.2 y))
        · exact Or.inr (Or.inl (by omega))
    · exact absurd hr List.not_mem_nil
theorem pm_sp_len (R : List (Nat × Nat)) : (ps_plF (ps_any R) 0 4096 0).length ≤ R.length := by
  have h := pm_len_le (P := (ps_plF (ps_any R) 0 4096 0).map (fun r => r.1)) (L := R.map (fun r => r.1)) (ps_plOK_1 (ps_plF_OK _ _)) (fun q hq => by
    obtain ⟨r, hr, rfl⟩ := List.mem_map.mp hq
    obtain ⟨h1, h2⟩ := pm_sp_start 4096 0 (by omega) (Or.inl rfl) r hr
    obtain ⟨t, ht, t1, t2⟩ := ps_any_mem.mp h1
    refine List.mem_map.mpr ⟨t, ht, ?_⟩
    apply Classical.byContradiction
    intro hne
    rcases h2 with z | z
    · exact hne (by show t.1 = r.1; omega)
    · have : ps_any R (r.1 - 1) = true := ps_any_mem.mpr ⟨t, ht, by show t.1 ≤ r.1 - 1; have : ¬ t.1 = r.1 := hne; omega, by omega⟩
      rw [this] at z; cases z)
  simpa using h
theorem pm_spF_all (R : List (Nat × Nat)) (h : R.length ≤ 6) : ps_spF (ps_any R) 6 0 = ps_plF (ps_any R) 0 4096 0 := by
  rw [pm_spF_pl 6 0 (by omega), pm_plF_take 6 4096 0 (by omega), List.take_of_length_le]
  have := pm_sp_len R; omega
/-! what goes when there is no room: the reference's way -/
def pm_tF (S : Nat → Nat → Bool) : Nat → Nat
  | 0 => 0
  | n + 1 => pm_tF S n + ps_cn (S n) 4096
theorem pm_tF_le (S : Nat → Nat → Bool) : ∀ n, pm_tF S n ≤ 4096 * n
  | 0 => Nat.le_refl 0
  | n + 1 => by
    have h := pm_tF_le S n
    have h2 := ps_cn_le (S n) 4096
    rw [pm_tF]; omega
theorem pm_cn_rm {T : Nat → Bool} {q n : Nat} (hq : q < n) (h : T q = true) : ps_cn (fun r => T r && !decide (r = q)) n + 1 = ps_cn T n := by
  have h1 := ps_cn_split (P := T) (Q := fun r => decide (r = q)) n
  have h2 : ps_cn (fun r => T r && decide (r = q)) n = 1 := by
    have : ps_cn (fun r => T r && decide (r = q)) n = ps_cn (fun j => decide (q ≤ j) && decide (j ≤ q)) n := ps_cn_congr n (fun j _ => by
      by_cases e : j = q
      · subst e; simp [h]
      · rw [decide_eq_false e]
        by_cases z : q ≤ j
        · rw [decide_eq_false (show ¬ j ≤ q by omega)]; simp
        · rw [decide_eq_false z]; simp)
    rw [this, ps_cn_range]; omega
  have h3 : ps_cn (fun j => T j && !(fun r => decide (r = q)) j) n = ps_cn (fun r => T r && !decide (r = q)) n := rfl
  omega
theorem pm_dl_cn (S : Nat → Bool) (n : Nat) : ∀ d p, p + d = 4096 → ps_cn (ps_dl S n p) 4096 + n = ps_cn S 4096 + ps_left S n p
  | 0, p, h => by
    obtain rfl : p = 4096 := by omega
    rw [ps_left_top, ps_cn_congr 4096 (fun q hq => ps_dl_top S n hq)]
  | d + 1, p, h => by
    have ih := pm_dl_cn S n d (p + 1) (by omega)
    cases hs : S p with
    | false =>
      obtain ⟨a, b⟩ := ps_dl_none (n := n) hs
      rw [a, ps_cn_congr 4096 (fun q _ => b q)]; exact ih
    | true =>
      rcases Nat.eq_zero_or_pos (ps_left S n (p + 1)) with z | z
      · obtain ⟨a, b⟩ := ps_dl_done (a := p) (p := p + 1) (by omega) (by omega) z
        rw [a, ps_cn_congr 4096 (fun q _ => b q)]; omega
      · obtain ⟨a, b⟩ := ps_dl_one (by omega) hs z
        have e : ps_dl S n (p + 1) p = true := by rw [ps_dl_low (by omega)]; exact hs
        have := pm_cn_rm (n := 4096) (by omega) e
        rw [ps_cn_congr 4096 (fun q _ => b q)]; omega
theorem pm_nx_cn {S : Nat → Bool} : ps_nx S true 0 = 4096 ↔ ps_cn S 4096 = 0 := by
  have s := ps_nx_spec S true (p := 0) (by omega)
  constructor
  · intro h
    refine ps_cn_none (fun j hj => ?_)
    have := s.2.2.1 j (by omega) (by omega)
    rw [Bool.not_eq_true] at this; exact this
  · intro h
    rcases Nat.lt_or_ge (ps_nx S true 0) 4096 with z | z
    · have a := ps_cn_zero h _ z
      rw [s.2.2.2 z] at a; cases a
    · omega
theorem pm_oldF_no {us : Nat → Int64} {S : Nat → Nat → Bool} : ∀ n, ps_oldF us S n = none → ∀ t, t < n → ps_nx (S t) true 0 = 4096
  | 0, _, t, ht => absurd ht (Nat.not_lt_zero t)
  | n + 1, h, t, ht => by
    by_cases e : ps_nx (S n) true 0 = 4096
    · rw [ps_oldF_e e] at h
      rcases Nat.lt_or_ge t n with z | z
      · exact pm_oldF_no n h t z
      · rw [show t = n by omega]; exact e
    · rcases ho : ps_oldF us S n with _ | o
      · rw [ps_oldF_n e ho] at h; cases h
      · rw [ps_oldF_s e ho] at h; split at h <;> cases h
theorem pm_oldF_ne {us : Nat → Int64} {S : Nat → Nat → Bool} : ∀ n o, ps_oldF us S n = some o → ¬ ps_nx (S o) true 0 = 4096
  | 0, o, h => by cases h
  | n + 1, o, h => by
    by_cases e : ps_nx (S n) true 0 = 4096
    · rw [ps_oldF_e e] at h; exact pm_oldF_ne n o h
    · rcases ho : ps_oldF us S n with _ | o2
      · rw [ps_oldF_n e ho] at h; cases h; exact e
      · rw [ps_oldF_s e ho] at h
        split at h
        · cases h; exact e
        · cases h; exact pm_oldF_ne n o ho
theorem pm_tF_ne {S : Nat → Nat → Bool} : ∀ n, 0 < pm_tF S n → ∃ t, t < n ∧ 0 < ps_cn (S t) 4096
  | 0, h => by rw [pm_tF] at h; omega
  | n + 1, h => by
    rw [pm_tF] at h
    obtain ⟨x, ex⟩ : ∃ x, x = ps_cn (S n) 4096 := ⟨_, rfl⟩
    rw [← ex] at h
    rcases Nat.eq_zero_or_pos x with z | z
    · obtain ⟨t, h1, h2⟩ := pm_tF_ne (S := S) n (by omega)
      exact ⟨t, by omega, h2⟩
    · exact ⟨n, Nat.lt_succ_self n, by rw [← ex]; exact z⟩
theorem pm_tF_lo {S : Nat → Nat → Bool} {o : Nat} {T : Nat → Bool} : ∀ n, n ≤ o → pm_tF (va_up S o T) n = pm_tF S n
  | 0, _ => rfl
  | n + 1, h => by rw [pm_tF, pm_tF, pm_tF_lo n (by omega), va_up_ne _ _ (by omega)]
theorem pm_tF_up {S : Nat → Nat → Bool} {o : Nat} {T : Nat → Bool} : ∀ n, o < n → pm_tF (va_up S o T) n + ps_cn (S o) 4096 = pm_tF S n + ps_cn T 4096
  | 0, h => absurd h (Nat.not_lt_zero o)
  | n + 1, h => by
    rw [pm_tF, pm_tF]
    rcases Nat.lt_or_ge o n with z | z
    · have := pm_tF_up (S := S) (T := T) n z
      rw [va_up_ne _ _ (by omega)]; omega
    · obtain rfl : o = n := by omega
      rw [pm_tF_lo o (Nat.le_refl o), va_up_self]; omega
def pm_ne (S : Nat → Nat → Bool) : Nat := ps_cn (fun t => decide (0 < ps_cn (S t) 4096)) 6
/-- the state of the reference's loop: k rounds are left for the class's -/
def pm_ev (us : Nat → Int64) (S0 : Nat → Nat → Bool) (ov0 k ov : Nat) (S : Nat → Nat → Bool) : Prop := ps_evF us 6 ov0 S0 = ps_evF us k ov S ∧ (0 < ov → pm_ne S ≤ k)
theorem pm_ev_0 (us : Nat → Int64) (S : Nat → Nat → Bool) (ov : Nat) : pm_ev us S ov 6 ov S := ⟨rfl, fun _ => ps_cn_le _ 6⟩
theorem pm_ev_end {us : Nat → Int64} {S0 S : Nat → Nat → Bool} {ov0 k : Nat} (h : pm_ev us S0 ov0 k 0 S) : ps_evF us 6 ov0 S0 = S := by rw [h.1, ps_evF_0]
theorem pm_ev_some {us : Nat → Int64} {S : Nat → Nat → Bool} (h : 0 < pm_tF S 6) : ∃ o, o < 6 ∧ ps_oldF us S 6 = some o := by
  rcases ho : ps_oldF us S 6 with _ | o
  · obtain ⟨t, h1, h2⟩ := pm_tF_ne 6 h
    have := pm_nx_cn.mp (pm_oldF_no 6 ho t h1)
    omega
  · exact ⟨o, ps_oldF_lt _ _ _ _ ho, rfl⟩
theorem pm_ev_step {us : Nat → Int64} {S0 S : Nat → Nat → Bool} {ov0 k ov o : Nat} (h : pm_ev us S0 ov0 k ov S) (hov : 0 < ov) (ho : ps_oldF us S 6 = some o) : 0 < k ∧ pm_ev us S0 ov0 (k - 1) (ps_left (S o) ov 0) (va_up S o (ps_dl (S o) ov 0)) ∧ pm_tF (va_up S o (ps_dl (S o) ov 0)) 6 + ov = pm_tF S 6 + ps_left (S o) ov 0 := by
  have ho6 := ps_oldF_lt _ _ _ _ ho
  have hc := pm_dl_cn (S o) ov 4096 0 (by omega)
  have hp : 0 < ps_cn (S o) 4096 := by
    have a := pm_oldF_ne 6 o ho
    rw [pm_nx_cn] at a; omega
  have hP : (fun t => decide (0 < ps_cn (S t) 4096)) o = true := decide_eq_true hp
  have hne : 0 < pm_ne S := by
    have := ps_cn_lt (P := fun t => decide (0 < ps_cn (S t) 4096)) ho6 hP
    unfold pm_ne; omega
  have hk := h.2 hov
  refine ⟨by omega, ⟨by rw [h.1, ps_evF_s (by omega) (by omega) ho], fun hl => ?_⟩, ?_⟩
  · have hz : ps_cn (ps_dl (S o) ov 0) 4096 = 0 := by
      have : ps_left (S o) ov 0 = ov - ps_cn (S o) 4096 := by unfold ps_left; rw [show ps_cn (S o) 0 = 0 from rfl, Nat.sub_zero]
      omega
    have e : pm_ne (va_up S o (ps_dl (S o) ov 0)) = ps_cn (fun t => decide (0 < ps_cn (S t) 4096) && !decide (t = o)) 6 := ps_cn_congr 6 (fun t _ => by
      by_cases q : t = o
      · subst q; rw [va_up_self, hz]; simp
      · rw [va_up_ne _ _ q, decide_eq_false q]; simp)
    have := pm_cn_rm (T := fun t => decide (0 < ps_cn (S t) 4096)) ho6 hP
    rw [e]
    unfold pm_ne at hk
    omega
  · have := pm_tF_up (S := S) (T := ps_dl (S o) ov 0) 6 ho6
    omega
/-! the reference reads a text -/
def ps_sz (f : Nat → Int32) (n i : Nat) : Int32 := if i < n then f i else nI 0
theorem pm_sz_isd (f : Nat → Int32) (n i : Nat) : ps_isd (ps_sz f n i) = ps_isd (ps_sg f n i) := by
  unfold ps_sz ps_sg
  split
  · rfl
  · decide
theorem pm_sz_eq {f : Nat → Int32} {n i c : Nat} (h0 : 0 < c) (hc : c < 1000) : ps_sz f n i = nI c ↔ ps_sg f n i = nI c := by
  unfold ps_sz ps_sg
  split
  · exact Iff.rfl
  · constructor
    · intro h; exact absurd ((nI_eq (by omega) (by omega)).mp h) (by omega)
    · intro h; exact absurd h.symm (ps_nI_m1 (by omega))
theorem pm_sz_m {f : Nat → Int32} {n i : Nat} : ps_sz f n i = nI 45 ↔ ps_sg f n i = nI 45 := pm_sz_eq (by decide) (by decide)
theorem pm_sz_c {f : Nat → Int32} {n i : Nat} : ps_sz f n i = nI 44 ↔ ps_sg f n i = nI 44 := pm_sz_eq (by decide) (by decide)
theorem pm_sg_out {f : Nat → Int32} {n i : Nat} (h : n ≤ i) : ps_sg f n i = -1 := by unfold ps_sg; rw [if_neg (by omega)]
theorem pm_isd_lt {f : Nat → Int32} {n i : Nat} (h : ps_isd (ps_sg f n i) = true) : i < n := by
  rcases Nat.lt_or_ge i n with z | z
  · exact z
  · rw [pm_sg_out z] at h; exact absurd h (by decide)
theorem pm_ed_stab (f : Nat → Int32) (n : Nat) : ∀ k k2 i, n - i ≤ k → n - i ≤ k2 → ps_edF f n k i = ps_edF f n k2 i
  | 0, k2, i, h1, _ => by
    have e : ps_isd (ps_sg f n i) = false := by rw [pm_sg_out (by omega)]; decide
    rw [ps_edF_no e, ps_edF_no e]
  | k + 1, k2, i, h1, h2 => by
    cases hd : ps_isd (ps_sg f n i) with
    | false => rw [ps_edF_no hd, ps_edF_no hd]
    | true =>
      have := pm_isd_lt hd
      rw [ps_edF_yes (by omega) hd, ps_edF_yes (k := k2) (by omega) hd]
      exact pm_ed_stab f n k (k2 - 1) (i + 1) (by omega) (by omega)
/-- where the digits end -/
def pm_end (f : Nat → Int32) (n i : Nat) : Nat := ps_edF f n n i
theorem pm_end_no {f : Nat → Int32} {n i : Nat} (h : ps_isd (ps_sg f n i) = false) : pm_end f n i = i := ps_edF_no h
theorem pm_end_yes {f : Nat → Int32} {n i : Nat} (h : ps_isd (ps_sg f n i) = true) : pm_end f n i = pm_end f n (i + 1) := by
  have := pm_isd_lt h
  unfold pm_end
  rw [ps_edF_yes (by omega) h]
  exact pm_ed_stab f n _ _ _ (by omega) (by omega)
theorem pm_end_ge (f : Nat → Int32) (n i : Nat) : i ≤ pm_end f n i ∧ (i ≤ n → pm_end f n i ≤ n) := by
  refine ⟨(ps_edF_ge f n n i).1, fun h => ?_⟩
  rcases Nat.lt_or_ge i (pm_end f n i) with z | z
  · have := pm_isd_lt (ps_edF_dig f n n i (pm_end f n i - 1) (by omega) (by unfold pm_end at z ⊢; omega))
    omega
  · omega
theorem pm_ed_min (f : Nat → Int32) (n : Nat) : ∀ k i, ps_edF f n k i = min (i + k) (pm_end f n i)
  | 0, i => by have := (pm_end_ge f n i).1; rw [ps_edF]; omega
  | k + 1, i => by
    cases hd : ps_isd (ps_sg f n i) with
    | false => rw [ps_edF_no hd, pm_end_no hd]; omega
    | true =>
      rw [ps_edF_yes (by omega) hd, pm_end_yes hd, Nat.add_sub_cancel, pm_ed_min f n k (i + 1)]; omega
theorem pm_end_stop (f : Nat → Int32) (n : Nat) : ∀ d i, n - i ≤ d → ps_isd (ps_sg f n (pm_end f n i)) = false
  | 0, i, h => by
    have e : ps_isd (ps_sg f n i) = false := by rw [pm_sg_out (by omega)]; decide
    rw [pm_end_no e]; exact e
  | d + 1, i, h => by
    cases hd : ps_isd (ps_sg f n i) with
    | false => rw [pm_end_no hd]; exact hd
    | true => have := pm_isd_lt hd; rw [pm_end_yes hd]; exact pm_end_stop f n d (i + 1) (by omega)
theorem pm_end_dig {f : Nat → Int32} {n i j : Nat} (h1 : i ≤ j) (h2 : j < pm_end f n i) : ps_isd (ps_sg f n j) = true := ps_edF_dig f n n i j h1 h2
theorem pm_nmF_s (f : Nat → Int32) (n : Nat) : ∀ j a v, ps_nmF f n (j + 1) a v = ps_nmF f n j a v * nI 10 + ps_sg f n (a + j) - nI 48
  | 0, a, v => rfl
  | j + 1, a, v => by
    rw [ps_nmF, pm_nmF_s f n j (a + 1), ps_nmF, show a + 1 + j = a + (j + 1) by omega]
/-- a number as the reference reads it -/
def pm_nb (f : Nat → Int32) (n a : Nat) : Int32 := if 5 < pm_end f n a - a then -1 else ps_nm f n a (pm_end f n a)
theorem pm_nb_nat (f : Nat → Int32) (n a : Nat) : pm_nb f n a = -1 ∨ ∃ z : Nat, z < 100000 ∧ pm_nb f n a = nI z := by
  unfold pm_nb
  split
  · exact Or.inl rfl
  · have h := ps_nm_nat f n a
    have e : ps_edF f n 5 a = pm_end f n a := by have := (pm_end_ge f n a).1; rw [pm_ed_min]; omega
    rw [e] at h; exact h
theorem pm_nb_none {f : Nat → Int32} {n a : Nat} (h : pm_nb f n a = -1) : pm_end f n a = a ∨ 5 < pm_end f n a - a := by
  unfold pm_nb at h
  split at h
  · right; assumption
  · rename_i h5
    have hg := (pm_end_ge f n a).1
    by_cases e : a = pm_end f n a
    · exact Or.inl e.symm
    · obtain ⟨y, y1, _⟩ := ps_nmF_nat f n (pm_end f n a - a) a 0 (fun j h1 h2 => pm_end_dig h1 (by omega))
      have h2 : ps_nm f n a (pm_end f n a) = nI y := by unfold ps_nm; rw [if_neg e]; exact y1
      have hy : y < 100000 := by
        rename_i yb
        have : 10 ^ (pm_end f n a - a) ≤ 10 ^ 5 := Nat.pow_le_pow_right (by decide) (by omega)
        omega
      rw [h2] at h
      exact absurd h (ps_nI_m1 (by omega))
theorem pm_nb_some {f : Nat → Int32} {n a : Nat} (h : ¬ pm_nb f n a = -1) : a < pm_end f n a ∧ pm_end f n a - a ≤ 5 ∧ pm_nb f n a = ps_nm f n a (pm_end f n a) ∧ ps_edF f n 5 a = pm_end f n a := by
  have hg := (pm_end_ge f n a).1
  unfold pm_nb at h ⊢
  split at h
  · exact absurd rfl h
  · rename_i h5
    refine ⟨?_, by omega, by rw [if_neg h5], by rw [pm_ed_min]; omega⟩
    rcases Nat.lt_or_ge a (pm_end f n a) with z | z
    · exact z
    · exfalso; apply h; unfold ps_nm; rw [if_pos (by omega)]
/-- a part as the reference reads it -/
def pm_rp (f : Nat → Int32) (n a : Nat) : Option (Nat × Int32 × Int32) := match ps_rp f n a with
  | none => none
  | some q => if ps_isd (ps_sg f n q.1) = true then none else some q
theorem pm_rp_0 {f : Nat → Int32} {n a : Nat} (h : ps_rp f n a = none) : pm_rp f n a = none := by unfold pm_rp; rw [h]
theorem pm_rp_A {f : Nat → Int32} {n a : Nat} (h : ¬ ps_sg f n (pm_end f n a) = nI 45 ∨ 5 < pm_end f n a - a) : pm_rp f n a = none := by
  refine pm_rp_0 (ps_rp_no ?_)
  rw [pm_ed_min]
  have hg := (pm_end_ge f n a).1
  rcases Nat.lt_or_ge 5 (pm_end f n a - a) with z | z
  · rw [show min (a + 5) (pm_end f n a) = a + 5 by omega]
    intro e
    have := pm_end_dig (f := f) (n := n) (i := a) (j := a + 5) (by omega) (by omega)
    rw [e] at this
    exact absurd this (by decide)
  · rw [show min (a + 5) (pm_end f n a) = pm_end f n a by omega]
    rcases h with h | h
    · exact h
    · omega
theorem pm_rp_B {f : Nat → Int32} {n a : Nat} (h1 : pm_end f n a - a ≤ 5) (h2 : 5 < pm_end f n (pm_end f n a + 1) - (pm_end f n a + 1)) : pm_rp f n a = none := by
  have hg := (pm_end_ge f n a).1
  have e1 : ps_edF f n 5 a = pm_end f n a := by rw [pm_ed_min]; omega
  have e2 : ps_edF f n 5 (pm_end f n a + 1) = pm_end f n a + 1 + 5 := by rw [pm_ed_min]; omega
  rcases h : ps_rp f n a with _ | ⟨E, lo, hi⟩
  · exact pm_rp_0 h
  · have hE : E = pm_end f n a + 1 + 5 := by
      unfold ps_rp at h
      rw [e1, e2] at h
      split at h
      · split at h
        · cases h
        · exact (congrArg (fun z => z.1) (Option.some.inj h)).symm
      · cases h
    unfold pm_rp
    rw [h]
    show (if ps_isd (ps_sg f n E) = true then none else _) = none
    rw [if_pos (by rw [hE]; exact pm_end_dig (i := pm_end f n a + 1) (by omega) (by omega))]
theorem pm_rp_C {f : Nat → Int32} {n a : Nat} {lo hi : Int32} (h1 : pm_end f n a - a ≤ 5) (hs : ps_sg f n (pm_end f n a) = nI 45) (h2 : pm_end f n (pm_end f n a + 1) - (pm_end f n a + 1) ≤ 5) (elo : ps_nm f n a (pm_end f n a) = lo) (ehi : ps_nm f n (pm_end f n a + 1) (pm_end f n (pm_end f n a + 1)) = hi) : pm_rp f n a = if (lo = -1 ∧ hi = -1) ∨ (¬ hi = -1 ∧ ¬ lo ≤ hi) then none else some (pm_end f n (pm_end f n a + 1), lo, hi) := by
  have hg := (pm_end_ge f n a).1
  have hg2 := (pm_end_ge f n (pm_end f n a + 1)).1
  have e1 : ps_edF f n 5 a = pm_end f n a := by rw [pm_ed_min]; omega
  have e2 : ps_edF f n 5 (pm_end f n a + 1) = pm_end f n (pm_end f n a + 1) := by rw [pm_ed_min]; omega
  have e3 : ps_rp f n a = if (lo = -1 ∧ hi = -1) ∨ (¬ hi = -1 ∧ ¬ lo ≤ hi) then none else some (pm_end f n (pm_end f n a + 1), lo, hi) := by
    unfold ps_rp
    rw [e1, e2, if_pos hs, elo, ehi]
  unfold pm_rp
  rw [e3]
  split
  · rename_i h; split at h <;> simp_all
  · rename_i q h
    split at h
    · cases h
    · rename_i hc
      cases h
      rw [if_neg hc, if_neg (by rw [pm_end_stop f n _ (pm_end f n a + 1) (Nat.le_refl _)]; decide)]
theorem pm_rp_some {f : Nat → Int32} {n a E : Nat} {lo hi : Int32} (h : pm_rp f n a = some (E, lo, hi)) : ps_rp f n a = some (E, lo, hi) ∧ ps_isd (ps_sg f n E) = false := by
  unfold pm_rp at h
  split at h
  · cases h
  · rename_i q e
    split at h
    · cases h
    · rename_i hd
      cases h
      exact ⟨e, by rw [Bool.not_eq_true] at hd; exact hd⟩
/-- no digit behind a part that counts -/
theorem pm_rdF (f : Nat → Int32) (n c a : Nat) : ps_rdF f n (c + 1) a = match pm_rp f n a with
    | none => none
    | some (E, lo, hi) => if E = n then some [(lo, hi)] else if ps_sg f n E = nI 44 then (ps_rdF f n c (E + 1)).map (fun L => (lo, hi) :: L) else none := by
  rw [ps_rdF]
  rcases h : ps_rp f n a with _ | ⟨E, lo, hi⟩
  · rw [pm_rp_0 h]
  · unfold pm_rp
    rw [h]
    show (if E = n then _ else _) = _
    cases hd : ps_isd (ps_sg f n E) with
    | false => simp [hd]
    | true =>
      have := pm_isd_lt hd
      simp only [hd, if_true]
      rw [if_neg (by omega), if_neg (fun e => by rw [e] at hd; exact absurd hd (by decide))]
/-- the state of the reading: the parts P are read, the place is E -/
def pm_ct (f : Nat → Int32) (n E : Nat) (P : List (Int32 × Int32)) : Option (List (Int32 × Int32)) := if E = n then some P else if ps_sg f n E = nI 44 then (ps_rdF f n (6 - P.length) (E + 1)).map (fun L => P ++ L) else none
theorem pm_ct_0 {f : Nat → Int32} {n E : Nat} {lo hi : Int32} (h : pm_rp f n 6 = some (E, lo, hi)) : ps_rdF f n 6 6 = pm_ct f n E [(lo, hi)] := by
  rw [pm_rdF f n 5 6, h]; rfl
theorem pm_ct_n {f : Nat → Int32} {n : Nat} (h : pm_rp f n 6 = none) : ps_rdF f n 6 6 = none := by rw [pm_rdF f n 5 6, h]
theorem pm_ct_full {f : Nat → Int32} {n E : Nat} {P : List (Int32 × Int32)} (hs : ps_sg f n E = nI 44) (hP : P.length = 6) : pm_ct f n E P = none := by
  have := ps_sg_lt hs (ps_nI_m1 (by decide))
  unfold pm_ct
  rw [if_neg (by omega), if_pos hs, hP]; rfl
theorem pm_ct_none {f : Nat → Int32} {n E : Nat} {P : List (Int32 × Int32)} (hs : ps_sg f n E = nI 44) (hP : P.length < 6) (h : pm_rp f n (E + 1) = none) : pm_ct f n E P = none := by
  have := ps_sg_lt hs (ps_nI_m1 (by decide))
  unfold pm_ct
  rw [if_neg (by omega), if_pos hs, show 6 - P.length = (5 - P.length) + 1 by omega, pm_rdF, h]; rfl
theorem pm_ct_go {f : Nat → Int32} {n E E2 : Nat} {lo hi : Int32} {P : List (Int32 × Int32)} (hs : ps_sg f n E = nI 44) (hP : P.length < 6) (h : pm_rp f n (E + 1) = some (E2, lo, hi)) : pm_ct f n E P = pm_ct f n E2 (P ++ [(lo, hi)]) := by
  have := ps_sg_lt hs (ps_nI_m1 (by decide))
  unfold pm_ct
  rw [if_neg (by omega), if_pos hs, show 6 - P.length = (5 - P.length) + 1 by omega, pm_rdF, h]
  show Option.map _ (if E2 = n then _ else _) = _
  by_cases e : E2 = n
  · rw [if_pos e, if_pos e]; rfl
  · rw [if_neg e, if_neg e]
    by_cases e2 : ps_sg f n E2 = nI 44
    · rw [if_pos e2, if_pos e2, Option.map_map, List.length_append, List.length_singleton, show 5 - P.length = 6 - (P.length + 1) by omega]
      congr 1
      funext L
      simp
    · rw [if_neg e2, if_neg e2]; rfl
theorem pm_rp_le {f : Nat → Int32} {n a E : Nat} {lo hi : Int32} (h : pm_rp f n a = some (E, lo, hi)) : a < E ∧ E ≤ n := by
  have h0 := (pm_rp_some h).1
  unfold ps_rp at h0
  split at h0
  · rename_i hs
    split at h0
    · cases h0
    · have e1 : ps_edF f n 5 (ps_edF f n 5 a + 1) = E := congrArg (fun z => z.1) (Option.some.inj h0)
      have l1 := ps_edF_ge f n 5 a
      have l2 := ps_sg_lt hs (ps_nI_m1 (by decide))
      have l3 := pm_ed_min f n 5 (ps_edF f n 5 a + 1)
      have l4 := (pm_end_ge f n (ps_edF f n 5 a + 1)).1
      have l5 := (pm_end_ge f n (ps_edF f n 5 a + 1)).2 (by omega)
      omega
  · cases h0
/-! small words of the reference -/
abbrev pm_SS (h : Nat → Bool) : Nat → Nat → Bool := fun t q => h (4096 * t + q)
def pm_em (h : Nat → Bool) (t i q : Nat) : Bool := if 4096 * t ≤ q ∧ q < 4096 * t + i then false else h q
theorem pm_em_0 (h : Nat → Bool) (t q : Nat) : h q = pm_em h t 0 q := by unfold pm_em; rw [if_neg (by omega)]
theorem pm_em_s {f h : Nat → Bool} {t i : Nat} (hf : ∀ q, f q = pm_em h t i q) : ∀ q, va_up f (4096 * t + i) false q = pm_em h t (i + 1) q := by
  intro q
  by_cases e : q = 4096 * t + i
  · subst e; rw [va_up_self]; unfold pm_em; rw [if_pos (by omega)]
  · rw [va_up_ne _ _ e, hf q]
    unfold pm_em
    by_cases z : 4096 * t ≤ q ∧ q < 4096 * t + i
    · rw [if_pos z, if_pos (by omega)]
    · rw [if_neg z, if_neg (by omega)]
theorem pm_em_at {h : Nat → Bool} {t j q : Nat} (hq : q < 4096) : pm_em h t 4096 (4096 * j + q) = (!decide (j = t) && h (4096 * j + q)) := by
  unfold pm_em
  by_cases e : j = t
  · subst e; rw [if_pos (by omega)]; simp
  · rw [if_neg (by omega), decide_eq_false e]; simp
def pm_ad (h : Nat → Bool) (j a i y : Nat) : Bool := h y || (decide (4096 * j + a ≤ y) && decide (y < 4096 * j + i))
theorem pm_ad_0 (h : Nat → Bool) (j a y : Nat) : h y = pm_ad h j a a y := by
  unfold pm_ad
  by_cases z : 4096 * j + a ≤ y
  · rw [decide_eq_false (show ¬ y < 4096 * j + a by omega)]; simp
  · rw [decide_eq_false z]; simp
theorem pm_ad_now {h : Nat → Bool} {j a i : Nat} : pm_ad h j a i (4096 * j + i) = h (4096 * j + i) := by
  unfold pm_ad
  rw [decide_eq_false (show ¬ 4096 * j + i < 4096 * j + i by omega)]; simp
theorem pm_ad_s {f h : Nat → Bool} {j a i : Nat} (hai : a ≤ i) (hf : ∀ y, f y = pm_ad h j a i y) : ∀ y, va_up f (4096 * j + i) true y = pm_ad h j a (i + 1) y := by
  intro y
  by_cases e : y = 4096 * j + i
  · subst e; rw [va_up_self]; unfold pm_ad; rw [decide_eq_true (by omega), decide_eq_true (by omega)]; simp
  · rw [va_up_ne _ _ e, hf y]
    unfold pm_ad
    have : decide (y < 4096 * j + i) = decide (y < 4096 * j + (i + 1)) := decide_eq_decide.mpr (by omega)
    rw [this]
theorem pm_ad_at {h : Nat → Bool} {j a b t q : Nat} (hb : b < 4096) (hq : q < 4096) : pm_ad h j a (b + 1) (4096 * t + q) = (h (4096 * t + q) || (decide (t = j) && (decide (a ≤ q) && decide (q ≤ b)))) := by
  unfold pm_ad
  congr 1
  by_cases e : t = j
  · subst e
    rw [decide_eq_true (rfl : t = t), Bool.true_and, show decide (4096 * t + a ≤ 4096 * t + q) = decide (a ≤ q) from decide_eq_decide.mpr (by omega), show decide (4096 * t + q < 4096 * t + (b + 1)) = decide (q ≤ b) from decide_eq_decide.mpr (by omega)]
  · rw [decide_eq_false e, Bool.false_and]
    by_cases z : 4096 * j + a ≤ 4096 * t + q
    · rw [decide_eq_false (show ¬ 4096 * t + q < 4096 * j + (b + 1) by omega)]; simp
    · rw [decide_eq_false z]; simp
theorem pm_adc0 {S : Nat → Bool} {a b : Nat} : 0 = ps_cn (ps_ad S a b) a := by
  rw [ps_cn_none]
  intro j hj
  unfold ps_ad
  rw [decide_eq_false (by omega)]; simp
theorem pm_adcS {S : Nat → Bool} {a b i : Nat} (h1 : a ≤ i) (h2 : i ≤ b) : ps_cn (ps_ad S a b) (i + 1) = ps_cn (ps_ad S a b) i + (if S i = true then 0 else 1) := by
  rw [ps_cn_succ]
  congr 1
  unfold ps_ad
  rw [decide_eq_true h1, decide_eq_true h2]
  cases S i <;> rfl
theorem pm_adcE {S : Nat → Bool} {a b : Nat} (hb : b < 4096) : ps_cn (ps_ad S a b) (b + 1) = ps_cn (ps_ad S a b) 4096 := by
  refine (ps_cn_flat (by omega) (fun q h1 h2 => ?_)).symm
  unfold ps_ad
  rw [decide_eq_false (show ¬ q ≤ b by omega)]; simp
theorem pm_any_0 (q : Nat) : ps_any [] q = false := rfl
theorem pm_any_t {R : List (Nat × Nat)} {i q : Nat} (hi : i < R.length) : ps_any (R.take (i + 1)) q = (ps_any (R.take i) q || (decide (R[i].1 ≤ q) && decide (q ≤ R[i].2))) := by
  rw [List.take_succ_eq_append_getElem hi]
  exact ps_any_app
/-- rows apart -/
def pm_ap (R : List (Nat × Nat)) (i j : Nat) : Prop := (R.getD j (0, 0)).2 < (R.getD i (0, 0)).1 ∨ (R.getD i (0, 0)).2 < (R.getD j (0, 0)).1
theorem pm_apt {R : List (Nat × Nat)} : ps_apt R ↔ ∀ i, i < R.length → ∀ j, j < i → pm_ap R i j := by
  unfold ps_apt pm_ap
  rw [List.pairwise_iff_getElem]
  constructor
  · intro h i hi j hj
    have := h j i (by omega) hi hj
    rw [List.getD_eq_getElem?_getD, List.getD_eq_getElem?_getD, List.getElem?_eq_getElem hi, List.getElem?_eq_getElem (show j < R.length by omega)]
    exact this
  · intro h i j hi hj hij
    have := h j hj i hij
    rw [List.getD_eq_getElem?_getD, List.getD_eq_getElem?_getD, List.getElem?_eq_getElem hi, List.getElem?_eq_getElem hj] at this
    exact this
theorem pm_getD {R : List (Nat × Nat)} {i : Nat} (hi : i < R.length) : R.getD i (0, 0) = R[i] := by
  rw [List.getD_eq_getElem?_getD, List.getElem?_eq_getElem hi]; rfl
/-- one row's end moves -/
theorem pm_ptM {P : List (Nat × Nat)} {fb fh : Nat → Int32} {a z k : Nat} (h : ∀ i, (hi : i < (P ++ [(a, z)]).length) → fb i = nI (P ++ [(a, z)])[i].1 ∧ fh i = nI (P ++ [(a, z)])[i].2) : ∀ i, (hi : i < (P ++ [(a, k)]).length) → fb i = nI (P ++ [(a, k)])[i].1 ∧ va_up fh P.length (nI k) i = nI (P ++ [(a, k)])[i].2 := by
  intro i hi
  have hi2 : i < (P ++ [(a, z)]).length := by simpa using hi
  have h1 := h i hi2
  rcases Nat.lt_or_ge i P.length with y | y
  · rw [va_up_ne _ _ (by omega), List.getElem_append_left y]
    rw [List.getElem_append_left y] at h1
    exact h1
  · have e : i = P.length := by simp at hi; omega
    subst e
    rw [va_up_self]
    refine ⟨?_, by simp⟩
    have := h1.1
    simp at this ⊢
    exact this
theorem pm_fpa {L z : Nat} (hL : L ≤ 4095) (hz : z < 100000) (h : ¬ nI L ≤ nI z) : nI L - nI z = ps_fp (nI L) (-1, nI z) := by
  rw [nI_leI (by omega) (by omega)] at h
  unfold ps_fp
  rw [if_pos rfl, ps_max0 (by omega) (by omega), pk_sub (by omega)]
theorem pm_fpb {L z : Nat} (hL : L ≤ 4095) (hz : z < 100000) (h : nI L ≤ nI z) : nI 0 = ps_fp (nI L) (-1, nI z) := by
  rw [nI_leI (by omega) (by omega)] at h
  unfold ps_fp
  rw [if_pos rfl, ps_max0 (by omega) (by omega), show L - z = 0 by omega]
theorem pm_lpa {n lo hi : Int32} (h : lo = -1 ∨ hi = -1) : n - nI 1 = ps_lp n (lo, hi) := by unfold ps_lp; rw [if_pos h]
theorem pm_lpb {n lo hi : Int32} (h1 : ¬ lo = -1) (h2 : ¬ hi = -1) (h : n - nI 1 ≤ hi) : n - nI 1 = ps_lp n (lo, hi) := by
  unfold ps_lp
  rw [if_neg (fun q => q.elim h1 h2)]
  show _ = if n - nI 1 < hi then n - nI 1 else hi
  split
  · rfl
  · rename_i q
    rw [Int32.le_iff_toInt_le] at h
    rw [Int32.lt_iff_toInt_lt] at q
    exact Int32.toInt_inj.mp (by omega)
theorem pm_lpc {n lo hi : Int32} (h1 : ¬ lo = -1) (h2 : ¬ hi = -1) (h : ¬ n - nI 1 ≤ hi) : hi = ps_lp n (lo, hi) := by
  unfold ps_lp
  rw [if_neg (fun q => q.elim h1 h2)]
  show _ = if n - nI 1 < hi then n - nI 1 else hi
  rw [if_neg (fun q => h (by rw [Int32.le_iff_toInt_le]; rw [Int32.lt_iff_toInt_lt] at q; omega))]
theorem pm_fpl {n lo hi : Int32} (h1 : ¬ lo = -1) : lo = ps_fp n (lo, hi) := by unfold ps_fp; rw [if_neg h1]
theorem pm_th0 {x r : Int32} (h : x < 0 ∨ nI 6 ≤ x) (hp : (∃ j : Nat, j < 6 ∧ x = nI j ∧ r = nI 1) ∨ ((x < 0 ∨ nI 6 ≤ x) ∧ r = nI 0)) : r = nI 0 := by
  rcases hp with ⟨j, h1, h2, -⟩ | ⟨-, h3⟩
  · rw [h2] at h; exact absurd h (ps_not_out h1 (by decide))
  · exact h3
theorem pm_th1 {j : Nat} {r : Int32} (hj : j < 6) (hp : (∃ j1 : Nat, j1 < 6 ∧ nI j = nI j1 ∧ r = nI 1) ∨ ((nI j < 0 ∨ nI 6 ≤ nI j) ∧ r = nI 0)) : r = nI 1 := by
  rcases hp with ⟨j1, -, -, h3⟩ | ⟨h, -⟩
  · exact h3
  · exact absurd h (ps_not_out hj (by decide))
def pm_oi : Option Nat → Int32
  | none => -1
  | some o => nI o
theorem pm_sshr (n : Nat) (hn : n < 64) (x : Int64) {i : Nat} (hi : n + i < 64) : ps_bt (x >>> ((nI n).toInt64 &&& 63)) i = ps_bt x (n + i) := by
  unfold ps_bt
  rw [Int64.toBitVec_shiftRight, BitVec.sshiftRight_eq', BitVec.getLsbD_sshiftRight, ps_sl n hn]
  simp [show i < 64 by omega, hi]
theorem pm_b255 : ∀ j, j < 64 → 8 ≤ j → ps_bt 255 j = false := by decide +kernel
theorem pm_ashr (x : Int64) {k : Nat} (hk : k < 8) : ((x >>> ((nI (8 * k)).toInt64 &&& 63)) &&& (255 : Int64)).toInt32 = nI (ps_by x k) := by
  have e : (x >>> ((nI (8 * k)).toInt64 &&& 63)) &&& (255 : Int64) = ((x.toUInt64 >>> ((nI (8 * k)).toInt64.toUInt64 &&& Int64.toUInt64 63)).toInt64) &&& 255 := ps_bt_ext (fun j hj => by
    rw [ps_bt_and, ps_bt_and]
    rcases Nat.lt_or_ge j 8 with z | z
    · rw [pm_sshr _ (by omega) _ (by omega), ps_ushr _ (by omega)]
    · rw [pm_b255 j hj z]; simp)
  rw [e]
  obtain ⟨n, hn, rfl⟩ := wb_of x
  rw [wb_shr hn (by omega), ps_k255 (Nat.lt_of_le_of_lt (Nat.div_le_self _ _) hn), lN_i]
  unfold ps_by
  rw [wb_tn hn]
theorem pm_cnT {S : Nat → Bool} {i : Nat} (h : S i = true) : ps_cn S i + 1 = ps_cn S (i + 1) := by rw [ps_cn_succ, if_pos h]
theorem pm_cnF {S : Nat → Bool} {i : Nat} (h : S i = false) : ps_cn S i + 0 = ps_cn S (i + 1) := by rw [ps_cn_succ, if_neg (by rw [h]; decide)]
theorem pm_n0 {i : Nat} (h : ¬ nI i = 0) : 0 < i := by
  rcases Nat.eq_zero_or_pos i with z | z
  · subst z; exact absurd (by decide) h
  · exact z
theorem pm_out0 (x : Int32) : x < 0 ∨ nI 0 ≤ x := by
  rw [Int32.lt_iff_toInt_lt, Int32.le_iff_toInt_le, nI_toInt (by decide)]
  show x.toInt < 0 ∨ (0 : Int) ≤ x.toInt
  omega
theorem pm_fgl {L : Int32} {i : Nat} (hln : L = -1 ∨ ∃ z : Nat, z ≤ 4095 ∧ L = nI z) (hi : i ≤ 4096) (h : ¬ L ≤ nI i) : i < 4096 := by
  rcases hln with q | ⟨z, z1, q⟩
  · exact absurd (by rw [q, Int32.le_iff_toInt_le, nI_toInt (by omega), ps_m1i]; omega) h
  · rw [q, nI_leI (by omega) (by omega)] at h; omega
theorem pm_fg1 {S : Nat → Bool} {i : Nat} {L : Int32} (hi : i < 4096) (h : ∀ q, q < i → S q = true) (hs : S i = false) (hL : ¬ L ≤ nI i) : nI i = if nI (ps_nx S false 0) < L then nI (ps_nx S false 0) else -1 := by
  have e : ps_nx S false 0 = i := ps_nx_uniq (by omega) (by omega) (fun q _ h2 h3 => by rw [h q h2] at h3; cases h3) (fun _ => hs)
  rw [e, if_pos (Int32.not_le.mp hL)]
theorem pm_fg0 {S : Nat → Bool} {i : Nat} {L : Int32} (hi : i ≤ 4096) (h : ∀ q, q < i → S q = true) (hL : L ≤ nI i) : -1 = if nI (ps_nx S false 0) < L then nI (ps_nx S false 0) else -1 := by
  have s := ps_nx_spec S false (p := 0) (by omega)
  have hn : i ≤ ps_nx S false 0 := by
    rcases Nat.lt_or_ge (ps_nx S false 0) i with z | z
    · have := s.2.2.2 (by omega)
      rw [h _ z] at this; cases this
    · exact z
  rw [if_neg]
  have h2 : nI i ≤ nI (ps_nx S false 0) := nI_le hn (by omega)
  rw [Int32.le_iff_toInt_le] at hL h2
  rw [Int32.lt_iff_toInt_lt]
  omega
def pm_abt (σ : pm_τ) (t : Nat) (y : Int32) : Int32 := if y = nI 0 then σ.2.1 2 t else if y = nI 1 then nI (ps_cn (pm_SS (σ.2.2 4) t) 4096) else if y = nI 2 then nI (ps_sp (pm_SS (σ.2.2 4) t)) else if y = nI 3 then (if nI (ps_nx (pm_SS (σ.2.2 4) t) false 0) < σ.2.1 2 t then nI (ps_nx (pm_SS (σ.2.2 4) t) false 0) else -1) else -1
theorem pm_abt_0 {σ : pm_τ} {t : Nat} : pm_abt σ t (nI 0) = σ.2.1 2 t := by unfold pm_abt; rw [if_pos rfl]
theorem pm_abt_1 {σ : pm_τ} {t : Nat} : pm_abt σ t (nI 1) = nI (ps_cn (pm_SS (σ.2.2 4) t) 4096) := by unfold pm_abt; rw [if_neg (by decide), if_pos rfl]
theorem pm_abt_2 {σ : pm_τ} {t : Nat} : pm_abt σ t (nI 2) = nI (ps_sp (pm_SS (σ.2.2 4) t)) := by unfold pm_abt; rw [if_neg (by decide), if_neg (by decide), if_pos rfl]
theorem pm_abt_3 {σ : pm_τ} {t : Nat} : pm_abt σ t (nI 3) = (if nI (ps_nx (pm_SS (σ.2.2 4) t) false 0) < σ.2.1 2 t then nI (ps_nx (pm_SS (σ.2.2 4) t) false 0) else -1) := by unfold pm_abt; rw [if_neg (by decide), if_neg (by decide), if_neg (by decide), if_pos rfl]
theorem pm_abt_out {σ : pm_τ} {t : Nat} {y : Int32} (h : y.toInt < 0 ∨ 3 < y.toInt) : pm_abt σ t y = -1 := by
  have ne : ∀ j : Nat, j < 4 → ¬ y = nI j := fun j hj e => by
    rw [e, nI_toInt (by omega)] at h
    omega
  unfold pm_abt
  rw [if_neg (ne 0 (by omega)), if_neg (ne 1 (by omega)), if_neg (ne 2 (by omega)), if_neg (ne 3 (by omega))]
def pm_num (σ : pm_τ) (y : Int32) : Int32 := if σ.1 14 = -1 then -1 else if y = nI 0 then σ.1 16 else if y = nI 1 then σ.1 19 else if y = nI 2 then σ.1 20 else if y = nI 3 then σ.1 21 else if y = nI 4 then σ.1 24 else if y = nI 5 then σ.1 15 else -1
theorem pm_num_n {σ : pm_τ} {y : Int32} (h : σ.1 14 = -1) : pm_num σ y = -1 := by unfold pm_num; rw [if_pos h]
theorem pm_num_i {σ : pm_τ} (h : ¬ σ.1 14 = -1) (k : Nat) (hk : k < 6) : pm_num σ (nI k) = [σ.1 16, σ.1 19, σ.1 20, σ.1 21, σ.1 24, σ.1 15].getD k 0 := by
  unfold pm_num
  rw [if_neg h]
  rcases (show k = 0 ∨ k = 1 ∨ k = 2 ∨ k = 3 ∨ k = 4 ∨ k = 5 by omega) with rfl | rfl | rfl | rfl | rfl | rfl
  · rw [if_pos rfl]; rfl
  · rw [if_neg (by decide), if_pos rfl]; rfl
  · rw [if_neg (by decide), if_neg (by decide), if_pos rfl]; rfl
  · rw [if_neg (by decide), if_neg (by decide), if_neg (by decide), if_pos rfl]; rfl
  · rw [if_neg (by decide), if_neg (by decide), if_neg (by decide), if_neg (by decide), if_pos rfl]; rfl
  · rw [if_neg (by decide), if_neg (by decide), if_neg (by decide), if_neg (by decide), if_neg (by decide), if_pos rfl]; rfl
theorem pm_num_out {σ : pm_τ} {y : Int32} (h : y.toInt < 0 ∨ 5 < y.toInt) : pm_num σ y = -1 := by
  have ne : ∀ j : Nat, j < 6 → ¬ y = nI j := fun j hj e => by
    rw [e, nI_toInt (by omega)] at h
    omega
  unfold pm_num
  rw [if_neg (ne 0 (by omega)), if_neg (ne 1 (by omega)), if_neg (ne 2 (by omega)), if_neg (ne 3 (by omega)), if_neg (ne 4 (by omega)), if_neg (ne 5 (by omega))]
  split <;> rfl
/-! one more place of the plan -/
/-- the rows so far: A, and o that may still grow -/
def pm_lo (k : Nat) (A : List (Nat × Nat)) : Option (Nat × Nat) → Prop
  | none => A = []
  | some r => 2 * A.length ≤ r.1 ∧ r.1 ≤ r.2 ∧ r.2 < k
theorem pm_lo.up {k : Nat} {A : List (Nat × Nat)} {o : Option (Nat × Nat)} (h : pm_lo k A o) : pm_lo (k + 1) A o := by
  cases o with
  | none => exact h
  | some r => exact ⟨h.1, h.2.1, by have := h.2.2; omega⟩
/-- the arrays hold these rows -/
def pm_rw (fb fh : Nat → Int32) (P : List (Nat × Nat)) : Prop := ∀ i, (hi : i < P.length) → fb i = nI P[i].1 ∧ fh i = nI P[i].2
theorem pm_rw_0 (fb fh : Nat → Int32) : pm_rw fb fh [] := fun i hi => absurd hi (Nat.not_lt_zero i)
theorem pm_rw_add {fb fh : Nat → Int32} {P : List (Nat × Nat)} {a b : Nat} (h : pm_rw fb fh P) : pm_rw (va_up fb P.length (nI a)) (va_up fh P.length (nI b)) (P ++ [(a, b)]) := ps_ptN rfl h
theorem pm_rw_mv {fb fh : Nat → Int32} {A : List (Nat × Nat)} {r : Nat × Nat} {k : Nat} (h : pm_rw fb fh (A ++ [r])) : pm_rw fb (va_up fh A.length (nI k)) (A ++ [(r.1, k)]) := pm_ptM (a := r.1) (z := r.2) h
theorem pm_pr_new {c k : Nat} {P : List (Nat × Nat)} : ps_pr1 c P + (c + 1) = ps_pr1 c (P ++ [(k, k)]) := by rw [ps_pr1_add]; omega
theorem pm_pr_mv {c k : Nat} {A : List (Nat × Nat)} {r : Nat × Nat} (h1 : r.1 ≤ r.2) (h2 : r.2 ≤ k) : ps_pr1 c (A ++ [r]) + (k - r.2) = ps_pr1 c (A ++ [(r.1, k)]) := by
  rw [show r = (r.1, r.2) from rfl, ps_pr1_add, ps_pr1_add]
  show ps_pr1 c A + (c + r.2 - r.1 + 1) + (k - r.2) = ps_pr1 c A + (c + k - r.1 + 1)
  omega
theorem pm_last {fb fh : Nat → Int32} {A : List (Nat × Nat)} {r : Nat × Nat} (h : pm_rw fb fh (A ++ [r])) : fh A.length = nI r.2 := by
  have := (h A.length (by simp)).2
  simpa using this
def pm_acc (σ : pm_τ) (t : Nat) (a b tg : Int32) : Prop := tg = σ.2.1 3 t ∧ ¬ a < 0 ∧ ¬ b < a ∧ ¬ σ.2.1 2 t ≤ b
theorem pm_kn0 {σ : pm_τ} {x r : Int32} (h : x < 0 ∨ nI 6 ≤ x) (hp : (∃ j : Nat, j < 6 ∧ x = nI j ∧ ¬ σ.2.1 2 j = -1 ∧ r = nI 1) ∨ (((x < 0 ∨ nI 6 ≤ x) ∨ ∃ j : Nat, j < 6 ∧ x = nI j ∧ σ.2.1 2 j = -1) ∧ r = nI 0)) : r = nI 0 := by
  rcases hp with ⟨j, h1, h2, -⟩ | ⟨-, h3⟩
  · rw [h2] at h; exact absurd h (ps_not_out h1 (by decide))
  · exact h3
theorem pm_kn1 {σ : pm_τ} {j : Nat} {r : Int32} (hj : j < 6) (hp : (∃ j1 : Nat, j1 < 6 ∧ nI j = nI j1 ∧ ¬ σ.2.1 2 j1 = -1 ∧ r = nI 1) ∨ (((nI j < 0 ∨ nI 6 ≤ nI j) ∨ ∃ j1 : Nat, j1 < 6 ∧ nI j = nI j1 ∧ σ.2.1 2 j1 = -1) ∧ r = nI 0)) : (¬ σ.2.1 2 j = -1 ∧ r = nI 1) ∨ (σ.2.1 2 j = -1 ∧ r = nI 0) := by
  rcases hp with ⟨j1, h1, h2, h3, h4⟩ | ⟨h | ⟨j1, h1, h2, h3⟩, h4⟩
  · have e : j = j1 := (nI_eq (by omega) (by omega)).mp h2
    rw [e]; exact Or.inl ⟨h3, h4⟩
  · exact absurd h (ps_not_out hj (by decide))
  · have e : j = j1 := (nI_eq (by omega) (by omega)).mp h2
    rw [e]; exact Or.inr ⟨h3, h4⟩
theorem pm_acc_nat {σ : pm_τ} {t : Nat} {a b tg : Int32} (hln : σ.2.1 2 t = -1 ∨ ∃ z : Nat, z ≤ 4095 ∧ σ.2.1 2 t = nI z) (h : pm_acc σ t a b tg) : ∃ a1 b1 : Nat, a = nI a1 ∧ b = nI b1 ∧ a1 ≤ b1 ∧ b1 < 4095 := by
  obtain ⟨-, h1, h2, h3⟩ := h
  obtain ⟨a1, ha1, rfl⟩ := nI_of h1
  have hb0 : ¬ b < 0 := fun q => h2 (by
    rw [Int32.lt_iff_toInt_lt, Int32.toInt_zero] at q
    rw [Int32.lt_iff_toInt_lt, nI_toInt ha1]
    omega)
  obtain ⟨b1, hb1, rfl⟩ := nI_of hb0
  rw [nI_ltI hb1 ha1] at h2
  refine ⟨a1, b1, rfl, rfl, by omega, ?_⟩
  rcases hln with e | ⟨z, hz, e⟩
  · exfalso
    rw [e] at h3
    exact h3 (by rw [Int32.le_iff_toInt_le, nI_toInt hb1, ps_m1i]; omega)
  · rw [e, nI_leI (by omega) hb1] at h3
    omega
theorem pm_acc_kn {σ : pm_τ} {t : Nat} {a b tg : Int32} (h : pm_acc σ t a b tg) (hk : σ.2.1 2 t = -1) : False := by
  obtain ⟨a1, b1, -, rfl, -, hb⟩ := pm_acc_nat (Or.inl hk) h
  exact h.2.2.2 (by rw [hk, Int32.le_iff_toInt_le, nI_toInt (by omega), ps_m1i]; omega)
theorem pm_adT {S : Nat → Bool} {a b i cnt : Nat} (h1 : a ≤ i) (h2 : i ≤ b) (h : S i = true) (hc : cnt = ps_cn (ps_ad S a b) i) : cnt + 0 = ps_cn (ps_ad S a b) (i + 1) := by rw [pm_adcS h1 h2, if_pos h, hc]
theorem pm_adF {S : Nat → Bool} {a b i cnt : Nat} (h1 : a ≤ i) (h2 : i ≤ b) (h : S i = false) (hc : cnt = ps_cn (ps_ad S a b) i) : cnt + 1 = ps_cn (ps_ad S a b) (i + 1) := by rw [pm_adcS h1 h2, if_neg (by rw [h]; decide), hc]
/-- the reading of a number, digit by digit -/
theorem pm_nb_stop {f : Nat → Int32} {n a j : Nat} {v : Int32} (he : pm_end f n a = pm_end f n (a + j)) (hd : ps_isd (ps_sg f n (a + j)) = false) (hv : j ≤ 5 → v = ps_nmF f n j a (nI 0)) : pm_end f n a = a + j ∧ pm_nb f n a = if j = 0 then -1 else if j ≤ 5 then v else -1 := by
  have e : pm_end f n a = a + j := by rw [he, pm_end_no hd]
  refine ⟨e, ?_⟩
  unfold pm_nb
  rw [e, Nat.add_sub_cancel_left]
  by_cases h0 : j = 0
  · subst h0; rw [if_neg (by omega), if_pos rfl]; unfold ps_nm; rw [if_pos (by omega)]
  · rw [if_neg h0]
    by_cases h5 : j ≤ 5
    · rw [if_neg (by omega), if_pos h5]; unfold ps_nm; rw [if_neg (by omega), Nat.add_sub_cancel_left, hv h5]
    · rw [if_pos (by omega), if_neg h5]
theorem pm_nb_v {f : Nat → Int32} {n a j : Nat} {v : Int32} (hj : j < 5) (hd : ps_isd (ps_sg f n (a + j)) = true) (hv : j ≤ 5 → v = ps_nmF f n j a (nI 0)) : j + 1 ≤ 5 → nI 10 * v + ps_sz f n (a + j) - nI 48 = ps_nmF f n (j + 1) a (nI 0) := fun _ => by
  have hlt := pm_isd_lt hd
  have e : ps_sz f n (a + j) = ps_sg f n (a + j) := by unfold ps_sz ps_sg; rw [if_pos hlt, if_pos hlt]
  rw [pm_nmF_s, e, hv (by omega), Int32.mul_comm]
/-- a part that begins with its dash -/
theorem pm_pa0 {f : Nat → Int32} {n a : Nat} (hs : ps_sg f n a = nI 45) (h : pm_nb f n (a + 1) = -1) : pm_rp f n a = none := by
  have e0 : pm_end f n a = a := pm_end_no (by rw [hs]; decide)
  rcases pm_nb_none h with e | e
  · rw [pm_rp_C (lo := -1) (hi := -1) (by omega) (by rw [e0]; exact hs) (by rw [e0, e]; omega) (by rw [e0]; unfold ps_nm; rw [if_pos rfl]) (by rw [e0, e]; unfold ps_nm; rw [if_pos rfl]), if_pos (Or.inl ⟨rfl, rfl⟩)]
  · exact pm_rp_B (by omega) (by rw [e0]; exact e)
theorem pm_pa1 {f : Nat → Int32} {n a : Nat} (hs : ps_sg f n a = nI 45) (h : ¬ pm_nb f n (a + 1) = -1) : pm_rp f n a = some (pm_end f n (a + 1), -1, pm_nb f n (a + 1)) := by
  have e0 : pm_end f n a = a := pm_end_no (by rw [hs]; decide)
  obtain ⟨h1, h2, h3, h4⟩ := pm_nb_some h
  rw [pm_rp_C (lo := -1) (hi := pm_nb f n (a + 1)) (by omega) (by rw [e0]; exact hs) (by rw [e0]; exact h2) (by rw [e0]; unfold ps_nm; rw [if_pos rfl]) (by rw [e0]; exact h3.symm), if_neg, e0]
  rintro (⟨-, q⟩ | ⟨q, q2⟩)
  · exact h q
  · rcases pm_nb_nat f n (a + 1) with z | ⟨z, hz, z2⟩
    · exact h z
    · exact q2 (by rw [z2, Int32.le_iff_toInt_le, nI_toInt (by omega), ps_m1i]; omega)
/-- one that begins with a number -/
theorem pm_pb0 {f : Nat → Int32} {n a : Nat} (hs : ¬ ps_sg f n a = nI 45) (h : pm_nb f n a = -1) : pm_rp f n a = none := by
  rcases pm_nb_none h with e | e
  · exact pm_rp_A (Or.inl (by rw [e]; exact hs))
  · exact pm_rp_A (Or.inr e)
theorem pm_pb1 {f : Nat → Int32} {n a : Nat} (h : ¬ ps_sg f n (pm_end f n a) = nI 45) : pm_rp f n a = none := pm_rp_A (Or.inl h)
theorem pm_pb2 {f : Nat → Int32} {n a : Nat} (h : ¬ pm_nb f n a = -1) (hs : ps_sg f n (pm_end f n a) = nI 45) (hd : ps_isd (ps_sg f n (pm_end f n a + 1)) = false) : pm_rp f n a = some (pm_end f n a + 1, pm_nb f n a, -1) := by
  obtain ⟨h1, h2, h3, h4⟩ := pm_nb_some h
  have e := pm_end_no hd
  rw [pm_rp_C (lo := pm_nb f n a) (hi := -1) h2 hs (by rw [e]; omega) h3.symm (by rw [e]; unfold ps_nm; rw [if_pos rfl]), if_neg, e]
  rintro (⟨q, -⟩ | ⟨q, -⟩)
  · exact h q
  · exact q rfl
theorem pm_pb3 {f : Nat → Int32} {n a : Nat} (h : ¬ pm_nb f n a = -1) (hd : ps_isd (ps_sg f n (pm_end f n a + 1)) = true) (h2 : pm_nb f n (pm_end f n a + 1) = -1) : pm_rp f n a = none := by
  obtain ⟨g1, g2, g3, g4⟩ := pm_nb_some h
  rcases pm_nb_none h2 with e | e
  · exfalso
    have h5 := pm_end_yes hd
    have h6 := (pm_end_ge f n (pm_end f n a + 1 + 1)).1
    omega
  · exact pm_rp_B g2 e
theorem pm_pb4 {f : Nat → Int32} {n a : Nat} (h : ¬ pm_nb f n a = -1) (hs : ps_sg f n (pm_end f n a) = nI 45) (h2 : ¬ pm_nb f n (pm_end f n a + 1) = -1) : pm_rp f n a = if ¬ pm_nb f n a ≤ pm_nb f n (pm_end f n a + 1) then none else some (pm_end f n (pm_end f n a + 1), pm_nb f n a, pm_nb f n (pm_end f n a + 1)) := by
  obtain ⟨g1, g2, g3, g4⟩ := pm_nb_some h
  obtain ⟨k1, k2, k3, k4⟩ := pm_nb_some h2
  rw [pm_rp_C (lo := pm_nb f n a) (hi := pm_nb f n (pm_end f n a + 1)) g2 hs k2 g3.symm k3.symm]
  by_cases q : pm_nb f n a ≤ pm_nb f n (pm_end f n a + 1)
  · rw [if_neg (show ¬ ¬ pm_nb f n a ≤ pm_nb f n (pm_end f n a + 1) from fun z => z q), if_neg]
    rintro (⟨z, -⟩ | ⟨-, z⟩)
    · exact h z
    · exact z q
  · rw [if_pos (Or.inr ⟨h2, q⟩), if_pos q]
theorem pm_end_le {f : Nat → Int32} {n a : Nat} (hn : n ≤ 60) (ha : a ≤ 61) : pm_end f n a ≤ 61 := by
  rcases Nat.lt_or_ge n a with z | z
  · rw [pm_end_no (by rw [pm_sg_out (by omega)]; decide)]; exact ha
  · have := (pm_end_ge f n a).2 z; omega
theorem pm_sz_hb {f : Nat → Int32} {n k : Nat} (hk : k < 6) : ps_sz f n k = ps_hb k ↔ ps_sg f n k = ps_hb k := by
  rcases (show k = 0 ∨ k = 1 ∨ k = 2 ∨ k = 3 ∨ k = 4 ∨ k = 5 by omega) with rfl | rfl | rfl | rfl | rfl | rfl
  · exact pm_sz_eq (c := 98) (by decide) (by decide)
  · exact pm_sz_eq (c := 121) (by decide) (by decide)
  · exact pm_sz_eq (c := 116) (by decide) (by decide)
  · exact pm_sz_eq (c := 101) (by decide) (by decide)
  · exact pm_sz_eq (c := 115) (by decide) (by decide)
  · exact pm_sz_eq (c := 61) (by decide) (by decide)
theorem pm_prs_n {f : Nat → Int32} {n : Nat} (h : ps_hh f n → ps_rdF f n 6 6 = none) : ps_prs f n = [] := by
  unfold ps_prs
  split
  · rename_i q; rw [h (ps_hhb_iff.mp q)]; rfl
  · rfl
theorem pm_prs_h {f : Nat → Int32} {n : Nat} (h : ¬ ps_hh f n) : ps_prs f n = [] := pm_prs_n (fun q => absurd q h)
theorem pm_prs_s {f : Nat → Int32} {n : Nat} {P : List (Int32 × Int32)} (h : ps_hh f n) (h2 : ps_rdF f n 6 6 = some P) : ps_prs f n = P := by
  unfold ps_prs
  rw [if_pos (ps_hhb_iff.mpr h), h2]; rfl
theorem pm_pv {P : List (Int32 × Int32)} {fb fh : Nat → Int32} {n lo hi : Int32} (h : ∀ i, (hi : i < P.length) → fb i = ps_fp n P[i] ∧ fh i = ps_lp n P[i]) : ∀ i, (hj : i < (P ++ [(lo, hi)]).length) → va_up fb P.length (ps_fp n (lo, hi)) i = ps_fp n (P ++ [(lo, hi)])[i] ∧ va_up fh P.length (ps_lp n (lo, hi)) i = ps_lp n (P ++ [(lo, hi)])[i] := by
  intro i hj
  rcases Nat.lt_or_ge i P.length with z | z
  · rw [va_up_ne _ _ (by omega), va_up_ne _ _ (by omega), List.getElem_append_left z]
    exact h i z
  · have e : i = P.length := by
      rw [List.length_append, List.length_singleton] at hj
      omega
    subst e
    rw [va_up_self, va_up_self]
    simp
/-! uniting rows; the rows as told -/
def pm_un (R : List (Nat × Nat)) (i a k q : Nat) : Bool := ps_any (R.take i) q || (decide (a ≤ q) && decide (q < k))
theorem pm_un_0 (R : List (Nat × Nat)) (i a q : Nat) : ps_any (R.take i) q = pm_un R i a a q := by
  unfold pm_un
  by_cases z : a ≤ q
  · rw [decide_eq_false (show ¬ q < a by omega)]; simp
  · rw [decide_eq_false z]; simp
theorem pm_un_s {R : List (Nat × Nat)} {f : Nat → Bool} {i a k : Nat} (hak : a ≤ k) (hf : ∀ q, q < 4096 → f q = pm_un R i a k q) : ∀ q, q < 4096 → va_up f k true q = pm_un R i a (k + 1) q := by
  intro q hq
  by_cases e : q = k
  · subst e; rw [va_up_self]; unfold pm_un; rw [decide_eq_true hak, decide_eq_true (Nat.lt_succ_self q)]; simp
  · rw [va_up_ne _ _ e, hf q hq]
    unfold pm_un
    rw [show decide (q < k) = decide (q < k + 1) from decide_eq_decide.mpr (by omega)]
theorem pm_un_e {R : List (Nat × Nat)} {i q : Nat} (hi : i < R.length) : pm_un R i R[i].1 (R[i].2 + 1) q = ps_any (R.take (i + 1)) q := by
  rw [pm_any_t hi]
  unfold pm_un
  rw [show decide (q < R[i].2 + 1) = decide (q ≤ R[i].2) from decide_eq_decide.mpr (by omega)]
def pm_at (R : List (Nat × Nat)) (i j : Nat) : Prop := R.length ≤ 3 ∧ (∀ y, y < i → ∀ x, x < y → pm_ap R y x) ∧ ∀ x, x < j → pm_ap R i x
theorem pm_at_0 {R : List (Nat × Nat)} : pm_at R 0 0 ↔ R.length ≤ 3 := ⟨fun h => h.1, fun h => ⟨h, fun y hy => absurd hy (Nat.not_lt_zero y), fun x hx => absurd hx (Nat.not_lt_zero x)⟩⟩
theorem pm_at_n {R : List (Nat × Nat)} {i : Nat} : pm_at R i i ↔ pm_at R (i + 1) 0 := by
  constructor
  · rintro ⟨h1, h2, h3⟩
    refine ⟨h1, fun y hy x hx => ?_, fun x hx => absurd hx (Nat.not_lt_zero x)⟩
    rcases Nat.lt_or_ge y i with z | z
    · exact h2 y z x hx
    · rw [show y = i by omega] at hx ⊢; exact h3 x hx
  · rintro ⟨h1, h2, -⟩
    exact ⟨h1, fun y hy => h2 y (by omega), fun x hx => h2 i (Nat.lt_succ_self i) x hx⟩
theorem pm_at_s {R : List (Nat × Nat)} {i j : Nat} : pm_at R i (j + 1) ↔ pm_at R i j ∧ pm_ap R i j := by
  constructor
  · rintro ⟨h1, h2, h3⟩
    exact ⟨⟨h1, h2, fun x hx => h3 x (by omega)⟩, h3 j (Nat.lt_succ_self j)⟩
  · rintro ⟨⟨h1, h2, h3⟩, h4⟩
    refine ⟨h1, h2, fun x hx => ?_⟩
    rcases Nat.lt_or_ge x j with z | z
    · exact h3 x z
    · rw [show x = j by omega]; exact h4
theorem pm_at_e {R : List (Nat × Nat)} {i : Nat} (hi : i = R.length) : pm_at R i 0 ↔ ps_apt R ∧ R.length ≤ 3 := by
  rw [pm_apt]
  constructor
  · rintro ⟨h1, h2, -⟩
    exact ⟨fun y hy x hx => h2 y (by omega) x hx, h1⟩
  · rintro ⟨h1, h2⟩
    exact ⟨h2, fun y hy x hx => h1 y (by omega) x hx, fun x hx => absurd hx (Nat.not_lt_zero x)⟩
/-! what the plan is of -/
theorem pm_mis_hold {W K : Nat → Bool} {k : Nat} (hw : W k = true) (hk : K k = true) : (fun q => W q && !K q) k = false := by show (W k && !K k) = false; rw [hw, hk]; rfl
theorem pm_mis_no {W K : Nat → Bool} {k : Nat} (hw : W k = false) : (fun q => W q && !K q) k = false := by show (W k && !K k) = false; rw [hw]; rfl
theorem pm_mis_yes {W K : Nat → Bool} {k : Nat} (hw : W k = true) (hk : K k = false) : (fun q => W q && !K q) k = true := by show (W k && !K k) = true; rw [hw, hk]; rfl
theorem pm_and_yes {W K : Nat → Bool} {k : Nat} (hw : W k = true) (hk : K k = true) : (fun q => W q && K q) k = true := by show (W k && K k) = true; rw [hw, hk]; rfl
theorem pm_and_no {W K : Nat → Bool} {k : Nat} (h : W k = false ∨ K k = false) : (fun q => W q && K q) k = false := by
  show (W k && K k) = false
  rcases h with h | h
  · rw [h]; rfl
  · rw [h]; simp
theorem pm_cn_T {S : Nat → Bool} {i c : Nat} (hc : c = ps_cn S i) (h : S i = true) : c + 1 = ps_cn S (i + 1) := by rw [hc]; exact pm_cnT h
theorem pm_cn_F {S : Nat → Bool} {i c : Nat} (hc : c = ps_cn S i) (h : S i = false) : c = ps_cn S (i + 1) := by rw [hc]; exact pm_cnF h
theorem pm_bd {R : List (Nat × Nat)} (h : ∀ r ∈ R, r.1 ≤ r.2 ∧ r.2 < 4096) : ∀ i, i < R.length → (R.getD i (0, 0)).1 < 4096 ∧ (R.getD i (0, 0)).2 < 4096 := fun i hi => by
  rw [pm_getD hi]
  have := h _ (List.getElem_mem hi)
  omega
theorem pm_rw_g {fb fh : Nat → Int32} {R : List (Nat × Nat)} (h : pm_rw fb fh R) : ∀ i, i < R.length → fb i = nI (R.getD i (0, 0)).1 ∧ fh i = nI (R.getD i (0, 0)).2 := fun i hi => by
  rw [pm_getD hi]; exact h i hi
/-- the last wanted place so far -/
def pm_lz (M : Nat → Bool) (k : Nat) : Option (Nat × Nat) → Prop
  | none => ∀ q, q < k → M q = false
  | some r => r.2 < k ∧ M r.2 = true ∧ ∀ q, r.2 < q → q < k → M q = false
theorem pm_lz_0 (M : Nat → Bool) : pm_lz M 0 none := fun q hq => absurd hq (Nat.not_lt_zero q)
theorem pm_lz.no {M : Nat → Bool} {k : Nat} {o : Option (Nat × Nat)} (h : pm_lz M k o) (hm : M k = false) : pm_lz M (k + 1) o := by
  cases o with
  | none =>
    intro q hq
    rcases Nat.lt_or_ge q k with z | z
    · exact h q z
    · rw [show q = k by omega]; exact hm
  | some r =>
    refine ⟨by have := h.1; omega, h.2.1, fun q h1 h2 => ?_⟩
    rcases Nat.lt_or_ge q k with z | z
    · exact h.2.2 q h1 z
    · rw [show q = k by omega]; exact hm
theorem pm_lz_y {M : Nat → Bool} {k a : Nat} (hm : M k = true) : pm_lz M (k + 1) (some (a, k)) := ⟨Nat.lt_succ_self k, hm, fun q h1 h2 => absurd h1 (by show ¬ k < q; omega)⟩
theorem pm_lz_on {M : Nat → Bool} {k : Nat} {o : Option (Nat × Nat)} (h : pm_lz M k o) (hk : 0 < k) (hm : M (k - 1) = true) : ∃ r : Nat × Nat, o = some r ∧ r.2 + 1 = k := by
  cases o with
  | none => rw [h (k - 1) (by omega)] at hm; cases hm
  | some r =>
    refine ⟨r, rfl, ?_⟩
    have h1 := h.1
    rcases Nat.lt_or_ge r.2 (k - 1) with z | z
    · rw [h.2.2 (k - 1) z (by omega)] at hm; cases hm
    · omega
/-- a gap behind the last one -/
def pm_gp (c k : Nat) : Option (Nat × Nat) → Prop
  | none => True
  | some r => ¬ k - r.2 - 1 ≤ c
theorem pm_lz_off {M : Nat → Bool} {k : Nat} {o : Option (Nat × Nat)} (h : pm_lz M k o) (hk : k = 0 ∨ M (k - 1) = false) : pm_gp 0 k o := by
  cases o with
  | none => exact trivial
  | some r =>
    show ¬ k - r.2 - 1 ≤ 0
    have h1 := h.1
    have : ¬ r.2 = k - 1 := fun e => by
      rcases hk with q | q
      · omega
      · rw [← e, h.2.1] at q; cases q
    omega
theorem pm_run_cutO {M : Nat → Bool} {c k : Nat} {A : List (Nat × Nat)} {o : Option (Nat × Nat)} (hk : k < 4096) (h : M k = true) (hg : pm_gp c k o) : A ++ pm_run M c (4096 - k) k o = (A ++ o.toList) ++ pm_run M c (4096 - (k + 1)) (k + 1) (some (k, k)) := by
  cases o with
  | none => rw [pm_run_new hk h]; simp
  | some r =>
    rw [show r = (r.1, r.2) from rfl, pm_run_cut hk h hg]
    simp
theorem pm_run_onO {M : Nat → Bool} {c k : Nat} {A : List (Nat × Nat)} {r : Nat × Nat} (hk : k < 4096) (h : M k = true) (hg : k - r.2 - 1 ≤ c) : A ++ pm_run M c (4096 - k) k (some r) = A ++ pm_run M c (4096 - (k + 1)) (k + 1) (some (r.1, k)) := by
  rw [show r = (r.1, r.2) from rfl, pm_run_on hk h hg]
theorem pm_run_len {M : Nat → Bool} {c : Nat} : ∀ (n k : Nat) (r : Nat × Nat), 1 ≤ (pm_run M c n k (some r)).length
  | 0, k, r => by simp [pm_run]
  | n + 1, k, r => by
    rw [pm_run]
    split
    · show 1 ≤ (if k - r.2 - 1 ≤ c then _ else _ : List (Nat × Nat)).length
      split
      · exact pm_run_len n _ _
      · simp
    · exact pm_run_len n _ _
theorem pm_lo_new {c k : Nat} {A : List (Nat × Nat)} {o : Option (Nat × Nat)} (h : pm_lo k A o) (hg : pm_gp c k o) : pm_lo (k + 1) (A ++ o.toList) (some (k, k)) := by
  cases o with
  | none =>
    have : A = [] := h
    subst this
    exact ⟨by simp, Nat.le_refl k, Nat.lt_succ_self k⟩
  | some r =>
    obtain ⟨h1, h2, h3⟩ := h
    have hg : ¬ k - r.2 - 1 ≤ c := hg
    refine ⟨?_, Nat.le_refl k, Nat.lt_succ_self k⟩
    show 2 * (A ++ [r]).length ≤ k
    simp
    omega
theorem pm_lo_on {k : Nat} {A : List (Nat × Nat)} {r : Nat × Nat} (h : pm_lo k A (some r)) : pm_lo (k + 1) A (some (r.1, k)) := ⟨h.1, by have := h.2.1; have := h.2.2; show r.1 ≤ k; omega, Nat.lt_succ_self k⟩
theorem pm_lo_bd {c k : Nat} {A : List (Nat × Nat)} {o : Option (Nat × Nat)} (h : pm_lo k A o) (hg : pm_gp c k o) (hk : k < 4096) : (A ++ o.toList).length < 2048 := by
  have := (pm_lo_new h hg).1
  have h2 : 2 * (A ++ o.toList).length ≤ k := this
  omega
/-- the reply after an answer, in the reference -/
def pm_rpA (u : pm_τ) (kd tt : Int32) (R : List (Nat × Nat)) (K : Nat → Bool) (c : Nat) : Prop :=
  u.1 14 = kd ∧ u.1 15 = tt ∧ u.1 16 = nI (ps_RR R).length ∧ pm_rw (u.2.1 8) (u.2.1 9) (ps_RR R) ∧ u.1 19 = nI (ps_cn (ps_any R) 4096) ∧ u.1 20 = nI (ps_cn (ps_any R) 4096 - ps_cn (ps_mis R K) 4096) ∧ u.1 21 = nI (ps_plF (ps_mis R K) c 4096 0).length ∧ u.1 24 = nI (ps_pr1 c (ps_plF (ps_mis R K) c 4096 0)) ∧ pm_rw (u.2.1 10) (u.2.1 11) (ps_plF (ps_mis R K) c 4096 0)
theorem pm_kept {R : List (Nat × Nat)} {K : Nat → Bool} : ps_cn (fun q => ps_any R q && K q) 4096 = ps_cn (ps_any R) 4096 - ps_cn (ps_mis R K) 4096 := by
  have h := ps_cn_split (P := ps_any R) (Q := K) 4096
  have e : ps_cn (fun j => ps_any R j && !K j) 4096 = ps_cn (ps_mis R K) 4096 := rfl
  obtain ⟨x, ex⟩ : ∃ x, x = ps_cn (ps_mis R K) 4096 := ⟨_, rfl⟩
  rw [e] at h
  rw [← ex] at h ⊢
  omega
theorem pm_rws_ord {n : Nat} {L : List (Int32 × Int32)} (hn : n ≤ 4095) (hL : ∀ q ∈ L, ps_pok q) : ∀ r ∈ ps_rws n L, r.1 ≤ r.2 ∧ r.2 < 4096 := by
  intro r hr
  unfold ps_rws at hr
  split at hr
  · split at hr
    · exact absurd hr List.not_mem_nil
    · rw [List.mem_singleton] at hr; subst hr; exact ⟨Nat.zero_le _, by show n - 1 < 4096; omega⟩
  · obtain ⟨q, hq, e⟩ := List.mem_filterMap.mp hr
    rcases ps_row_spec hn (hL q hq) with ⟨z, -⟩ | ⟨a, b, z, -, -, z3, z4⟩
    · rw [z] at e; cases e
    · rw [z] at e; cases e; exact ⟨z3, by show b < 4096; omega⟩
theorem pm_RR_w {n : Nat} : ps_RR (ps_rws n []) = ps_rws n [] := by
  unfold ps_RR ps_rws
  rw [if_pos rfl, if_pos]
  split
  · exact ⟨List.Pairwise.nil, by simp⟩
  · exact ⟨List.pairwise_singleton _ _, by simp⟩
theorem pm_RR_nil : ps_RR [] = [] := by unfold ps_RR; rw [if_pos ⟨List.Pairwise.nil, by simp⟩]
theorem pm_RR_t {R : List (Nat × Nat)} (h : ps_apt R ∧ R.length ≤ 3) : ps_RR R = R := by unfold ps_RR; rw [if_pos h]
theorem pm_RR_f {R : List (Nat × Nat)} (h : ¬ (ps_apt R ∧ R.length ≤ 3)) : ps_RR R = ps_spF (ps_any R) 6 0 := by unfold ps_RR; rw [if_neg h]
theorem pm_kd_0 {R : List (Nat × Nat)} {L : List (Int32 × Int32)} (h : L = []) : nI 0 = ps_kd L R := by unfold ps_kd; rw [if_pos h]
theorem pm_kd_2 {R : List (Nat × Nat)} {L : List (Int32 × Int32)} (h : ¬ L = []) (h2 : R = []) : nI 2 = ps_kd L R := by unfold ps_kd; rw [if_neg h, if_pos h2]
theorem pm_kd_1 {R : List (Nat × Nat)} {L : List (Int32 × Int32)} (h : ¬ L = []) (h2 : ¬ R = []) : nI 1 = ps_kd L R := by unfold ps_kd; rw [if_neg h, if_neg h2]
theorem pm_rws_f {n : Nat} {L : List (Int32 × Int32)} (h : ¬ L = []) : ps_rws n L = L.filterMap (ps_row n) := by unfold ps_rws; rw [if_neg h]
