/-! ONE STATE OF THE CLASS AGAINST ONE OF THE REFERENCE -/
def pl_T (σ : ps_σ) (τ : pm_τ) : Prop := ∃ n : Nat, n ≤ 60 ∧ σ.1 1 1 = nI n ∧ τ.1 2 = nI n ∧ ∀ i, i < n → σ.2.2.1 2 i = τ.2.1 1 i
def pl_C (σ : ps_σ) (τ : pm_τ) : Prop := (∃ rm : Nat, rm ≤ 20000 ∧ σ.1 0 3 = nI rm ∧ τ.1 3 = nI rm) ∧ ∃ cc : Nat, cc ≤ 1000 ∧ σ.1 0 4 = nI cc ∧ τ.1 4 = nI cc
def pl_L (σ : ps_σ) (τ : pm_τ) : Prop := ∀ t, t < 6 → σ.1 (9 + t) 1 = τ.2.1 2 t ∧ σ.1 (9 + t) 2 = τ.2.1 3 t ∧ (τ.2.1 2 t = -1 ∨ ∃ z : Nat, z ≤ 4095 ∧ τ.2.1 2 t = nI z)
def pl_H (σ : ps_σ) (τ : pm_τ) : Prop := ∀ t, t < 6 → ∀ q, q < 4096 → ps_hs (σ.2.2.2 (24 + t)) q = τ.2.2 4 (4096 * t + q)
def pl_U (σ : ps_σ) (τ : pm_τ) (c : Nat) : Prop := ∃ (U : Nat → Nat) (k : Nat), k ≤ c ∧ σ.2.1 0 = lN k ∧ τ.1 9 = nI k ∧ ∀ t, t < 6 → σ.2.1 (9 + t) = lN (U t) ∧ τ.2.1 5 t = nI (U t) ∧ U t ≤ c
def pl_Y (σ : ps_σ) (τ : pm_τ) : Prop := (σ.1 6 0 = -1 ∧ τ.1 14 = -1 ∧ σ.1 6 1 = nI 0 ∧ σ.1 6 7 = nI 0 ∧ τ.1 16 = nI 0 ∧ τ.1 21 = nI 0 ∧ (∀ q, q < 4096 → ps_hs (σ.2.2.2 31) q = false) ∧ ∀ q, q < 4096 → ps_hs (σ.2.2.2 32) q = false) ∨
  ∃ (t cc : Nat) (kd : Int32) (R : List (Nat × Nat)) (K : Nat → Bool), t < 6 ∧ R.length ≤ 6 ∧ ¬ kd = -1 ∧ ps_rpA σ (nI t) R K cc ∧ pm_rpA τ kd (nI t) R K cc
def pl_R (σ : ps_σ) (τ : pm_τ) (c : Nat) : Prop := pl_T σ τ ∧ pl_C σ τ ∧ pl_L σ τ ∧ pl_H σ τ ∧ pl_U σ τ c ∧ pl_Y σ τ
section PlRel
variable {σ u : ps_σ} {τ v : pm_τ} {c c2 : Nat}
theorem pl_T.cg (h : pl_T σ τ) (h1 : u.1 1 1 = σ.1 1 1) (h2 : u.2.2.1 2 = σ.2.2.1 2) (h3 : v.1 2 = τ.1 2) (h4 : v.2.1 1 = τ.2.1 1) : pl_T u v := by
  unfold pl_T at h ⊢; rw [h1, h2, h3, h4]; exact h
theorem pl_T.z (h1 : u.1 1 1 = nI 0) (h3 : v.1 2 = nI 0) : pl_T u v := ⟨0, by omega, h1, h3, fun i hi => absurd hi (Nat.not_lt_zero i)⟩
theorem pl_C.cg (h : pl_C σ τ) (h1 : u.1 0 3 = σ.1 0 3) (h2 : u.1 0 4 = σ.1 0 4) (h3 : v.1 3 = τ.1 3) (h4 : v.1 4 = τ.1 4) : pl_C u v := by
  unfold pl_C at h ⊢; rw [h1, h2, h3, h4]; exact h
theorem pl_L.cg (h : pl_L σ τ) (h1 : ∀ t, t < 6 → u.1 (9 + t) = σ.1 (9 + t)) (h2 : v.2.1 2 = τ.2.1 2) (h3 : v.2.1 3 = τ.2.1 3) : pl_L u v := fun t ht => by
  rw [h1 t ht, h2, h3]; exact h t ht
theorem pl_H.cg (h : pl_H σ τ) (h1 : ∀ t, t < 6 → u.2.2.2 (24 + t) = σ.2.2.2 (24 + t)) (h2 : v.2.2 4 = τ.2.2 4) : pl_H u v := fun t ht q hq => by
  rw [h1 t ht, h2]; exact h t ht q hq
theorem pl_U.cg (h : pl_U σ τ c) (hc : c ≤ c2) (h1 : u.2.1 = σ.2.1) (h2 : v.1 9 = τ.1 9) (h3 : v.2.1 5 = τ.2.1 5) : pl_U u v c2 := by
  obtain ⟨U, k, a1, a2, a3, a4⟩ := h
  exact ⟨U, k, by omega, by rw [h1]; exact a2, by rw [h2]; exact a3, fun t ht => by rw [h1, h3]; exact ⟨(a4 t ht).1, (a4 t ht).2.1, by have := (a4 t ht).2.2; omega⟩⟩
theorem pl_U.use {t0 : Nat} {k : Nat} (h : pl_U σ τ c) (hc : c + 1 ≤ c2) (hk : σ.2.1 0 = lN k) (hkc : k ≤ c) (h1 : u.2.1 = va_up (va_up σ.2.1 0 (σ.2.1 0 + 1)) (9 + t0) (σ.2.1 0 + 1)) (h2 : v.1 9 = nI (k + 1)) (h3 : v.2.1 5 = va_up (τ.2.1 5) t0 (nI (k + 1))) : pl_U u v c2 := by
  obtain ⟨U, k9, -, -, -, a4⟩ := h
  have e1 : σ.2.1 0 + 1 = lN (k + 1) := by rw [hk]; exact (Int64.ofNat_add k 1).symm
  rw [e1] at h1
  refine ⟨va_up U t0 (k + 1), k + 1, by omega, by rw [h1, va_up_ne _ _ (by omega), va_up_self], h2, fun t ht => ?_⟩
  by_cases e : t = t0
  · subst e; rw [h1, h3, va_up_self, va_up_self, va_up_self]; exact ⟨rfl, rfl, by omega⟩
  · rw [h1, h3, va_up_ne _ _ (by omega), va_up_ne _ _ (by omega), va_up_ne _ _ e, va_up_ne _ _ e]
    exact ⟨(a4 t ht).1, (a4 t ht).2.1, by have := (a4 t ht).2.2; omega⟩
theorem pl_Y.cg (h : pl_Y σ τ) (h1 : u.1 6 = σ.1 6) (h2 : u.2.2.1 7 = σ.2.2.1 7) (h3 : u.2.2.1 8 = σ.2.2.1 8) (h4 : u.2.2.2 31 = σ.2.2.2 31) (h5 : u.2.2.2 32 = σ.2.2.2 32) (k : ∀ j, j ∈ [14, 15, 16, 19, 20, 21, 24] → v.1 j = τ.1 j) (k2 : ∀ j, j ∈ [8, 9, 10, 11] → v.2.1 j = τ.2.1 j) : pl_Y u v := by
  unfold pl_Y ps_rpA ps_rep pm_rpA at h ⊢
  rw [h1, h2, h3, h4, h5, k 14 (by decide), k 15 (by decide), k 16 (by decide), k 19 (by decide), k 20 (by decide), k 21 (by decide), k 24 (by decide), k2 8 (by decide), k2 9 (by decide), k2 10 (by decide), k2 11 (by decide)]
  exact h
end PlRel
/-! the calls that leave the class as it is -/
theorem pl_R.thrown {σ : ps_σ} {τ : pm_τ} {c : Nat} {x : Int32} (h : pl_R σ τ c) : pl_R σ (pm_uI τ 0 x) (c + 1) := by
  obtain ⟨a, b, d, e, f, g⟩ := h
  exact ⟨a.cg rfl rfl rfl rfl, b.cg rfl rfl rfl rfl, d.cg (fun _ _ => rfl) rfl rfl, e.cg (fun _ _ => rfl) rfl, f.cg (Nat.le_succ c) rfl rfl rfl, g.cg rfl rfl rfl rfl rfl (fun j hj => va_up_ne _ _ (fun e => by subst e; exact absurd hj (by decide))) (fun _ _ => rfl)⟩
theorem pl_told {σ : ps_σ} {τ : pm_τ} {c : Nat} {x : Int32} (h : pl_R σ τ c) : ps_num σ x = pm_num τ x := by
  obtain ⟨-, -, -, -, -, g⟩ := h
  unfold ps_num pm_num
  rcases g with ⟨g1, g2, -⟩ | ⟨t, cc, kd, R, K, ht, hR, hkd, ⟨b1, b2, -, b4, b5, b6, b7, -⟩, d1, d2, d3, -, d5, d6, d7, d8, -⟩
  · rw [if_pos g1, if_pos g2]
  · rw [b1, b2, b4, b5, b6, b7, d1, d2, d3, d5, d6, d7, d8, if_neg (ps_nI_m1 (by omega)), if_neg hkd]
theorem pl_cnH {σ : ps_σ} {τ : pm_τ} {t : Nat} (h : pl_H σ τ) (ht : t < 6) : ∀ q, q < 4096 → ps_hs (σ.2.2.2 (24 + t)) q = pm_SS (τ.2.2 4) t q := fun q hq => h t ht q hq
theorem pl_sp {S T : Nat → Bool} (h : ∀ q, q < 4096 → S q = T q) : ps_sp S = ps_sp T := by
  unfold ps_sp
  refine ps_cn_congr 4096 (fun q hq => ?_)
  unfold ps_st
  rw [h q hq]
  rcases Nat.eq_zero_or_pos q with z | z
  · subst z; rfl
  · rw [h (q - 1) (by omega)]
theorem pl_about {σ : ps_σ} {τ : pm_τ} {c j : Nat} {y : Int32} (h : pl_R σ τ c) (hj : j < 6) : ps_abt σ j y = pm_abt τ j y := by
  obtain ⟨-, -, d, e, -, -⟩ := h
  have e1 := pl_cnH e hj
  unfold ps_abt pm_abt
  rw [(d j hj).1, ps_cn_congr 4096 e1, pl_sp e1, ps_nx_cg e1 false 0]
theorem pl_aboutR {σ : ps_σ} {τ v : pm_τ} {c : Nat} {x y r r2 : Int32} (h : pl_R σ τ c) (h1 : (∃ j : Nat, j < 6 ∧ x = nI j ∧ r = ps_abt σ j y) ∨ ((x < 0 ∨ nI 6 ≤ x) ∧ r = -1)) (h2 : (∃ j : Nat, j < 6 ∧ x = nI j ∧ r2 = pm_abt τ j y ∧ v = pm_uI τ 0 (nI 0)) ∨ ((x < 0 ∨ nI 6 ≤ x) ∧ r2 = -1 ∧ v = pm_uI τ 0 (nI 0))) : r = r2 ∧ pl_R σ v (c + 1) := by
  rcases h1 with ⟨j, a1, a2, a3⟩ | ⟨a1, a2⟩
  · rcases h2 with ⟨j2, b1, b2, b3, b4⟩ | ⟨b1, -, -⟩
    · have e : j = j2 := (nI_eq (by omega) (by omega)).mp (a2.symm.trans b2)
      subst e
      rw [a3, b3, b4]; exact ⟨pl_about h a1, h.thrown⟩
    · rw [a2] at b1; exact absurd b1 (ps_not_out a1 (by decide))
  · rcases h2 with ⟨j2, b1, b2, b3, b4⟩ | ⟨-, b1, b2⟩
    · rw [b2] at a1; exact absurd a1 (ps_not_out b1 (by decide))
    · rw [a2, b1, b2]; exact ⟨rfl, h.thrown⟩
theorem pl_heldR {σ : ps_σ} {τ v : pm_τ} {c : Nat} {x y r r2 : Int32} (h : pl_R σ τ c) (h1 : (∃ j q : Nat, j < 6 ∧ q < 4096 ∧ x = nI j ∧ y = nI q ∧ r = ps_bI (ps_hs (σ.2.2.2 (24 + j)) q)) ∨ (((x < 0 ∨ nI 6 ≤ x) ∨ y < 0 ∨ nI 4096 ≤ y) ∧ r = 0)) (h2 : ((∃ j q : Nat, j < 6 ∧ q < 4096 ∧ x = nI j ∧ y = nI q ∧ r2 = ps_bI (τ.2.2 4 (4096 * j + q))) ∨ (((x < 0 ∨ nI 6 ≤ x) ∨ y < 0 ∨ nI 4096 ≤ y) ∧ r2 = 0)) ∧ v = pm_uI τ 0 (nI 0)) : r = r2 ∧ pl_R σ v (c + 1) := by
  obtain ⟨h2, hv⟩ := h2
  have hH := h.2.2.2.1
  refine ⟨?_, by rw [hv]; exact h.thrown⟩
  rcases h1 with ⟨j, q, a1, a2, a3, a4, a5⟩ | ⟨a1, a2⟩
  · rcases h2 with ⟨j2, q2, b1, b2, b3, b4, b5⟩ | ⟨b1, -⟩
    · have e : j = j2 := (nI_eq (by omega) (by omega)).mp (a3.symm.trans b3)
      have e2 : q = q2 := (nI_eq (by omega) (by omega)).mp (a4.symm.trans b4)
      subst e; subst e2
      rw [a5, b5, hH j a1 q a2]
    · rw [a3, a4] at b1
      rcases b1 with b1 | b1
      · exact absurd b1 (ps_not_out a1 (by decide))
      · exact absurd b1 (ps_not_out a2 (by decide))
  · rcases h2 with ⟨j2, q2, b1, b2, b3, b4, b5⟩ | ⟨-, b1⟩
    · rw [b3, b4] at a1
      rcases a1 with a1 | a1
      · exact absurd a1 (ps_not_out b1 (by decide))
      · exact absurd a1 (ps_not_out b2 (by decide))
    · rw [a2, b1]
/-! type, thing, forget -/
theorem pl_typeR {σ u : ps_σ} {τ v : pm_τ} {c n : Nat} {x : Int64} {nx r r2 : Int32} (h : pl_R σ τ c) (hn : σ.1 1 1 = nI n) (hn60 : n ≤ 60)
    (h1 : (∃ nn : Nat, nx = nI nn ∧ 1 ≤ nn ∧ ps_tyOK x nx n ∧ n + nn ≤ 60 ∧ r = 1 ∧ ∃ f : Nat → Int32, u = ps_upI (ps_upA σ 2 f) 1 1 (nI (n + nn)) ∧ (∀ i, i < n → f i = σ.2.2.1 2 i) ∧ ∀ i, i < nn → f (n + i) = nI (ps_by x (nn - 1 - i))) ∨ (¬ ps_tyOK x nx n ∧ r = 0 ∧ u = σ))
    (h2 : (∃ nn : Nat, nx = nI nn ∧ 1 ≤ nn ∧ ps_tyOK x nx n ∧ n + nn ≤ 60 ∧ r2 = 1 ∧ pm_sm [0, 2] [1] [] τ v ∧ v.1 0 = nI 0 ∧ v.1 2 = nI (n + nn) ∧ (∀ i, i < n → v.2.1 1 i = τ.2.1 1 i) ∧ ∀ i, i < nn → v.2.1 1 (n + i) = nI (ps_by x (nn - 1 - i))) ∨ (¬ ps_tyOK x nx n ∧ r2 = 0 ∧ v = pm_uI τ 0 (nI 0))) : r = r2 ∧ pl_R u v (c + 1) := by
  rcases h1 with ⟨nn, a1, a2, a3, a4, a5, f, a6, a7, a8⟩ | ⟨a1, a2, a3⟩
  · rcases h2 with ⟨n2, b1, b2, b3, b4, b5, b6, b7, b8, b9, b10⟩ | ⟨b1, -, -⟩
    · have e : nn = n2 := (nI_eq (by omega) (by omega)).mp (a1.symm.trans b1)
      subst e
      refine ⟨by rw [a5, b5], ?_⟩
      obtain ⟨⟨n9, t1, t2, t3, t4⟩, b, d, e, g, y⟩ := h
      have e9 : n = n9 := (nI_eq (by omega) (by omega)).mp (hn.symm.trans t2)
      subst e9
      refine ⟨⟨n + nn, a4, by rw [a6]; exact ps_upI_eq, b8, fun i hi => ?_⟩, b.cg (by rw [a6]; rfl) (by rw [a6]; rfl) (b6.1 3 (by decide)) (b6.1 4 (by decide)), d.cg (fun t ht => by rw [a6]; exact va_up_ne _ _ (by omega)) (b6.2.1 2 (by decide)) (b6.2.1 3 (by decide)), e.cg (fun t ht => by rw [a6]; rfl) (b6.2.2 4 (by decide)), g.cg (Nat.le_succ c) (by rw [a6]; rfl) (b6.1 9 (by decide)) (b6.2.1 5 (by decide)), y.cg (by rw [a6]; rfl) (by rw [a6]; rfl) (by rw [a6]; rfl) (by rw [a6]; rfl) (by rw [a6]; rfl) (fun j hj => b6.1 j (fun q => by simp at q hj; omega)) (fun j hj => b6.2.1 j (fun q => by simp at q hj; omega))⟩
      have ef : u.2.2.1 2 = f := by rw [a6]; rfl
      rw [ef]
      rcases Nat.lt_or_ge i n with z | z
      · rw [a7 i z, b9 i z]; exact t4 i z
      · obtain ⟨k, rfl⟩ : ∃ k, i = n + k := ⟨i - n, by omega⟩
        rw [a8 k (by omega), b10 k (by omega)]
    · exact absurd a3 b1
  · rcases h2 with ⟨n2, b1, b2, b3, -⟩ | ⟨-, b1, b2⟩
    · exact absurd b3 a1
    · rw [a2, b1, a3, b2]; exact ⟨rfl, h.thrown⟩
theorem pl_outH {S : Nat → Bool} {f : Nat → Int64} (h : ∀ i, i < 64 → f i = 0) {q : Nat} (hq : q < 4096) : ps_hs f q = false := ps_hs_zero h q hq
theorem pl_thingR {σ u : ps_σ} {τ v : pm_τ} {c : Nat} {x ln tg r r2 : Int32} (h : pl_R σ τ c)
    (h1 : (∃ j : Nat, j < 6 ∧ x = nI j ∧ ¬ ln < 0 ∧ ln ≤ nI 4095 ∧ r = 1 ∧ ∃ f : Nat → Int64, u = ps_upI (ps_upI (ps_upB σ (24 + j) f) (9 + j) 1 ln) (9 + j) 2 tg ∧ (((ln = σ.1 (9 + j) 1 ∧ tg = σ.1 (9 + j) 2) ∧ f = σ.2.2.2 (24 + j)) ∨ (¬ (ln = σ.1 (9 + j) 1 ∧ tg = σ.1 (9 + j) 2) ∧ ∀ i, i < 64 → f i = 0))) ∨ (((x < 0 ∨ nI 6 ≤ x) ∨ ln < 0 ∨ ¬ ln ≤ nI 4095) ∧ r = 0 ∧ u = σ))
    (h2 : (∃ j : Nat, j < 6 ∧ x = nI j ∧ ¬ ln < 0 ∧ ln ≤ nI 4095 ∧ r2 = 1 ∧ pm_sm [0] [2, 3] [4] τ v ∧ v.2.1 2 = va_up (τ.2.1 2) j ln ∧ v.2.1 3 = va_up (τ.2.1 3) j tg ∧ ((τ.2.1 2 j = ln ∧ τ.2.1 3 j = tg ∧ v.2.2 4 = τ.2.2 4) ∨ (¬ (τ.2.1 2 j = ln ∧ τ.2.1 3 j = tg) ∧ ∀ q, v.2.2 4 q = pm_em (τ.2.2 4) j 4096 q))) ∨ (((x < 0 ∨ nI 6 ≤ x) ∨ ln < 0 ∨ ¬ ln ≤ nI 4095) ∧ r2 = 0 ∧ v = pm_uI τ 0 (nI 0))) : r = r2 ∧ pl_R u v (c + 1) := by
  rcases h1 with ⟨j, a1, a2, a3, a4, a5, f, a6, a7⟩ | ⟨a1, a2, a3⟩
  · rcases h2 with ⟨j2, b1, b2, -, -, b5, b6, b7, b8, b9⟩ | ⟨b1, -, -⟩
    · have e : j = j2 := (nI_eq (by omega) (by omega)).mp (a2.symm.trans b2)
      subst e
      refine ⟨by rw [a5, b5], ?_⟩
      obtain ⟨tp, b, d, e, g, y⟩ := h
      have e1 : ∀ k, k ≠ 9 + j → u.1 k = σ.1 k := fun k hk => by rw [a6]; exact (va_up_ne _ _ hk).trans (va_up_ne _ _ hk)
      have e2 : ∀ k, k ≠ 24 + j → u.2.2.2 k = σ.2.2.2 k := fun k hk => by rw [a6]; exact va_up_ne _ _ hk
      have e3 : u.2.2.2 (24 + j) = f := by rw [a6]; exact va_up_self _ _ _
      have e4 : u.1 (9 + j) 2 = tg := by rw [a6]; exact ps_upI_eq
      have e5 : u.1 (9 + j) 1 = ln := by rw [a6]; exact (ps_upI_nj (by decide)).trans ps_upI_eq
      have e6 : u.2.1 = σ.2.1 := by rw [a6]; rfl
      have e7 : u.2.2.1 = σ.2.2.1 := by rw [a6]; rfl
      obtain ⟨z, z1, z2⟩ := ps_toN a3 a4 (by decide)
      refine ⟨tp.cg (by rw [e1 1 (by omega)]) (by rw [e7]) (b6.1 2 (by decide)) (b6.2.1 1 (by decide)), b.cg (by rw [e1 0 (by omega)]) (by rw [e1 0 (by omega)]) (b6.1 3 (by decide)) (b6.1 4 (by decide)), fun t ht => ?_, fun t ht q hq => ?_, g.cg (Nat.le_succ c) e6 (b6.1 9 (by decide)) (b6.2.1 5 (by decide)), y.cg (e1 6 (by omega)) (by rw [e7]) (by rw [e7]) (e2 31 (by omega)) (e2 32 (by omega)) (fun j hj => b6.1 j (fun q => by simp at q hj; omega)) (fun j hj => b6.2.1 j (fun q => by simp at q hj; omega))⟩
      · by_cases q : t = j
        · subst q; rw [e4, e5, b7, b8, va_up_self, va_up_self]; exact ⟨rfl, rfl, Or.inr ⟨z, z2, z1⟩⟩
        · rw [e1 (9 + t) (by omega), b7, b8, va_up_ne _ _ q, va_up_ne _ _ q]; exact d t ht
      · have hd := d j a1
        have eqv : (ln = σ.1 (9 + j) 1 ∧ tg = σ.1 (9 + j) 2) ↔ (τ.2.1 2 j = ln ∧ τ.2.1 3 j = tg) := by rw [hd.1, hd.2.1]; exact ⟨fun w => ⟨w.1.symm, w.2.symm⟩, fun w => ⟨w.1.symm, w.2.symm⟩⟩
        by_cases q9 : t = j
        · subst q9
          rw [e3]
          rcases a7 with ⟨c1, c2⟩ | ⟨c1, c2⟩
          · rcases b9 with ⟨-, -, c4⟩ | ⟨c3, -⟩
            · rw [c2, c4]; exact e t ht q hq
            · exact absurd (eqv.mp c1) c3
          · rcases b9 with ⟨c3, c4, -⟩ | ⟨-, c4⟩
            · exact absurd (eqv.mpr ⟨c3, c4⟩) c1
            · rw [ps_hs_zero c2 q hq, c4, pm_em_at hq]; simp
        · rw [e2 (24 + t) (by omega)]
          rcases b9 with ⟨-, -, c4⟩ | ⟨-, c4⟩
          · rw [c4]; exact e t ht q hq
          · rw [c4, pm_em_at hq, decide_eq_false q9]; simpa using e t ht q hq
    · rw [a2] at b1
      rcases b1 with b1 | b1 | b1
      · exact absurd b1 (ps_not_out a1 (by decide))
      · exact absurd b1 a3
      · exact absurd a4 b1
  · rcases h2 with ⟨j2, b1, b2, b3, b4, -⟩ | ⟨-, b1, b2⟩
    · rw [b2] at a1
      rcases a1 with a1 | a1 | a1
      · exact absurd a1 (ps_not_out b1 (by decide))
      · exact absurd a1 b3
      · exact absurd b4 a1
    · rw [a2, b1, a3, b2]; exact ⟨rfl, h.thrown⟩
theorem pl_forgetR {σ u : ps_σ} {τ v : pm_τ} {c : Nat} {x r r2 : Int32} (h : pl_R σ τ c)
    (h1 : (∃ j : Nat, j < 6 ∧ x = nI j ∧ r = 1 ∧ ∃ f : Nat → Int64, u = ps_upB (ps_upI σ (9 + j) 1 (-1)) (24 + j) f ∧ ∀ i, i < 64 → f i = 0) ∨ ((x < 0 ∨ nI 6 ≤ x) ∧ r = 0 ∧ u = σ))
    (h2 : (∃ j : Nat, j < 6 ∧ x = nI j ∧ r2 = 1 ∧ pm_sm [0] [2] [4] τ v ∧ v.2.1 2 = va_up (τ.2.1 2) j (-1) ∧ ∀ q, v.2.2 4 q = pm_em (τ.2.2 4) j 4096 q) ∨ ((x < 0 ∨ nI 6 ≤ x) ∧ r2 = 0 ∧ v = pm_uI τ 0 (nI 0))) : r = r2 ∧ pl_R u v (c + 1) := by
  rcases h1 with ⟨j, a1, a2, a5, f, a6, a7⟩ | ⟨a1, a2, a3⟩
  · rcases h2 with ⟨j2, b1, b2, b5, b6, b7, b9⟩ | ⟨b1, -, -⟩
    · have e : j = j2 := (nI_eq (by omega) (by omega)).mp (a2.symm.trans b2)
      subst e
      refine ⟨by rw [a5, b5], ?_⟩
      obtain ⟨tp, b, d, e, g, y⟩ := h
      have e1 : ∀ k, k ≠ 9 + j → u.1 k = σ.1 k := fun k hk => by rw [a6]; exact va_up_ne _ _ hk
      have e2 : ∀ k, k ≠ 24 + j → u.2.2.2 k = σ.2.2.2 k := fun k hk => by rw [a6]; exact va_up_ne _ _ hk
      have e3 : u.2.2.2 (24 + j) = f := by rw [a6]; exact va_up_self _ _ _
      have e4 : u.1 (9 + j) 2 = σ.1 (9 + j) 2 := by rw [a6]; exact ps_upI_nj (by decide)
      have e5 : u.1 (9 + j) 1 = -1 := by rw [a6]; exact ps_upI_eq
      have e6 : u.2.1 = σ.2.1 := by rw [a6]; rfl
      have e7 : u.2.2.1 = σ.2.2.1 := by rw [a6]; rfl
      refine ⟨tp.cg (by rw [e1 1 (by omega)]) (by rw [e7]) (b6.1 2 (by decide)) (b6.2.1 1 (by decide)), b.cg (by rw [e1 0 (by omega)]) (by rw [e1 0 (by omega)]) (b6.1 3 (by decide)) (b6.1 4 (by decide)), fun t ht => ?_, fun t ht q hq => ?_, g.cg (Nat.le_succ c) e6 (b6.1 9 (by decide)) (b6.2.1 5 (by decide)), y.cg (e1 6 (by omega)) (by rw [e7]) (by rw [e7]) (e2 31 (by omega)) (e2 32 (by omega)) (fun j hj => b6.1 j (fun q => by simp at q hj; omega)) (fun j hj => b6.2.1 j (fun q => by simp at q hj; omega))⟩
      · rw [b6.2.1 3 (by decide)]
        by_cases q : t = j
        · subst q; rw [e4, e5, b7, va_up_self]; exact ⟨rfl, (d t ht).2.1, Or.inl rfl⟩
        · rw [e1 (9 + t) (by omega), b7, va_up_ne _ _ q]; exact d t ht
      · by_cases q9 : t = j
        · subst q9; rw [e3, ps_hs_zero a7 q hq, b9, pm_em_at hq]; simp
        · rw [e2 (24 + t) (by omega), b9, pm_em_at hq, decide_eq_false q9]; simpa using e t ht q hq
    · rw [a2] at b1; exact absurd b1 (ps_not_out a1 (by decide))
  · rcases h2 with ⟨j2, b1, b2, -⟩ | ⟨-, b1, b2⟩
    · rw [b2] at a1; exact absurd a1 (ps_not_out b1 (by decide))
    · rw [a2, b1, a3, b2]; exact ⟨rfl, h.thrown⟩
/-! what goes: the same on both sides -/
theorem pl_old {us ws : Nat → Int64} {S T : Nat → Nat → Bool} (hu : ∀ t, t < 6 → us t = ws t) (hS : ∀ t, t < 6 → ∀ q, q < 4096 → S t q = T t q) : ∀ n, n ≤ 6 → ps_oldF us S n = ps_oldF ws T n
  | 0, _ => rfl
  | n + 1, h => by
    have ih := pl_old hu hS n (by omega)
    have e1 := ps_nx_cg (hS n (by omega)) true 0
    by_cases q : ps_nx (S n) true 0 = 4096
    · rw [ps_oldF_e q, ps_oldF_e (by rw [← e1]; exact q), ih]
    · have q2 : ¬ ps_nx (T n) true 0 = 4096 := by rw [← e1]; exact q
      rcases ho : ps_oldF us S n with _ | o
      · rw [ps_oldF_n q ho, ps_oldF_n q2 (by rw [← ih]; exact ho)]
      · have := ps_oldF_lt _ _ _ _ ho
        rw [ps_oldF_s q ho, ps_oldF_s q2 (by rw [← ih]; exact ho), hu n (by omega), hu o (by omega)]
theorem pl_ev {us ws : Nat → Int64} (hu : ∀ t, t < 6 → us t = ws t) : ∀ (k ov : Nat) (S T : Nat → Nat → Bool), (∀ t, t < 6 → ∀ q, q < 4096 → S t q = T t q) → ∀ t, t < 6 → ∀ q, q < 4096 → ps_evF us k ov S t q = ps_evF ws k ov T t q
  | 0, ov, S, T, hS, t, ht, q, hq => hS t ht q hq
  | k + 1, ov, S, T, hS, t, ht, q, hq => by
    by_cases hov : ov = 0
    · subst hov; rw [ps_evF_0, ps_evF_0]; exact hS t ht q hq
    · have eo := pl_old hu hS 6 (Nat.le_refl 6)
      rcases ho : ps_oldF us S 6 with _ | o
      · rw [ps_evF_n (Nat.succ_pos k) hov ho, ps_evF_n (Nat.succ_pos k) hov (by rw [← eo]; exact ho)]
        exact pl_ev hu k ov S T hS t ht q hq
      · have ho6 := ps_oldF_lt _ _ _ _ ho
        rw [ps_evF_s (Nat.succ_pos k) hov ho, ps_evF_s (Nat.succ_pos k) hov (by rw [← eo]; exact ho), ps_left_congr (by omega) (hS o ho6)]
        refine pl_ev hu k _ _ _ (fun t ht q hq => ?_) t ht q hq
        by_cases e : t = o
        · subst e; rw [va_up_self, va_up_self]; exact ps_dl_congr hq (hS t ht)
        · rw [va_up_ne _ _ e, va_up_ne _ _ e]; exact hS t ht q hq
theorem pl_tot {S T : Nat → Nat → Bool} : ∀ n, (∀ t, t < n → ∀ q, q < 4096 → S t q = T t q) → pm_tF S n = pm_tF T n
  | 0, _ => rfl
  | n + 1, h => by rw [pm_tF, pm_tF, pl_tot n (fun t ht => h t (by omega)), ps_cn_congr 4096 (h n (by omega))]
theorem pl_totF (σ : ps_σ) : ∀ n, ps_totF σ n = pm_tF (ps_SS σ) n
  | 0 => rfl
  | n + 1 => by rw [ps_totF, pm_tF, pl_totF σ n]
theorem pl_setR {σ u : ps_σ} {τ v : pm_τ} {c : Nat} {x y r r2 : Int32} {U : Nat → Nat} (h : pl_R σ τ c) (hU : ∀ t, t < 6 → σ.2.1 (9 + t) = lN (U t))
    (h1 : (x = nI 0 ∧ ∃ w : Nat, y = nI w ∧ w ≤ 20000 ∧ r = 1 ∧ ps_sB (ps_upI σ 0 3 y) u ∧ ∀ t, t < 6 → ∀ q, q < 4096 → ps_hs (u.2.2.2 (24 + t)) q = ps_evF (ps_US σ) 6 (ps_totF σ 6 - w) (ps_SS σ) t q) ∨ (x = nI 1 ∧ ∃ w : Nat, y = nI w ∧ w ≤ 1000 ∧ r = 1 ∧ u = ps_upI σ 0 4 y) ∨ (¬ (x = nI 0 ∧ ¬ y < 0 ∧ y ≤ nI 20000) ∧ ¬ (x = nI 1 ∧ ¬ y < 0 ∧ y ≤ nI 1000) ∧ r = 0 ∧ u = σ))
    (h2 : (x = nI 0 ∧ ∃ w : Nat, y = nI w ∧ w ≤ 20000 ∧ r2 = 1 ∧ pm_sm [0, 3] [] [4] τ v ∧ v.1 3 = y ∧ ∀ t, t < 6 → ∀ q, q < 4096 → v.2.2 4 (4096 * t + q) = ps_evF (fun t => lN (U t)) 6 (pm_tF (pm_SS (τ.2.2 4)) 6 - w) (pm_SS (τ.2.2 4)) t q) ∨ (x = nI 1 ∧ ∃ w : Nat, y = nI w ∧ w ≤ 1000 ∧ r2 = 1 ∧ v = pm_uI (pm_uI τ 0 (nI 0)) 4 y) ∨ (¬ (x = nI 0 ∧ ¬ y < 0 ∧ y ≤ nI 20000) ∧ ¬ (x = nI 1 ∧ ¬ y < 0 ∧ y ≤ nI 1000) ∧ r2 = 0 ∧ v = pm_uI τ 0 (nI 0))) : r = r2 ∧ pl_R u v (c + 1) := by
  have in0 : ∀ {w m : Nat}, y = nI w → w ≤ m → m < 2 ^ 31 → ¬ y < 0 ∧ y ≤ nI m := fun e hw hm => by rw [e]; exact ⟨nI_pos (by omega), nI_le hw hm⟩
  rcases h1 with ⟨a1, w, a2, a3, a4, a5, a6⟩ | ⟨a1, w, a2, a3, a4, a5⟩ | ⟨a1, a2, a3, a4⟩
  · rcases h2 with ⟨-, w2, b2, b3, b4, b5, b6, b7⟩ | ⟨b1, -⟩ | ⟨b1, -⟩
    · have e : w = w2 := (nI_eq (by omega) (by omega)).mp (a2.symm.trans b2)
      subst e
      refine ⟨by rw [a4, b4], ?_⟩
      obtain ⟨tp, ⟨-, cc, k1, k2, k3⟩, d, e, g, y0⟩ := h
      have e1 : ∀ k, k ≠ 0 → u.1 k = σ.1 k := fun k hk => by rw [a5.1]; exact va_up_ne _ _ hk
      refine ⟨tp.cg (by rw [e1 1 (by omega)]) (by rw [a5.2.2.1]; rfl) (b5.1 2 (by decide)) (b5.2.1 1 (by decide)), ⟨⟨w, a3, by rw [a5.1, a2]; exact ps_upI_eq, by rw [b6, a2]⟩, cc, k1, by rw [a5.1]; exact (ps_upI_nj (by decide)).trans k2, by rw [b5.1 4 (by decide)]; exact k3⟩, d.cg (fun t _ => e1 (9 + t) (by omega)) (b5.2.1 2 (by decide)) (b5.2.1 3 (by decide)), fun t ht q hq => ?_, g.cg (Nat.le_succ c) (by rw [a5.2.1]; rfl) (b5.1 9 (by decide)) (b5.2.1 5 (by decide)), y0.cg (e1 6 (by omega)) (by rw [a5.2.2.1]; rfl) (by rw [a5.2.2.1]; rfl) (by rw [a5.2.2.2 31 (by omega)]; rfl) (by rw [a5.2.2.2 32 (by omega)]; rfl) (fun j hj => b5.1 j (fun q => by simp at q hj; omega)) (fun j hj => b5.2.1 j (fun q => by simp at q))⟩
      rw [a6 t ht q hq, b7 t ht q hq, pl_totF, pl_tot (S := ps_SS σ) (T := pm_SS (τ.2.2 4)) 6 (fun t ht q hq => e t ht q hq)]
      exact pl_ev hU 6 _ _ _ (fun t ht q hq => e t ht q hq) t ht q hq
    · rw [a1] at b1; exact absurd b1 (by decide)
    · exact absurd ⟨a1, in0 a2 a3 (by decide)⟩ b1
  · rcases h2 with ⟨b1, -⟩ | ⟨-, w2, b2, b3, b4, b5⟩ | ⟨-, b1, -⟩
    · rw [a1] at b1; exact absurd b1 (by decide)
    · refine ⟨by rw [a4, b4], ?_⟩
      obtain ⟨tp, ⟨⟨rm, k1, k2, k3⟩, -⟩, d, e, g, y0⟩ := h
      have e1 : ∀ k, k ≠ 0 → u.1 k = σ.1 k := fun k hk => by rw [a5]; exact va_up_ne _ _ hk
      subst a5; subst b5
      exact ⟨tp.cg (by rw [e1 1 (by omega)]) rfl rfl rfl, ⟨⟨rm, k1, (ps_upI_nj (by decide)).trans k2, k3⟩, w, a3, by rw [a2]; exact ps_upI_eq, by rw [a2]; rfl⟩, d.cg (fun t _ => e1 (9 + t) (by omega)) rfl rfl, e.cg (fun _ _ => rfl) rfl, g.cg (Nat.le_succ c) rfl rfl rfl, y0.cg (e1 6 (by omega)) rfl rfl rfl rfl (fun j hj => (va_up_ne _ _ (fun q => by subst q; exact absurd hj (by decide))).trans (va_up_ne _ _ (fun q => by subst q; exact absurd hj (by decide)))) (fun _ _ => rfl)⟩
    · exact absurd ⟨a1, in0 a2 a3 (by decide)⟩ b1
  · rcases h2 with ⟨b1, w, b2, b3, -⟩ | ⟨b1, w, b2, b3, -⟩ | ⟨-, -, b3, b4⟩
    · exact absurd ⟨b1, in0 b2 b3 (by decide)⟩ a1
    · exact absurd ⟨b1, in0 b2 b3 (by decide)⟩ a2
    · rw [a3, b3, a4, b4]; exact ⟨rfl, h.thrown⟩
theorem pl_acc {σ : ps_σ} {τ : pm_τ} {c j : Nat} {a b tg : Int32} (h : pl_R σ τ c) (hj : j < 6) : ps_acc σ j a b tg ↔ pm_acc τ j a b tg := by
  have d := h.2.2.1 j hj
  unfold ps_acc pm_acc
  rw [d.1, d.2.1]
theorem pl_gotR {σ u : ps_σ} {τ v : pm_τ} {c rm1 k : Nat} {x xa xb tg r r2 : Int32} {U : Nat → Nat} (h : pl_R σ τ c) (hU : ∀ t, t < 6 → σ.2.1 (9 + t) = lN (U t)) (hk : σ.2.1 0 = lN k) (hkc : k ≤ c)
    (h1 : (∃ j a b : Nat, j < 6 ∧ x = nI j ∧ xa = nI a ∧ xb = nI b ∧ a ≤ b ∧ b < 4095 ∧ ps_acc σ j (nI a) (nI b) tg ∧ r = nI (ps_cn (ps_ad (ps_hs (σ.2.2.2 (24 + j))) a b) 4096) ∧ ∃ f6 : Nat → Int64, (∀ q, q < 4096 → ps_hs f6 q = (ps_hs (σ.2.2.2 (24 + j)) q || (decide (a ≤ q) && decide (q ≤ b)))) ∧ ps_sB (ps_upU (ps_upU (ps_upB σ (24 + j) f6) 0 (σ.2.1 0 + 1)) (9 + j) (σ.2.1 0 + 1)) u ∧ ∀ t, t < 6 → ∀ q, q < 4096 → ps_hs (u.2.2.2 (24 + t)) q = ps_evF (ps_US (ps_upU (ps_upU (ps_upB σ (24 + j) f6) 0 (σ.2.1 0 + 1)) (9 + j) (σ.2.1 0 + 1))) 6 (ps_totF (ps_upU (ps_upU (ps_upB σ (24 + j) f6) 0 (σ.2.1 0 + 1)) (9 + j) (σ.2.1 0 + 1)) 6 - rm1) (ps_SS (ps_upU (ps_upU (ps_upB σ (24 + j) f6) 0 (σ.2.1 0 + 1)) (9 + j) (σ.2.1 0 + 1))) t q) ∨ (((x < 0 ∨ nI 6 ≤ x) ∨ ∃ j : Nat, j < 6 ∧ x = nI j ∧ ¬ ps_acc σ j xa xb tg) ∧ r = -1 ∧ u = σ))
    (h2 : (∃ j a b : Nat, j < 6 ∧ x = nI j ∧ xa = nI a ∧ xb = nI b ∧ a ≤ b ∧ b < 4095 ∧ pm_acc τ j (nI a) (nI b) tg ∧ r2 = nI (ps_cn (ps_ad (pm_SS (τ.2.2 4) j) a b) 4096) ∧ pm_sm [0, 9] [5] [4] τ v ∧ v.1 9 = nI (k + 1) ∧ v.2.1 5 = va_up (τ.2.1 5) j (nI (k + 1)) ∧ ∃ f6 : Nat → Bool, (∀ t, t < 6 → ∀ q, q < 4096 → f6 (4096 * t + q) = (τ.2.2 4 (4096 * t + q) || (decide (t = j) && (decide (a ≤ q) && decide (q ≤ b))))) ∧ ∀ t, t < 6 → ∀ q, q < 4096 → v.2.2 4 (4096 * t + q) = ps_evF (fun t => lN (va_up U j (k + 1) t)) 6 (pm_tF (pm_SS f6) 6 - rm1) (pm_SS f6) t q) ∨ (((x < 0 ∨ nI 6 ≤ x) ∨ ∃ j : Nat, j < 6 ∧ x = nI j ∧ ¬ pm_acc τ j xa xb tg) ∧ r2 = -1 ∧ v = pm_uI τ 0 (nI 0))) : r = r2 ∧ pl_R u v (c + 1) := by
  have hacc := fun j hj a b => pl_acc (a := a) (b := b) (tg := tg) h (j := j) hj
  rcases h1 with ⟨j, a, b, a1, a2, a3, a4, a5, a6, a7, a8, f6, a9, a10, a11⟩ | ⟨a1, a2, a3⟩
  · rcases h2 with ⟨j2, a', b', b1, b2, b3, b4, b5, b6, -, b8, b9, b10, b11, f7, b12, b13⟩ | ⟨b1, -, -⟩
    · have e : j = j2 := (nI_eq (by omega) (by omega)).mp (a2.symm.trans b2)
      have ea : b = b' := (nI_eq (by omega) (by omega)).mp (a4.symm.trans b4)
      subst e; subst ea
      have eb : a = a' := (nI_eq (by omega) (by omega)).mp (a3.symm.trans b3)
      subst eb
      obtain ⟨tp, bc, d, e, g, y⟩ := h
      have e9 := pl_cnH e a1
      refine ⟨by rw [a8, b8]; exact congrArg nI (ps_cn_congr 4096 (fun q hq => by unfold ps_ad; rw [e9 q hq])), ?_⟩
      obtain ⟨SG, eSG⟩ : ∃ z, z = ps_upU (ps_upU (ps_upB σ (24 + j) f6) 0 (σ.2.1 0 + 1)) (9 + j) (σ.2.1 0 + 1) := ⟨_, rfl⟩
      rw [← eSG] at a10 a11
      have s1 : SG.1 = σ.1 := by rw [eSG]; rfl
      have s2 : SG.2.1 = va_up (va_up σ.2.1 0 (σ.2.1 0 + 1)) (9 + j) (σ.2.1 0 + 1) := by rw [eSG]; rfl
      have s3 : SG.2.2.1 = σ.2.2.1 := by rw [eSG]; rfl
      have s4 : SG.2.2.2 = va_up σ.2.2.2 (24 + j) f6 := by rw [eSG]; rfl
      have hS : ∀ t, t < 6 → ∀ q, q < 4096 → ps_SS SG t q = pm_SS f7 t q := fun t ht q hq => by
        show ps_hs (SG.2.2.2 (24 + t)) q = f7 (4096 * t + q)
        rw [s4, b12 t ht q hq]
        by_cases z : t = j
        · subst z; rw [va_up_self, a9 q hq, e t ht q hq, decide_eq_true (rfl : t = t), Bool.true_and]
        · rw [va_up_ne _ _ (by omega), decide_eq_false z, Bool.false_and, Bool.or_false]; exact e t ht q hq
      have hUs : ∀ t, t < 6 → ps_US SG t = lN (va_up U j (k + 1) t) := fun t ht => by
        show SG.2.1 (9 + t) = _
        rw [s2]
        by_cases z : t = j
        · subst z; rw [va_up_self, va_up_self, hk]; exact (Int64.ofNat_add k 1).symm
        · rw [va_up_ne _ _ (by omega), va_up_ne _ _ (by omega), va_up_ne _ _ z]; exact hU t ht
      refine ⟨tp.cg (by rw [a10.1, s1]) (by rw [a10.2.2.1, s3]) (b9.1 2 (by decide)) (b9.2.1 1 (by decide)), bc.cg (by rw [a10.1, s1]) (by rw [a10.1, s1]) (b9.1 3 (by decide)) (b9.1 4 (by decide)), d.cg (fun t _ => by rw [a10.1, s1]) (b9.2.1 2 (by decide)) (b9.2.1 3 (by decide)), fun t ht q hq => ?_, g.use (Nat.le_refl _) hk hkc (by rw [a10.2.1, s2]) b10 b11, y.cg (by rw [a10.1, s1]) (by rw [a10.2.2.1, s3]) (by rw [a10.2.2.1, s3]) (by rw [a10.2.2.2 31 (by omega), s4, va_up_ne _ _ (by omega)]) (by rw [a10.2.2.2 32 (by omega), s4, va_up_ne _ _ (by omega)]) (fun j hj => b9.1 j (fun q => by simp at q hj; omega)) (fun j hj => b9.2.1 j (fun q => by simp at q hj; omega))⟩
      rw [a11 t ht q hq, b13 t ht q hq, pl_totF, pl_tot 6 hS]
      exact pl_ev hUs 6 _ _ _ hS t ht q hq
    · rw [a2, a3, a4] at b1
      rcases b1 with b1 | ⟨j2, b1, b2, b3⟩
      · exact absurd b1 (ps_not_out a1 (by decide))
      · have e : j = j2 := (nI_eq (by omega) (by omega)).mp b2
        subst e
        exact absurd ((hacc j a1 _ _).mp a7) b3
  · rcases h2 with ⟨j2, a', b', b1, b2, b3, b4, -, -, b7, -⟩ | ⟨-, b1, b2⟩
    · rw [b2, b3, b4] at a1
      rcases a1 with a1 | ⟨j, a1, a4, a5⟩
      · exact absurd a1 (ps_not_out b1 (by decide))
      · have e : j2 = j := (nI_eq (by omega) (by omega)).mp a4
        subst e
        exact absurd ((hacc j2 b1 _ _).mpr b7) a5
    · rw [a2, b1, a3, b2]; exact ⟨rfl, h.thrown⟩
/-! answers -/
theorem pl_prs {f g : Nat → Int32} {n : Nat} (h : ∀ i, i < n → f i = g i) : ps_prs f n = ps_prs g n := by
  have sg : ∀ i, ps_sg f n i = ps_sg g n i := fun i => by
    unfold ps_sg
    split
    · rename_i z; exact h i z
    · rfl
  have ed : ∀ k i, ps_edF f n k i = ps_edF g n k i := fun k => by
    induction k with
    | zero => intro i; rfl
    | succ k ih => intro i; rw [ps_edF, ps_edF, sg i, ih]
  have nf : ∀ k i v, ps_nmF f n k i v = ps_nmF g n k i v := fun k => by
    induction k with
    | zero => intro i v; rfl
    | succ k ih => intro i v; rw [ps_nmF, ps_nmF, sg i, ih]
  have nm : ∀ a b, ps_nm f n a b = ps_nm g n a b := fun a b => by unfold ps_nm; rw [nf]
  have rp : ∀ a, ps_rp f n a = ps_rp g n a := fun a => by unfold ps_rp; rw [ed 5 a, sg, ed 5, nm, nm]
  have rd : ∀ k a, ps_rdF f n k a = ps_rdF g n k a := fun k => by
    induction k with
    | zero => intro a; rfl
    | succ k ih =>
      intro a
      rw [ps_rdF, ps_rdF, rp a]
      rcases ps_rp g n a with _ | ⟨E, lo, hi⟩
      · rfl
      · show (if E = n then _ else if ps_sg f n E = nI 44 then _ else _) = (if E = n then _ else if ps_sg g n E = nI 44 then _ else _)
        rw [sg E, ih]
  unfold ps_prs ps_hhb
  rw [rd]
  have : (fun j => decide (ps_sg f n j = ps_hb j)) = (fun j => decide (ps_sg g n j = ps_hb j)) := funext (fun j => by rw [sg j])
  rw [this]
theorem pl_kd_m1 (L : List (Int32 × Int32)) (R : List (Nat × Nat)) : ¬ ps_kd L R = -1 := by
  unfold ps_kd
  split
  · decide
  · split <;> decide
theorem pl_any_K {R : List (Nat × Nat)} {K K2 : Nat → Bool} (h : ∀ q, q < 4096 → K q = K2 q) : ∀ q, q < 4096 → ps_mis R K q = ps_mis R K2 q := fun q hq => by unfold ps_mis; rw [h q hq]
theorem pl_rpA_K {τ : pm_τ} {kd tt : Int32} {R : List (Nat × Nat)} {K K2 : Nat → Bool} {c : Nat} (h : ∀ q, q < 4096 → K q = K2 q) (hp : pm_rpA τ kd tt R K c) : pm_rpA τ kd tt R K2 c := by
  have e := pl_any_K (R := R) h
  unfold pm_rpA at hp ⊢
  rw [← ps_plF_cg e, ← ps_cn_congr 4096 e]
  exact hp
theorem pl_answerR {σ u : ps_σ} {τ v : pm_τ} {c n cc1 k : Nat} {x r b : Int32} {f o : Nat → Int64} (h : pl_R σ τ c) (hn : σ.1 1 1 = nI n) (hn60 : n ≤ 60) (hsg : ∀ i, i < n → σ.2.2.1 2 i = τ.2.1 1 i) (hk : σ.2.1 0 = lN k) (hkc : k ≤ c) (hk9 : τ.1 9 = nI k)
    (h1 : (∃ t Ln : Nat, t < 6 ∧ x = nI t ∧ σ.1 (9 + t) 1 = nI Ln ∧ Ln ≤ 4095 ∧ r = nI 0 ∧ o 0 = (ps_kd (ps_prs (σ.2.2.1 2) n) (ps_rws Ln (ps_prs (σ.2.2.1 2) n))).toInt64 ∧ u.1 1 1 = nI 0 ∧ (∀ k, k ≠ 1 → k ≠ 6 → u.1 k = σ.1 k) ∧ u.2.1 = (if ps_kd (ps_prs (σ.2.2.1 2) n) (ps_rws Ln (ps_prs (σ.2.2.1 2) n)) = nI 2 then σ.2.1 else va_up (va_up σ.2.1 0 (σ.2.1 0 + 1)) (9 + t) (σ.2.1 0 + 1)) ∧ (∀ k, k < 30 → u.2.2.2 k = σ.2.2.2 k) ∧ ps_rpA u (nI t) (ps_rws Ln (ps_prs (σ.2.2.1 2) n)) (ps_hs (σ.2.2.2 (24 + t))) cc1) ∨ (((x < 0 ∨ nI 6 ≤ x) ∨ ∃ j : Nat, j < 6 ∧ x = nI j ∧ σ.1 (9 + j) 1 = -1) ∧ r = nI 1 ∧ o = f ∧ u.1 1 1 = nI 0 ∧ (∀ k, k ≠ 1 → u.1 k = σ.1 k) ∧ u.2.1 = σ.2.1 ∧ (∀ k, k ≠ 3 → k ≠ 4 → u.2.2.1 k = σ.2.2.1 k) ∧ u.2.2.2 = σ.2.2.2))
    (h2 : (∃ j Ln : Nat, j < 6 ∧ x = nI j ∧ τ.2.1 2 j = nI Ln ∧ Ln ≤ 4095 ∧ b = ps_kd (ps_prs (τ.2.1 1) n) (ps_rws Ln (ps_prs (τ.2.1 1) n)) ∧ v.1 0 = nI 0 ∧ v.1 2 = nI 0 ∧ pm_sm [0, 2, 9, 10, 11, 14, 15, 16, 19, 20, 21, 24] [5, 6, 7, 8, 9, 10, 11] [12] τ v ∧ ((ps_kd (ps_prs (τ.2.1 1) n) (ps_rws Ln (ps_prs (τ.2.1 1) n)) = nI 2 ∧ v.1 9 = nI k ∧ v.2.1 5 = τ.2.1 5) ∨ (¬ ps_kd (ps_prs (τ.2.1 1) n) (ps_rws Ln (ps_prs (τ.2.1 1) n)) = nI 2 ∧ v.1 9 = nI (k + 1) ∧ v.2.1 5 = va_up (τ.2.1 5) j (nI (k + 1)))) ∧ pm_rpA v (ps_kd (ps_prs (τ.2.1 1) n) (ps_rws Ln (ps_prs (τ.2.1 1) n))) (nI j) (ps_rws Ln (ps_prs (τ.2.1 1) n)) (pm_SS (τ.2.2 4) j) cc1) ∨ (((x < 0 ∨ nI 6 ≤ x) ∨ ∃ j : Nat, j < 6 ∧ x = nI j ∧ τ.2.1 2 j = -1) ∧ v = pm_uI (pm_uI τ 2 (nI 0)) 0 (nI 1))) : v.1 0 = r ∧ (r = nI 0 → o 0 = b.toInt64) ∧ (r = nI 0 ∨ r = nI 1) ∧ pl_R u v (c + 1) := by
  obtain ⟨tp, bb, d, e, g, y⟩ := h
  have ep := pl_prs hsg
  rcases h1 with ⟨t, Ln, a1, a2, a3, a4, a5, a6, a7, a8, a9, a10, a11⟩ | ⟨a1, a2, a3, a4, a5, a6, a7, a8⟩
  · rcases h2 with ⟨j, L2, b1, b2, b3, b4, b5, b6, b7, b8, b9, b10⟩ | ⟨b1, -⟩
    · have e1 : t = j := (nI_eq (by omega) (by omega)).mp (a2.symm.trans b2)
      subst e1
      have e2 : Ln = L2 := (nI_eq (by omega) (by omega)).mp (by rw [← a3, ← b3]; exact (d t a1).1)
      subst e2
      rw [ep] at a6 a9 a11
      have eu : ∀ i, i < 6 → u.1 (9 + i) = σ.1 (9 + i) := fun i hi => a8 (9 + i) (by omega) (by omega)
      refine ⟨by rw [b6, a5], fun _ => by rw [a6, b5], Or.inl a5, pl_T.z a7 b7, bb.cg (by rw [a8 0 (by omega) (by omega)]) (by rw [a8 0 (by omega) (by omega)]) (b8.1 3 (by decide)) (b8.1 4 (by decide)), d.cg eu (b8.2.1 2 (by decide)) (b8.2.1 3 (by decide)), e.cg (fun i hi => a10 (24 + i) (by omega)) (b8.2.2 4 (by decide)), ?_, Or.inr ⟨t, cc1, _, _, _, a1, ps_rws_len (ps_prs_ok _ _).1, pl_kd_m1 _ _, a11, pl_rpA_K (fun q hq => (e t a1 q hq).symm) b10⟩⟩
      rcases b9 with ⟨c1, c2, c3⟩ | ⟨c1, c2, c3⟩
      · exact g.cg (Nat.le_succ c) (by rw [a9, if_pos c1]) (by rw [c2, hk9]) c3
      · exact g.use (Nat.le_refl _) hk hkc (by rw [a9, if_neg c1]) c2 c3
    · exfalso
      rw [a2] at b1
      rcases b1 with b1 | ⟨j, b1, b2, b3⟩
      · exact absurd b1 (ps_not_out a1 (by decide))
      · have e1 : t = j := (nI_eq (by omega) (by omega)).mp b2
        subst e1
        rw [← (d t a1).1, a3] at b3
        exact ps_nI_m1 (by omega) b3
  · rcases h2 with ⟨j, L2, b1, b2, b3, b4, -⟩ | ⟨-, b1⟩
    · exfalso
      rw [b2] at a1
      rcases a1 with a1 | ⟨j2, a1, a9, a10⟩
      · exact absurd a1 (ps_not_out b1 (by decide))
      · have e1 : j = j2 := (nI_eq (by omega) (by omega)).mp a9
        subst e1
        rw [(d j b1).1, b3] at a10
        exact ps_nI_m1 (by omega) a10
    · subst b1
      refine ⟨by rw [a2]; rfl, fun q => absurd (a2.symm.trans q) (by decide), Or.inr a2, pl_T.z a4 rfl, bb.cg (by rw [a5 0 (by omega)]) (by rw [a5 0 (by omega)]) rfl rfl, d.cg (fun i _ => a5 (9 + i) (by omega)) rfl rfl, e.cg (fun i _ => by rw [a8]) rfl, g.cg (Nat.le_succ c) a6 rfl rfl, y.cg (a5 6 (by omega)) (a7 7 (by omega) (by omega)) (a7 8 (by omega) (by omega)) (by rw [a8]) (by rw [a8]) (fun j hj => (va_up_ne _ _ (fun q => by subst q; exact absurd hj (by decide))).trans (va_up_ne _ _ (fun q => by subst q; exact absurd hj (by decide)))) (fun _ _ => rfl)⟩
/-! rows and fetches -/
theorem pl_spF_len (W : Nat → Bool) : ∀ c p, (ps_spF W c p).length ≤ c
  | 0, _ => Nat.le_refl 0
  | c + 1, p => by
    rw [ps_spF]
    split
    · rw [List.length_cons]; have := pl_spF_len W c (ps_nx W false (ps_nx W true p)); omega
    · exact Nat.zero_le _
theorem pl_RR_len {R : List (Nat × Nat)} (h : R.length ≤ 6) : (ps_RR R).length ≤ 6 := by
  unfold ps_RR
  split
  · exact h
  · exact pl_spF_len _ 6 0
theorem pl_lof_end {M : Nat → Bool} {c : Nat} : ∀ (n z f : Nat), 4096 - z ≤ n → z < 4096 → M z = true → 4096 - z ≤ f → ps_nx M true (ps_lof M c f z + 1) = 4096 ∨ c < ps_nx M true (ps_lof M c f z + 1) - ps_lof M c f z - 1
  | 0, z, f, hn, hz, _, _ => by omega
  | n + 1, z, f, hn, hz, hm, hf => by
    by_cases h : ps_nx M true (z + 1) = 4096 ∨ c < ps_nx M true (z + 1) - z - 1
    · rw [ps_lof_stop h]; exact h
    · rw [ps_lof_go (by omega) h]
      obtain ⟨a1, a2, a3, a4, a5⟩ := ps_lof_st hz (fun e => h (Or.inl e))
      exact pl_lof_end n _ _ (by omega) (by omega) a5 (by omega)
theorem pl_plF_len {M : Nat → Bool} {c : Nat} : ∀ (k p : Nat), p ≤ 4096 → 2 * (ps_plF M c k p).length ≤ 4096 - p + 1
  | 0, p, _ => by rw [ps_plF]; simp
  | k + 1, p, hp => by
    rw [ps_plF]
    split
    · rename_i h
      have s := ps_nx_spec M true hp
      have l := ps_lof_spec (M := M) (c := c) 4096 _ h (s.2.2.2 h)
      have le := pl_lof_end (M := M) (c := c) 4096 _ 4096 (by omega) h (s.2.2.2 h) (by omega)
      rw [List.length_cons]
      obtain ⟨z, ez⟩ : ∃ z, z = ps_lof M c 4096 (ps_nx M true p) := ⟨_, rfl⟩
      rw [← ez] at l le ⊢
      rcases Nat.lt_or_ge (z + 1) 4096 with q | q
      · have s2 := ps_nx_spec M true (p := z + 1) (by omega)
        have hf : M (z + 1) = false := by
          cases hh : M (z + 1) with
          | false => rfl
          | true =>
            exfalso
            have : ¬ z + 1 < ps_nx M true (z + 1) := fun w => s2.2.2.1 (z + 1) (Nat.le_refl _) w hh
            omega
        rw [pm_plF_skip k q hf]
        have := pl_plF_len (M := M) (c := c) k (z + 1 + 1) (by omega)
        omega
      · rw [ps_plF_no k (by rw [show z + 1 = 4096 by omega, pm_nx_4096]; omega)]
        simp
        omega
    · simp
theorem pl_rows {σ : ps_σ} {τ : pm_τ} {c : Nat} (h : pl_R σ τ c) : ∃ P : List (Nat × Nat), P.length ≤ 6 ∧ σ.1 6 1 = nI P.length ∧ (∀ i, (hi : i < P.length) → σ.2.2.1 7 i = nI P[i].1 ∧ σ.2.2.1 8 i = nI P[i].2) ∧ τ.1 16 = nI P.length ∧ (∀ i, (hi : i < P.length) → τ.2.1 8 i = nI P[i].1 ∧ τ.2.1 9 i = nI P[i].2) ∧ (τ.1 14 = -1 → P = []) := by
  rcases h.2.2.2.2.2 with ⟨g1, g2, g3, g4, g5, g6, -⟩ | ⟨t, cc, kd, R, K, ht, hR, hkd, ⟨b1, b2, b3, -⟩, d1, d2, d3, d4, -⟩
  · exact ⟨[], by simp, g3, fun i hi => absurd hi (Nat.not_lt_zero i), g5, fun i hi => absurd hi (Nat.not_lt_zero i), fun _ => rfl⟩
  · exact ⟨ps_RR R, pl_RR_len hR, b2, b3, d3, d4, fun q => absurd (d1.symm.trans q) hkd⟩
theorem pl_plans {σ : ps_σ} {τ : pm_τ} {c : Nat} (h : pl_R σ τ c) : ∃ P : List (Nat × Nat), ps_plOK P ∧ P.length ≤ 2048 ∧ σ.1 6 7 = nI P.length ∧ (∀ q, q < 4096 → ps_hs (σ.2.2.2 31) q = decide (q ∈ P.map (fun r => r.1))) ∧ (∀ q, q < 4096 → ps_hs (σ.2.2.2 32) q = decide (q ∈ P.map (fun r => r.2))) ∧ τ.1 21 = nI P.length ∧ (∀ i, (hi : i < P.length) → τ.2.1 10 i = nI P[i].1 ∧ τ.2.1 11 i = nI P[i].2) ∧ (τ.1 14 = -1 → P = []) := by
  rcases h.2.2.2.2.2 with ⟨g1, g2, g3, g4, g5, g6, g7, g8⟩ | ⟨t, cc, kd, R, K, ht, hR, hkd, ⟨b1, b2, b3, b4, b5, b6, b7, b8, b9⟩, d1, d2, d3, d4, d5, d6, d7, d8, d9⟩
  · exact ⟨[], ⟨fun r hr => absurd hr List.not_mem_nil, List.Pairwise.nil⟩, by simp, g4, fun q hq => by rw [g7 q hq]; rfl, fun q hq => by rw [g8 q hq]; rfl, g6, fun i hi => absurd hi (Nat.not_lt_zero i), fun _ => rfl⟩
  · refine ⟨ps_plF (ps_mis R K) cc 4096 0, ps_plF_OK _ _, ?_, b6, b8, b9, d7, d9, fun q => absurd (d1.symm.trans q) hkd⟩
    have := pl_plF_len (M := ps_mis R K) (c := cc) 4096 0 (by omega)
    omega
theorem pl_rowR {σ u : ps_σ} {τ v : pm_τ} {c : Nat} {P : List (Nat × Nat)} {x r b : Int32} {en : Bool} {f o : Nat → Int64} (h : pl_R σ τ c) (hP : P.length < 2 ^ 31)
    (h1 : (∃ (i : Nat) (hi : i < P.length), x = nI i ∧ r = nI 0 ∧ u = σ ∧ o 0 = (nI (if en = true then P[i].2 else P[i].1)).toInt64) ∨ ((x < 0 ∨ nI P.length ≤ x) ∧ r = nI 1 ∧ u = σ ∧ o = f))
    (h2 : (∃ (i : Nat) (hi : i < P.length), x = nI i ∧ b = nI (if en = true then P[i].2 else P[i].1) ∧ v = pm_uI τ 0 (nI 0)) ∨ ((x < 0 ∨ nI P.length ≤ x) ∧ v = pm_uI τ 0 (nI 1))) : v.1 0 = r ∧ (r = nI 0 → o 0 = b.toInt64) ∧ (r = nI 0 ∨ r = nI 1) ∧ pl_R u v (c + 1) := by
  rcases h1 with ⟨i, a1, a2, a3, a4, a5⟩ | ⟨a1, a2, a3, a4⟩
  · rcases h2 with ⟨j, b1, b2, b3, b4⟩ | ⟨b1, -⟩
    · have e : i = j := (nI_eq (by omega) (by omega)).mp (a2.symm.trans b2)
      subst e
      rw [a3, a4, b4, a5, b3]
      exact ⟨rfl, fun _ => rfl, Or.inl rfl, h.thrown⟩
    · rw [a2] at b1; exact absurd b1 (ps_not_out a1 hP)
  · rcases h2 with ⟨j, b1, b2, b3, b4⟩ | ⟨-, b1⟩
    · rw [b2] at a1; exact absurd a1 (ps_not_out b1 hP)
    · rw [a2, a3, b1]
      exact ⟨rfl, fun q => absurd q (by decide), Or.inr rfl, h.thrown⟩
theorem pl_start : pl_R ps_σ0 pm_τ0 0 :=
  ⟨⟨0, by omega, ps_σ0_1 1, rfl, fun i hi => absurd hi (Nat.not_lt_zero i)⟩, ⟨⟨8000, by omega, ps_σ0_03, rfl⟩, 100, by omega, ps_σ0_04, rfl⟩, fun t ht => ⟨ps_σ0_t1, ps_σ0_t2, Or.inl rfl⟩, fun t _ q hq => ps_hs_zero (fun _ _ => rfl) q hq, ⟨fun _ => 0, 0, Nat.le_refl 0, rfl, rfl, fun t _ => ⟨rfl, rfl, Nat.le_refl 0⟩⟩, Or.inl ⟨ps_σ0_60, rfl, ps_σ0_6 (by decide), ps_σ0_6 (by decide), rfl, rfl, fun q hq => ps_hs_zero (fun _ _ => rfl) q hq, fun q hq => ps_hs_zero (fun _ _ => rfl) q hq⟩⟩
