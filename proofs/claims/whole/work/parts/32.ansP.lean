/-! what a text's parts are -/
theorem ps_edF_dig (f : Nat → Int32) (n : Nat) : ∀ k i j, i ≤ j → j < ps_edF f n k i → ps_isd (ps_sg f n j) = true
  | 0, i, j, h1, h2 => by rw [ps_edF] at h2; omega
  | k + 1, i, j, h1, h2 => by
    rw [ps_edF] at h2
    split at h2
    · rename_i h
      rcases Nat.lt_or_ge i j with z | z
      · exact ps_edF_dig f n k (i + 1) j z h2
      · have e : j = i := by omega
        rw [e]; exact h
    · omega
theorem ps_isd_nat {v : Int32} (h : ps_isd v = true) : ∃ d : Nat, d < 10 ∧ v = nI (48 + d) := by
  unfold ps_isd at h
  rw [Bool.and_eq_true, decide_eq_true_eq, decide_eq_true_eq] at h
  have h0 : ¬ v < 0 := ps_le_nlt (by decide) h.1
  obtain ⟨z, hz, rfl⟩ := nI_of h0
  have h1 := ps_leT h.1 (by decide) hz
  have h2 := ps_leT h.2 hz (by decide)
  exact ⟨z - 48, by omega, by congr 1; omega⟩
theorem ps_nmF_nat (f : Nat → Int32) (n : Nat) : ∀ c k z, (∀ j, k ≤ j → j < k + c → ps_isd (ps_sg f n j) = true) → ∃ y : Nat, ps_nmF f n c k (nI z) = nI y ∧ y < (z + 1) * 10 ^ c
  | 0, k, z, _ => ⟨z, rfl, by omega⟩
  | c + 1, k, z, h => by
    obtain ⟨d, hd, e⟩ := ps_isd_nat (h k (Nat.le_refl k) (by omega))
    obtain ⟨y, y1, y2⟩ := ps_nmF_nat f n c (k + 1) (z * 10 + d) (fun j h1 h2 => h j (by omega) (by omega))
    refine ⟨y, ?_, ?_⟩
    · rw [ps_nmF, e, pk_mul, nI_add, pk_sub (by omega), show z * 10 + (48 + d) - 48 = z * 10 + d by omega]
      exact y1
    · have : (z * 10 + d + 1) * 10 ^ c ≤ (z + 1) * 10 ^ (c + 1) := by
        rw [Nat.pow_succ, Nat.mul_comm (10 ^ c) 10, ← Nat.mul_assoc]
        exact Nat.mul_le_mul_right _ (by omega)
      omega
theorem ps_nm_nat (f : Nat → Int32) (n a : Nat) : ps_nm f n a (ps_edF f n 5 a) = -1 ∨ ∃ z : Nat, z < 100000 ∧ ps_nm f n a (ps_edF f n 5 a) = nI z := by
  have hE := ps_edF_ge f n 5 a
  unfold ps_nm
  split
  · exact Or.inl rfl
  · obtain ⟨y, y1, y2⟩ := ps_nmF_nat f n (ps_edF f n 5 a - a) a 0 (fun j h1 h2 => ps_edF_dig f n 5 a j h1 (by omega))
    refine Or.inr ⟨y, ?_, y1⟩
    have : 10 ^ (ps_edF f n 5 a - a) ≤ 10 ^ 5 := Nat.pow_le_pow_right (by decide) (by omega)
    omega
theorem ps_rp_pok {f : Nat → Int32} {n a e : Nat} {lo hi : Int32} (h : ps_rp f n a = some (e, lo, hi)) : ps_pok (lo, hi) := by
  unfold ps_rp at h
  split at h
  · split at h
    · cases h
    · rename_i h2
      have h3 := Option.some.inj h
      have e1 : ps_nm f n a (ps_edF f n 5 a) = lo := congrArg (fun z => z.2.1) h3
      have e2 : ps_nm f n (ps_edF f n 5 a + 1) (ps_edF f n 5 (ps_edF f n 5 a + 1)) = hi := congrArg (fun z => z.2.2) h3
      rw [e1, e2] at h2
      refine ⟨?_, ?_, fun h => h2 (Or.inl h)⟩
      · have := ps_nm_nat f n a; rw [e1] at this; exact this
      · have := ps_nm_nat f n (ps_edF f n 5 a + 1); rw [e2] at this; exact this
  · cases h
theorem ps_rdF_ok (f : Nat → Int32) (n : Nat) : ∀ c a L, ps_rdF f n c a = some L → L.length ≤ c ∧ ¬ L = [] ∧ ∀ q ∈ L, ps_pok q
  | 0, a, L, h => by cases h
  | c + 1, a, L, h => by
    rw [ps_rdF] at h
    split at h
    · cases h
    · rename_i e lo hi hp
      split at h
      · cases h
        refine ⟨by simp, by simp, ?_⟩
        intro q hq
        rw [List.mem_singleton] at hq
        subst hq; exact ps_rp_pok hp
      · split at h
        · rcases hm : ps_rdF f n c (e + 1) with _ | L2
          · rw [hm] at h; cases h
          · rw [hm] at h
            cases h
            obtain ⟨i1, i2, i3⟩ := ps_rdF_ok f n c (e + 1) L2 hm
            refine ⟨by simpa using i1, by simp, ?_⟩
            intro q hq
            rcases List.mem_cons.mp hq with z | z
            · subst z; exact ps_rp_pok hp
            · exact i3 q z
        · cases h
def ps_hhb (f : Nat → Int32) (n : Nat) : Bool := (List.range 6).all (fun j => decide (ps_sg f n j = ps_hb j))
theorem ps_hhb_iff {f : Nat → Int32} {n : Nat} : ps_hhb f n = true ↔ ps_hh f n := by
  unfold ps_hhb ps_hh
  rw [List.all_eq_true]
  constructor
  · intro h j hj; exact of_decide_eq_true (h j (List.mem_range.mpr hj))
  · intro h j hj; exact decide_eq_true (h j (List.mem_range.mp hj))
def ps_prs (f : Nat → Int32) (n : Nat) : List (Int32 × Int32) := if ps_hhb f n = true then (ps_rdF f n 6 6).getD [] else []
theorem ps_prs_ok (f : Nat → Int32) (n : Nat) : (ps_prs f n).length ≤ 6 ∧ ∀ q ∈ ps_prs f n, ps_pok q := by
  unfold ps_prs
  split
  · rcases h : ps_rdF f n 6 6 with _ | L
    · exact ⟨by simp, fun q hq => absurd hq List.not_mem_nil⟩
    · have := ps_rdF_ok f n 6 6 L h
      exact ⟨this.1, this.2.2⟩
  · exact ⟨by simp, fun q hq => absurd hq List.not_mem_nil⟩
theorem ps_prs_of {f fb fh : Nat → Int32} {n : Nat} {r : Int32} (h : (∃ L : List (Int32 × Int32), ps_hh f n ∧ ps_rdF f n 6 6 = some L ∧ r = nI L.length ∧ ∀ i, (hi : i < L.length) → fb i = L[i].1 ∧ fh i = L[i].2) ∨ ((ps_hh f n → ps_rdF f n 6 6 = none) ∧ r = nI 0)) : r = nI (ps_prs f n).length ∧ ∀ i, (hi : i < (ps_prs f n).length) → fb i = (ps_prs f n)[i].1 ∧ fh i = (ps_prs f n)[i].2 := by
  rcases h with ⟨L, h1, h2, h3, h4⟩ | ⟨h1, h2⟩
  · have e : ps_prs f n = L := by
      unfold ps_prs
      rw [if_pos (ps_hhb_iff.mpr h1), h2]; rfl
    rw [e]; exact ⟨h3, h4⟩
  · have e : ps_prs f n = [] := by
      unfold ps_prs
      split
      · rename_i h; rw [h1 (ps_hhb_iff.mp h)]; rfl
      · rfl
    rw [e]
    exact ⟨h2, fun i hi => absurd hi (Nat.not_lt_zero i)⟩
/-! sets that agree below 4096 -/
theorem ps_nx_cg {S T : Nat → Bool} (h : ∀ q, q < 4096 → S q = T q) (b : Bool) (p : Nat) : ps_nx S b p = ps_nx T b p := by
  rcases Nat.lt_or_ge 4096 p with z | z
  · unfold ps_nx
    rw [show 4096 - p = 0 by omega]; rfl
  · exact ps_nx_congr b z h
theorem ps_spF_cg {S T : Nat → Bool} (h : ∀ q, q < 4096 → S q = T q) : ∀ c p, ps_spF S c p = ps_spF T c p
  | 0, _ => rfl
  | c + 1, p => by rw [ps_spF, ps_spF, ps_nx_cg h true p, ps_nx_cg h false, ps_spF_cg h c]
theorem ps_lof_cg {S T : Nat → Bool} (h : ∀ q, q < 4096 → S q = T q) (c : Nat) : ∀ k z, ps_lof S c k z = ps_lof T c k z
  | 0, _ => rfl
  | k + 1, z => by rw [ps_lof, ps_lof, ps_nx_cg h true (z + 1), ps_nx_cg h false, ps_lof_cg h c k]
theorem ps_plF_cg {S T : Nat → Bool} (h : ∀ q, q < 4096 → S q = T q) (c : Nat) : ∀ k p, ps_plF S c k p = ps_plF T c k p
  | 0, _ => rfl
  | k + 1, p => by rw [ps_plF, ps_plF, ps_nx_cg h true p, ps_lof_cg h c, ps_plF_cg h c k]
/-! the reply as it stands -/
def ps_rep (u : ps_σ) (tt : Int32) (R : List (Nat × Nat)) (pl kp : Nat) (P : List (Nat × Nat)) (pr : Nat) : Prop :=
  u.1 6 0 = tt ∧ u.1 6 1 = nI R.length ∧ (∀ i, (hi : i < R.length) → u.2.2.1 7 i = nI R[i].1 ∧ u.2.2.1 8 i = nI R[i].2) ∧ u.1 6 5 = nI pl ∧ u.1 6 6 = nI kp ∧ u.1 6 7 = nI P.length ∧ u.1 6 8 = nI pr ∧ (∀ q, q < 4096 → ps_hs (u.2.2.2 31) q = decide (q ∈ P.map (fun r => r.1))) ∧ ∀ q, q < 4096 → ps_hs (u.2.2.2 32) q = decide (q ∈ P.map (fun r => r.2))
def ps_RR (R : List (Nat × Nat)) : List (Nat × Nat) := if ps_apt R ∧ R.length ≤ 3 then R else ps_spF (ps_any R) 6 0
def ps_mis (R : List (Nat × Nat)) (K : Nat → Bool) : Nat → Bool := fun q => ps_any R q && !K q
/-- the reply after an answer for the thing tt, whose rows are R and of which K is kept, at the cost c -/
def ps_rpA (u : ps_σ) (tt : Int32) (R : List (Nat × Nat)) (K : Nat → Bool) (c : Nat) : Prop :=
  ps_rep u tt (ps_RR R) (ps_cn (ps_any R) 4096) (ps_cn (ps_any R) 4096 - ps_cn (ps_mis R K) 4096) (ps_plF (ps_mis R K) c 4096 0) (ps_pr1 c (ps_plF (ps_mis R K) c 4096 0))
theorem ps_rpA_of {σ u : ps_σ} {R : List (Nat × Nat)} {K : Nat → Bool} {c t : Nat} {tt : Int32} (hr : ps_rowsOK σ R) (ht : σ.1 6 0 = tt) (hK : ∀ q, q < 4096 → ps_hs (σ.2.2.2 (24 + t)) q = K q)
    (h : u.1 6 0 = σ.1 6 0 ∧ (((¬ σ.1 6 4 = 0 ∨ 3 < R.length) ∧ u.1 6 1 = nI (ps_spF (ps_hs (σ.2.2.2 30)) 6 0).length ∧ ∀ i, (hi : i < (ps_spF (ps_hs (σ.2.2.2 30)) 6 0).length) → u.2.2.1 7 i = nI (ps_spF (ps_hs (σ.2.2.2 30)) 6 0)[i].1 ∧ u.2.2.1 8 i = nI (ps_spF (ps_hs (σ.2.2.2 30)) 6 0)[i].2) ∨ (σ.1 6 4 = 0 ∧ R.length ≤ 3 ∧ u.1 6 1 = nI R.length ∧ u.2.2.1 = σ.2.2.1)) ∧ u.1 6 5 = nI (ps_cn (ps_hs (σ.2.2.2 30)) 4096) ∧ ∃ Mf : Nat → Bool, (∀ q, q < 4096 → Mf q = (ps_hs (σ.2.2.2 30) q && !ps_hs (σ.2.2.2 (24 + t)) q)) ∧ u.1 6 6 = nI (ps_cn (ps_hs (σ.2.2.2 30)) 4096 - ps_cn Mf 4096) ∧ u.1 6 7 = nI (ps_plF Mf c 4096 0).length ∧ u.1 6 8 = nI (ps_pr1 c (ps_plF Mf c 4096 0)) ∧ (∀ q, q < 4096 → ps_hs (u.2.2.2 31) q = decide (q ∈ (ps_plF Mf c 4096 0).map (fun r => r.1))) ∧ ∀ q, q < 4096 → ps_hs (u.2.2.2 32) q = decide (q ∈ (ps_plF Mf c 4096 0).map (fun r => r.2))) : ps_rpA u tt R K c := by
  obtain ⟨h1, h2, h3, Mf, h4, h5, h6, h7, h8, h9⟩ := h
  have eM : ∀ q, q < 4096 → Mf q = ps_mis R K q := fun q hq => by
    rw [h4 q hq, hr.want q hq, hK q hq]; rfl
  rw [ps_cn_congr 4096 hr.want] at h3 h5
  rw [ps_cn_congr 4096 eM] at h5
  rw [ps_plF_cg eM] at h6 h7 h8 h9
  rw [ps_spF_cg hr.want] at h2
  have h10 : u.1 6 1 = nI (ps_RR R).length ∧ ∀ i, (hi : i < (ps_RR R).length) → u.2.2.1 7 i = nI (ps_RR R)[i].1 ∧ u.2.2.1 8 i = nI (ps_RR R)[i].2 := by
    rcases h2 with ⟨x1, x2⟩ | ⟨x1, x2, x3, x4⟩
    · have e : ps_RR R = ps_spF (ps_any R) 6 0 := by
        unfold ps_RR
        rw [if_neg]
        rintro ⟨y1, y2⟩
        rcases hr.over with ⟨z1, z2⟩ | ⟨z1, z2⟩
        · exact z2 y1
        · rcases x1 with w | w
          · exact w z1
          · omega
      rw [e]; exact x2
    · have e : ps_RR R = R := by
        unfold ps_RR
        rw [if_pos]
        refine ⟨?_, x2⟩
        rcases hr.over with ⟨z1, z2⟩ | ⟨z1, z2⟩
        · rw [x1] at z1; exact absurd z1 (by decide)
        · exact z2
      rw [e, x4]; exact ⟨x3, hr.val⟩
  exact ⟨h1.trans ht, h10.1, h10.2, h3, h5, h6, h7, h8, h9⟩
theorem ps_fnd {g : Nat → Nat} {t : Nat} {r : Option Nat} (ht : t < 6) (h : (∃ j : Nat, j < 6 ∧ nI t = nI j ∧ r = some (g (9 + j))) ∨ ((nI t < 0 ∨ nI 6 ≤ nI t) ∧ r = none)) : r = some (g (9 + t)) := by
  rcases h with ⟨j, h1, h2, h3⟩ | ⟨h1, -⟩
  · have e : t = j := (nI_eq (by omega) (by omega)).mp h2
    rw [e]; exact h3
  · exact absurd h1 (ps_not_out ht (by decide))
/-! rising lists -/
theorem ps_cn_list : ∀ (P : List Nat), P.Pairwise (· < ·) → ∀ i, (hi : i < P.length) → ps_cn (fun q => decide (q ∈ P)) P[i] = i := by
  intro P hP i
  rw [List.pairwise_iff_getElem] at hP
  induction i with
  | zero =>
    intro hi
    refine ps_cn_none (fun j hj => decide_eq_false (fun hm => ?_))
    obtain ⟨a, ha, rfl⟩ := List.getElem_of_mem hm
    rcases Nat.eq_zero_or_pos a with z | z
    · subst z; omega
    · have := hP 0 a hi ha z; omega
  | succ i ih =>
    intro hi
    have h1 := hP i (i + 1) (by omega) hi (by omega)
    have h2 : ps_cn (fun q => decide (q ∈ P)) (P[i] + 1) = i + 1 := by
      rw [ps_cn_succ, ih (by omega), if_pos (by simp)]
    refine Eq.trans ?_ h2
    refine ps_cn_flat (by omega) (fun q q1 q2 => decide_eq_false (fun hm => ?_))
    obtain ⟨a, ha, rfl⟩ := List.getElem_of_mem hm
    rcases Nat.lt_or_ge a (i + 1) with z | z
    · rcases Nat.lt_or_ge a i with y | y
      · have := hP a i ha (by omega) y; omega
      · have e : a = i := by omega
        subst e; omega
    · rcases Nat.lt_or_ge (i + 1) a with y | y
      · have := hP (i + 1) a hi ha y; omega
      · have e : a = i + 1 := by omega
        subst e; omega
theorem ps_plF_ge {M : Nat → Bool} {c : Nat} : ∀ k p, p ≤ 4096 → (∀ r ∈ ps_plF M c k p, p ≤ r.1 ∧ r.1 ≤ r.2 ∧ r.2 < 4096) ∧ (ps_plF M c k p).Pairwise (fun a b => a.2 < b.1)
  | 0, p, _ => ⟨fun r hr => absurd hr List.not_mem_nil, List.Pairwise.nil⟩
  | k + 1, p, hp => by
    rw [ps_plF]
    split
    · rename_i h
      have s := ps_nx_spec M true hp
      have l := ps_lof_spec (M := M) (c := c) 4096 _ h (s.2.2.2 h)
      have ih := ps_plF_ge (M := M) (c := c) k (ps_lof M c 4096 (ps_nx M true p) + 1) (by omega)
      refine ⟨?_, List.pairwise_cons.mpr ⟨?_, ih.2⟩⟩
      · intro r hr
        rcases List.mem_cons.mp hr with z | z
        · subst z; exact ⟨s.1, l.1, l.2.1⟩
        · have := ih.1 r z; exact ⟨by omega, this.2.1, this.2.2⟩
      · intro r hr
        have := ih.1 r hr
        show ps_lof M c 4096 (ps_nx M true p) < r.1
        omega
    · exact ⟨fun r hr => absurd hr List.not_mem_nil, List.Pairwise.nil⟩
def ps_plOK (P : List (Nat × Nat)) : Prop := (∀ r ∈ P, r.1 ≤ r.2 ∧ r.2 < 4096) ∧ P.Pairwise (fun a b => a.2 < b.1)
theorem ps_plF_OK (M : Nat → Bool) (c : Nat) : ps_plOK (ps_plF M c 4096 0) := ⟨fun r hr => ((ps_plF_ge 4096 0 (by omega)).1 r hr).2, (ps_plF_ge 4096 0 (by omega)).2⟩
theorem ps_plOK_1 {P : List (Nat × Nat)} (h : ps_plOK P) : (P.map (fun r => r.1)).Pairwise (· < ·) := by
  rw [List.pairwise_map]
  refine List.Pairwise.imp_of_mem ?_ h.2
  intro a b ha hb hab
  have := h.1 a ha; omega
theorem ps_plOK_2 {P : List (Nat × Nat)} (h : ps_plOK P) : (P.map (fun r => r.2)).Pairwise (· < ·) := by
  rw [List.pairwise_map]
  refine List.Pairwise.imp_of_mem ?_ h.2
  intro a b ha hb hab
  have := h.1 b hb; omega
theorem ps_nth1 {f : Nat → Int64} {P : List (Nat × Nat)} {i : Nat} (h : ps_plOK P) (hf : ∀ q, q < 4096 → ps_hs f q = decide (q ∈ P.map (fun r => r.1))) (hi : i < P.length) : P[i].1 < 4096 ∧ ps_hs f P[i].1 = true ∧ ps_cn (ps_hs f) P[i].1 = i := by
  have hm : P[i].1 < 4096 := by have := h.1 P[i] (List.getElem_mem hi); omega
  refine ⟨hm, ?_, ?_⟩
  · rw [hf _ hm, decide_eq_true_eq]
    exact List.mem_map.mpr ⟨P[i], List.getElem_mem hi, rfl⟩
  · have := ps_cn_list _ (ps_plOK_1 h) i (by simpa using hi)
    rw [List.getElem_map] at this
    rw [ps_cn_congr _ (fun q hq => hf q (by omega))]
    exact this
theorem ps_nth2 {f : Nat → Int64} {P : List (Nat × Nat)} {i : Nat} (h : ps_plOK P) (hf : ∀ q, q < 4096 → ps_hs f q = decide (q ∈ P.map (fun r => r.2))) (hi : i < P.length) : P[i].2 < 4096 ∧ ps_hs f P[i].2 = true ∧ ps_cn (ps_hs f) P[i].2 = i := by
  have hm : P[i].2 < 4096 := by have := h.1 P[i] (List.getElem_mem hi); omega
  refine ⟨hm, ?_, ?_⟩
  · rw [hf _ hm, decide_eq_true_eq]
    exact List.mem_map.mpr ⟨P[i], List.getElem_mem hi, rfl⟩
  · have := ps_cn_list _ (ps_plOK_2 h) i (by simpa using hi)
    rw [List.getElem_map] at this
    rw [ps_cn_congr _ (fun q hq => hf q (by omega))]
    exact this
theorem ps_rw0 {u : ps_σ} (h1 : u.1 6 1 = nI 0) (h4 : u.1 6 4 = nI 0) (h30 : ∀ q, q < 4096 → ps_hs (u.2.2.2 30) q = false) : ps_rowsOK u [] :=
  ⟨h1, fun i hi => absurd hi (Nat.not_lt_zero i), fun q hq => h30 q hq, Or.inr ⟨h4, List.Pairwise.nil⟩, fun r hr => absurd hr List.not_mem_nil⟩
theorem ps_upU_2 {σ : ps_σ} {k : Nat} {v : Int64} : (ps_upU σ k v).2.2 = σ.2.2 := rfl
theorem ps_upU_1 {σ : ps_σ} {k : Nat} {v : Int64} : (ps_upU σ k v).1 = σ.1 := rfl
theorem ps_rowsOK_U {σ : ps_σ} {k k2 : Nat} {v v2 : Int64} {R : List (Nat × Nat)} (h : ps_rowsOK σ R) : ps_rowsOK (ps_upU (ps_upU σ k v) k2 v2) R := h
theorem ps_U5 {u : ps_σ} {t : Nat} : (ps_upU (ps_upU u 0 (u.2.1 0 + 1)) (9 + t) (u.2.1 0 + 1)).2.1 = va_up (va_up u.2.1 0 (u.2.1 0 + 1)) (9 + t) (u.2.1 0 + 1) := rfl
