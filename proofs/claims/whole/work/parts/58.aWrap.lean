theorem ps_kn {σ : ps_σ} (x : Int32) (hln : ∀ t, t < 6 → σ.1 (9 + t) 1 = -1 ∨ ∃ z : Nat, z ≤ 4095 ∧ σ.1 (9 + t) 1 = nI z) : (∃ t Ln : Nat, t < 6 ∧ x = nI t ∧ σ.1 (9 + t) 1 = nI Ln ∧ Ln ≤ 4095) ∨ ((x < 0 ∨ nI 6 ≤ x) ∨ ∃ j : Nat, j < 6 ∧ x = nI j ∧ σ.1 (9 + j) 1 = -1) := by
  rcases pk_ix x (n := 6) (by decide) with h | h | ⟨j, hj, rfl⟩
  · exact Or.inr (Or.inl (Or.inl h))
  · exact Or.inr (Or.inl (Or.inr h))
  · rcases hln j hj with h | ⟨z, h1, h2⟩
    · exact Or.inr (Or.inr ⟨j, hj, rfl, h⟩)
    · exact Or.inl ⟨j, z, hj, rfl, h2, h1⟩
theorem ps_in6 (x : Int32) {n : Nat} (hn : n < 2 ^ 31) : (∃ i : Nat, i < n ∧ x = nI i) ∨ (x < 0 ∨ nI n ≤ x) := by
  rcases pk_ix x hn with h | h | h
  · exact Or.inr (Or.inl h)
  · exact Or.inr (Or.inr h)
  · exact Or.inl h
theorem ps_SL {g : Nat → Nat} {ao : Nat} {s U t : State} {L : List Loc} (hU : U.heap = s.heap) (hF : va_F (ps_wA 33 g) U t) (hL : ∀ q ∈ L, ps_wA 33 g q.base) : va_S (ps_wB g ao) s.heap t.heap ([] ++ L) :=
  ⟨by rw [← hU]; exact hF.1, fun q h1 h2 => by rw [← hU]; exact hF.2 q (by rw [hU]; exact h1) (fun h => h2 (Or.inl h)), fun q hq => Or.inl (hL q (by simpa using hq))⟩
theorem ps_OL {D : va_G} {cl : List vw_C} {cJ : ClassId} {g : Nat → Nat} {ao : Nat} {f : Nat → Int64} {s U t : State} (hU : U.heap = s.heap) (hF : va_F (ps_wA 33 g) U t) (hao : ¬ ps_wA 33 g ao) (h : va_P D cl (ps_oE cJ ao f) s.heap) : va_P D cl (ps_oE cJ ao f) t.heap :=
  ps_oE_kept h (by rw [← hU]; exact hF.2 ao (by rw [hU]; exact ps_oE_lt h) hao)
