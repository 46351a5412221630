/-! THE CLASS's STATE: 33 cells. 0 the shelf; 1 tape, 2 its signs, 3 before, 4 behind; 5 the things' array; 6 reply, 7 firsts, 8 lasts; 9 .. 14 things; 15 .. 23 places (of the things; wanted, fetchFirsts, fetchLasts); 24 .. 32 their words.
σ = (ints of a cell, the long of a cell, ints of an array, longs of an array) -/
abbrev ps_σ : Type := (Nat → Nat → Int32) × (Nat → Int64) × (Nat → Nat → Int32) × (Nat → Nat → Int64)
def ps_E (g : Nat → Nat) (cI cJ cT : ClassId) (σ : ps_σ) (k : Nat) : va_E :=
  if k = 0 then .inr (0, [.ref (g 1), .ref (g 5), .ref (g 6), .int (σ.1 k 3), .int (σ.1 k 4), .long (σ.2.1 k)])
  else if k = 1 then .inr (1, [.ref (g 2), .int (σ.1 k 1), .ref (g 3), .ref (g 4)])
  else if k = 2 then .inl (cI, 60, .inl (σ.2.2.1 k))
  else if k = 3 then .inl (cI, 6, .inl (σ.2.2.1 k))
  else if k = 4 then .inl (cI, 6, .inl (σ.2.2.1 k))
  else if k = 5 then .inl (cT, 6, .inr (.inr (.inr (.inr (fun i => some (g (9 + i)))))))
  else if k = 6 then .inr (2, [.int (σ.1 k 0), .int (σ.1 k 1), .ref (g 7), .ref (g 8), .int (σ.1 k 4), .int (σ.1 k 5), .int (σ.1 k 6), .int (σ.1 k 7), .int (σ.1 k 8), .ref (g 21), .ref (g 22), .ref (g 23)])
  else if k = 7 then .inl (cI, 6, .inl (σ.2.2.1 k))
  else if k = 8 then .inl (cI, 6, .inl (σ.2.2.1 k))
  else if k < 15 then .inr (3, [.ref (g (k + 6)), .int (σ.1 k 1), .int (σ.1 k 2), .long (σ.2.1 k)])
  else if k < 24 then .inr (4, [.ref (g (k + 9))])
  else .inl (cJ, 64, .inr (.inl (σ.2.2.2 k)))
def ps_upI (σ : ps_σ) (k j : Nat) (v : Int32) : ps_σ := (va_up σ.1 k (va_up (σ.1 k) j v), σ.2)
def ps_upU (σ : ps_σ) (k : Nat) (v : Int64) : ps_σ := (σ.1, va_up σ.2.1 k v, σ.2.2)
def ps_upA (σ : ps_σ) (k : Nat) (f : Nat → Int32) : ps_σ := (σ.1, σ.2.1, va_up σ.2.2.1 k f, σ.2.2.2)
def ps_upB (σ : ps_σ) (k : Nat) (f : Nat → Int64) : ps_σ := (σ.1, σ.2.1, σ.2.2.1, va_up σ.2.2.2 k f)
section PsState
variable {g : Nat → Nat} {cI cJ cT : ClassId} {σ : ps_σ}
theorem ps_E_0 : ps_E g cI cJ cT σ 0 = .inr (0, [.ref (g 1), .ref (g 5), .ref (g 6), .int (σ.1 0 3), .int (σ.1 0 4), .long (σ.2.1 0)]) := rfl
theorem ps_E_1 : ps_E g cI cJ cT σ 1 = .inr (1, [.ref (g 2), .int (σ.1 1 1), .ref (g 3), .ref (g 4)]) := rfl
theorem ps_E_2 : ps_E g cI cJ cT σ 2 = .inl (cI, 60, .inl (σ.2.2.1 2)) := rfl
theorem ps_E_3 : ps_E g cI cJ cT σ 3 = .inl (cI, 6, .inl (σ.2.2.1 3)) := rfl
theorem ps_E_4 : ps_E g cI cJ cT σ 4 = .inl (cI, 6, .inl (σ.2.2.1 4)) := rfl
theorem ps_E_5 : ps_E g cI cJ cT σ 5 = .inl (cT, 6, .inr (.inr (.inr (.inr (fun i => some (g (9 + i))))))) := rfl
theorem ps_E_6 : ps_E g cI cJ cT σ 6 = .inr (2, [.int (σ.1 6 0), .int (σ.1 6 1), .ref (g 7), .ref (g 8), .int (σ.1 6 4), .int (σ.1 6 5), .int (σ.1 6 6), .int (σ.1 6 7), .int (σ.1 6 8), .ref (g 21), .ref (g 22), .ref (g 23)]) := rfl
theorem ps_E_7 : ps_E g cI cJ cT σ 7 = .inl (cI, 6, .inl (σ.2.2.1 7)) := rfl
theorem ps_E_8 : ps_E g cI cJ cT σ 8 = .inl (cI, 6, .inl (σ.2.2.1 8)) := rfl
theorem ps_E_th {t : Nat} (ht : t < 6) : ps_E g cI cJ cT σ (9 + t) = .inr (3, [.ref (g (15 + t)), .int (σ.1 (9 + t) 1), .int (σ.1 (9 + t) 2), .long (σ.2.1 (9 + t))]) := by
  unfold ps_E
  rw [if_neg (by omega), if_neg (by omega), if_neg (by omega), if_neg (by omega), if_neg (by omega), if_neg (by omega), if_neg (by omega), if_neg (by omega), if_neg (by omega), if_pos (by omega), show 9 + t + 6 = 15 + t by omega]
theorem ps_E_pl {k : Nat} (hk : k < 9) : ps_E g cI cJ cT σ (15 + k) = .inr (4, [.ref (g (24 + k))]) := by
  unfold ps_E
  rw [if_neg (by omega), if_neg (by omega), if_neg (by omega), if_neg (by omega), if_neg (by omega), if_neg (by omega), if_neg (by omega), if_neg (by omega), if_neg (by omega), if_neg (by omega), if_pos (by omega), show 15 + k + 9 = 24 + k by omega]
theorem ps_E_wd (k : Nat) : ps_E g cI cJ cT σ (24 + k) = .inl (cJ, 64, .inr (.inl (σ.2.2.2 (24 + k)))) := by
  unfold ps_E
  rw [if_neg (by omega), if_neg (by omega), if_neg (by omega), if_neg (by omega), if_neg (by omega), if_neg (by omega), if_neg (by omega), if_neg (by omega), if_neg (by omega), if_neg (by omega), if_neg (by omega)]
theorem ps_E_upI {k j i : Nat} {v : Int32} (h : i ≠ k) : ps_E g cI cJ cT (ps_upI σ k j v) i = ps_E g cI cJ cT σ i := by
  have e : (ps_upI σ k j v).1 i = σ.1 i := va_up_ne _ _ h
  unfold ps_E
  rw [e]
  rfl
theorem ps_E_upU {k i : Nat} {v : Int64} (h : i ≠ k) : ps_E g cI cJ cT (ps_upU σ k v) i = ps_E g cI cJ cT σ i := by
  have e : (ps_upU σ k v).2.1 i = σ.2.1 i := va_up_ne _ _ h
  unfold ps_E
  rw [e]
  rfl
theorem ps_E_upA {k i : Nat} {f : Nat → Int32} (h : i ≠ k) : ps_E g cI cJ cT (ps_upA σ k f) i = ps_E g cI cJ cT σ i := by
  have e : (ps_upA σ k f).2.2.1 i = σ.2.2.1 i := va_up_ne _ _ h
  unfold ps_E
  rw [e]
  rfl
theorem ps_E_upB {k i : Nat} {f : Nat → Int64} (h : i ≠ k) : ps_E g cI cJ cT (ps_upB σ k f) i = ps_E g cI cJ cT σ i := by
  have e : (ps_upB σ k f).2.2.2 i = σ.2.2.2 i := va_up_ne _ _ h
  unfold ps_E
  rw [e]
  rfl
theorem ps_upI_at (k j : Nat) (v : Int32) : (ps_upI σ k j v).1 k = va_up (σ.1 k) j v := va_up_self _ _ _
theorem ps_upU_at (k : Nat) (v : Int64) : (ps_upU σ k v).2.1 k = v := va_up_self _ _ _
theorem ps_upA_at (k : Nat) (f : Nat → Int32) : (ps_upA σ k f).2.2.1 k = f := va_up_self _ _ _
theorem ps_upB_at (k : Nat) (f : Nat → Int64) : (ps_upB σ k f).2.2.2 k = f := va_up_self _ _ _
theorem ps_E_wdB (k : Nat) (f : Nat → Int64) : ps_E g cI cJ cT (ps_upB σ (24 + k) f) (24 + k) = .inl (cJ, 64, .inr (.inl f)) := by rw [ps_E_wd, ps_upB_at]
theorem ps_E_thL {t : Nat} (ht : t < 6) (v : Int32) : ps_E g cI cJ cT (ps_upI σ (9 + t) 1 v) (9 + t) = .inr (3, [.ref (g (15 + t)), .int v, .int (σ.1 (9 + t) 2), .long (σ.2.1 (9 + t))]) := by
  rw [ps_E_th ht, ps_upI_at]; rfl
theorem ps_E_thG {t : Nat} (ht : t < 6) (v : Int32) : ps_E g cI cJ cT (ps_upI σ (9 + t) 2 v) (9 + t) = .inr (3, [.ref (g (15 + t)), .int (σ.1 (9 + t) 1), .int v, .long (σ.2.1 (9 + t))]) := by
  rw [ps_E_th ht, ps_upI_at]; rfl
theorem ps_E_thU {t : Nat} (ht : t < 6) (v : Int64) : ps_E g cI cJ cT (ps_upU σ (9 + t) v) (9 + t) = .inr (3, [.ref (g (15 + t)), .int (σ.1 (9 + t) 1), .int (σ.1 (9 + t) 2), .long v]) := by
  rw [ps_E_th ht, ps_upU_at]; rfl
theorem ps_upB_self (k : Nat) : ps_upB σ k (σ.2.2.2 k) = σ := by
  obtain ⟨a, b, c, d⟩ := σ
  show (a, b, c, va_up d k (d k)) = (a, b, c, d)
  rw [show va_up d k (d k) = d from funext (fun j => by unfold va_up; split <;> simp_all)]
theorem ps_upB_upB (k : Nat) (f h : Nat → Int64) : ps_upB (ps_upB σ k f) k h = ps_upB σ k h := by
  unfold ps_upB
  rw [bx_uu]
end PsState
def ps_tys (cI cJ cT : ClassId) : List (ClassId × FieldType) := [(cI, .int), (cJ, .long), (cT, .object "PieceShelf$Thing")]
