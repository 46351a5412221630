theorem pm_len1 (P : List (Nat × Nat)) (r : Nat × Nat) : P.length + 1 = (P ++ (some r).toList).length := by simp
