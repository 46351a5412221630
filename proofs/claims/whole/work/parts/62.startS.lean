/-! the text constant, and what a throw needs, at the law's entry -/
theorem pl_exa {args : Array Value} {s : State} {t : Term} {nm : String} (h : (Cond.exactly t nm).before args s = true) : ∃ a : Nat, t.eval args s none [] s = some (.ref a) := by
  obtain ⟨a, c, cA, kA, q1, -⟩ := Cond.exactly_spec (args := args) (first := s) (o := none) (s := s) (idx := []) (t := t) (cls := nm) h
  exact ⟨a, q1⟩
set_option maxHeartbeats 1000000 in
theorem pl_str {args : Array Value} {s : State} {A : Nat → Prop} (hA : ∀ a : Nat, a < s.heap.size → ¬ A a) (hpre : (Jvm.Cond.and given_1 narrow_1).before args s = true) (h : ∀ w ∈ lw_tbl, w.before args s = true) : ∃ (aK aV : Nat) (vo : Option Nat), ps_Str aK aV vo A s s.heap := by
  have hs := flat_of_before _ hpre
  have hex : (Cond.exactly (.string "PieceShelf$Tape" 33) "java/lang/String").before args s = true := hs _ (by decide +kernel)
  obtain ⟨aK, q1⟩ := pl_exa hex
  have hco := Example.Point.eq_int (x := 0) (hs (.eq (.field (.string "PieceShelf$Tape" 33) "java/lang/String" "coder" "B") (.int 0)) (by decide +kernel)) rfl
  have hlen := Example.Point.eq_int (x := 6) (hs (.eq (.length (.field (.string "PieceShelf$Tape" 33) "java/lang/String" "value" "[B")) (.int 6)) (by decide +kernel)) rfl
  have hel : ∀ j : Nat, j < 6 → (Term.elem (.field (.string "PieceShelf$Tape" 33) "java/lang/String" "value" "[B") (.int (Int32.ofNat j))).eval args s none [] s = some (.int (ps_hb j)) := fun j hj => by
    rcases (show j = 0 ∨ j = 1 ∨ j = 2 ∨ j = 3 ∨ j = 4 ∨ j = 5 by omega) with rfl | rfl | rfl | rfl | rfl | rfl
    · exact Example.Point.eq_int (x := 98) (hs (.eq (.elem (.field (.string "PieceShelf$Tape" 33) "java/lang/String" "value" "[B") (.int 0)) (.int 98)) (by decide +kernel)) rfl
    · exact Example.Point.eq_int (x := 121) (hs (.eq (.elem (.field (.string "PieceShelf$Tape" 33) "java/lang/String" "value" "[B") (.int 1)) (.int 121)) (by decide +kernel)) rfl
    · exact Example.Point.eq_int (x := 116) (hs (.eq (.elem (.field (.string "PieceShelf$Tape" 33) "java/lang/String" "value" "[B") (.int 2)) (.int 116)) (by decide +kernel)) rfl
    · exact Example.Point.eq_int (x := 101) (hs (.eq (.elem (.field (.string "PieceShelf$Tape" 33) "java/lang/String" "value" "[B") (.int 3)) (.int 101)) (by decide +kernel)) rfl
    · exact Example.Point.eq_int (x := 115) (hs (.eq (.elem (.field (.string "PieceShelf$Tape" 33) "java/lang/String" "value" "[B") (.int 4)) (.int 115)) (by decide +kernel)) rfl
    · exact Example.Point.eq_int (x := 61) (hs (.eq (.elem (.field (.string "PieceShelf$Tape" 33) "java/lang/String" "value" "[B") (.int 5)) (.int 61)) (by decide +kernel)) rfl
  obtain ⟨aV, v1, v2⟩ := va_Tof (N := 6) (f := fun j => .int (ps_hb j)) (A := A) (by decide) (hs (.arrayOf (.field (.string "PieceShelf$Tape" 33) "java/lang/String" "value" "[B") .byte) (by decide +kernel)) hlen hel hA
  have hz1 : va_Z "java/lang/String" "COMPACT_STRINGS" "Z" (.int 1) A s s.heap := va_Zof (h _ (by decide +kernel)) (h _ (by decide +kernel)) (va_eqi (hs _ (by decide +kernel))) hA
  have hz2 : va_Zq "jdk/internal/util/Preconditions" "SIOOBE_FORMATTER" "Ljava/util/function/BiFunction;" A s s.heap := va_Zqof (h _ (by decide +kernel)) (h _ (by decide +kernel)) (hs _ (by decide +kernel)) hA
  have hr : vk_R "PieceShelf$Tape" 33 "bytes=" aK s := vk_R.of (h (.stringRef "PieceShelf$Tape" 33 "bytes=") (by decide +kernel)) q1
  rcases hz2 with hz2 | ⟨t, hz2⟩
  · exact ⟨aK, aV, none, va_Oof hex q1 hA, vk_OFof q1 hco hA, vk_OFof q1 v1 hA, v2, hz1, hz2, hr⟩
  · exact ⟨aK, aV, some t, va_Oof hex q1 hA, vk_OFof q1 hco hA, vk_OFof q1 v1 hA, v2, hz1, hz2, hr⟩
theorem pl_thr {args : Array Value} {s : State} {A : Nat → Prop} (hA : ∀ a : Nat, a < s.heap.size → ¬ A a) (hpre : (Jvm.Cond.and given_1 narrow_1).before args s = true) (h : ∀ w ∈ lw_tbl, w.before args s = true) : ∃ m1 m2 m3 : Nat, ps_Thr m1 m2 m3 A s s.heap := by
  have hs := flat_of_before _ hpre
  obtain ⟨m1, q1⟩ := pl_exa (hs (.exactly (.string "PieceShelf" 89) "java/lang/String") (by decide +kernel))
  obtain ⟨m2, q2⟩ := pl_exa (hs (.exactly (.string "PieceShelf" 115) "java/lang/String") (by decide +kernel))
  obtain ⟨m3, q3⟩ := pl_exa (hs (.exactly (.string "PieceShelf" 128) "java/lang/String") (by decide +kernel))
  have hin : ∀ w ∈ ps_dw, w ∈ lw_tbl := by decide +kernel
  exact ⟨m1, m2, m3, ps_LS.of (h _ (by decide +kernel)) (hs _ (by decide +kernel)) hA, ps_LS.of (h _ (by decide +kernel)) (hs _ (by decide +kernel)) hA, fun w hw => va_Nw.of (ps_dw_tab hw) (h w (hin w hw)), vk_R.of (h _ (by decide +kernel)) q1, vk_R.of (h _ (by decide +kernel)) q2, vk_R.of (h _ (by decide +kernel)) q3⟩
theorem pl_ao {args : Array Value} {s : State} (h : ∀ w ∈ lw_tbl, w.before args s = true) : va_AO "PieceShelf$Thing" s := va_AO.of (h (.arrayOver (.object "PieceShelf$Thing")) (by decide +kernel))
