-- ===== PART A: goes FIRST, ahead of the names: the tables' words, and 'selects' of the private methods out of them =====
/-- a private method of a class that the tables say can be made, by its rows of tables_1 -/
def lw_okq (q : MethodName × Nat) : Prop := (q.1.cls ≠ "java/lang/invoke/MethodHandle" ∧ q.1.cls ≠ "java/lang/invoke/VarHandle") ∧ Cond.instantiable q.1.cls q.2 ∈ tables_1 ∧ Cond.privateMethod q.1 ∈ tables_1 ∧ Cond.instanceMethod q.1 ∈ tables_1
theorem lw_p0 : lw_okq (⟨"PieceShelf", "find", "(I)LPieceShelf$Thing;"⟩, 6) := ⟨⟨by decide +kernel, by decide +kernel⟩, List.mem_of_getElem? (i := 19) (by decide +kernel), List.mem_of_getElem? (i := 167) (by decide +kernel), List.mem_of_getElem? (i := 168) (by decide +kernel)⟩
theorem lw_p1 : lw_okq (⟨"PieceShelf", "noteUse", "(LPieceShelf$Thing;)V"⟩, 6) := ⟨⟨by decide +kernel, by decide +kernel⟩, List.mem_of_getElem? (i := 19) (by decide +kernel), List.mem_of_getElem? (i := 212) (by decide +kernel), List.mem_of_getElem? (i := 213) (by decide +kernel)⟩
theorem lw_p2 : lw_okq (⟨"PieceShelf", "makeRoom", "()V"⟩, 6) := ⟨⟨by decide +kernel, by decide +kernel⟩, List.mem_of_getElem? (i := 19) (by decide +kernel), List.mem_of_getElem? (i := 216) (by decide +kernel), List.mem_of_getElem? (i := 217) (by decide +kernel)⟩
theorem lw_p3 : lw_okq (⟨"PieceShelf", "keptInAll", "()I"⟩, 6) := ⟨⟨by decide +kernel, by decide +kernel⟩, List.mem_of_getElem? (i := 19) (by decide +kernel), List.mem_of_getElem? (i := 220) (by decide +kernel), List.mem_of_getElem? (i := 221) (by decide +kernel)⟩
theorem lw_p4 : lw_okq (⟨"PieceShelf", "longestUnused", "()LPieceShelf$Thing;"⟩, 6) := ⟨⟨by decide +kernel, by decide +kernel⟩, List.mem_of_getElem? (i := 19) (by decide +kernel), List.mem_of_getElem? (i := 228) (by decide +kernel), List.mem_of_getElem? (i := 229) (by decide +kernel)⟩
theorem lw_p5 : lw_okq (⟨"PieceShelf$Tape", "hasHead", "()Z"⟩, 4) := ⟨⟨by decide +kernel, by decide +kernel⟩, List.mem_of_getElem? (i := 27) (by decide +kernel), List.mem_of_getElem? (i := 292) (by decide +kernel), List.mem_of_getElem? (i := 293) (by decide +kernel)⟩
theorem lw_p6 : lw_okq (⟨"PieceShelf$Tape", "signAt", "(I)I"⟩, 4) := ⟨⟨by decide +kernel, by decide +kernel⟩, List.mem_of_getElem? (i := 27) (by decide +kernel), List.mem_of_getElem? (i := 307) (by decide +kernel), List.mem_of_getElem? (i := 308) (by decide +kernel)⟩
theorem lw_p7 : lw_okq (⟨"PieceShelf$Tape", "readPart", "(II)I"⟩, 4) := ⟨⟨by decide +kernel, by decide +kernel⟩, List.mem_of_getElem? (i := 27) (by decide +kernel), List.mem_of_getElem? (i := 349) (by decide +kernel), List.mem_of_getElem? (i := 350) (by decide +kernel)⟩
theorem lw_p8 : lw_okq (⟨"PieceShelf$Tape", "endOfDigits", "(I)I"⟩, 4) := ⟨⟨by decide +kernel, by decide +kernel⟩, List.mem_of_getElem? (i := 27) (by decide +kernel), List.mem_of_getElem? (i := 353) (by decide +kernel), List.mem_of_getElem? (i := 354) (by decide +kernel)⟩
theorem lw_p9 : lw_okq (⟨"PieceShelf$Tape", "numberIn", "(II)I"⟩, 4) := ⟨⟨by decide +kernel, by decide +kernel⟩, List.mem_of_getElem? (i := 27) (by decide +kernel), List.mem_of_getElem? (i := 357) (by decide +kernel), List.mem_of_getElem? (i := 358) (by decide +kernel)⟩
theorem lw_p10 : lw_okq (⟨"java/lang/Throwable", "fillInStackTrace", "(I)Ljava/lang/Throwable;"⟩, 6) := ⟨⟨by decide +kernel, by decide +kernel⟩, List.mem_of_getElem? (i := 402) (by decide +kernel), List.mem_of_getElem? (i := 400) (by decide +kernel), List.mem_of_getElem? (i := 401) (by decide +kernel)⟩
theorem lw_p11 : lw_okq (⟨"PieceShelf", "fill", "(LPieceShelf$Thing;I)I"⟩, 6) := ⟨⟨by decide +kernel, by decide +kernel⟩, List.mem_of_getElem? (i := 19) (by decide +kernel), List.mem_of_getElem? (i := 437) (by decide +kernel), List.mem_of_getElem? (i := 438) (by decide +kernel)⟩
theorem lw_p12 : lw_okq (⟨"PieceShelf$Reply", "joinRows", "()V"⟩, 12) := ⟨⟨by decide +kernel, by decide +kernel⟩, List.mem_of_getElem? (i := 81) (by decide +kernel), List.mem_of_getElem? (i := 460) (by decide +kernel), List.mem_of_getElem? (i := 461) (by decide +kernel)⟩
theorem lw_p13 : lw_okq (⟨"PieceShelf$Reply", "plan", "(I)V"⟩, 12) := ⟨⟨by decide +kernel, by decide +kernel⟩, List.mem_of_getElem? (i := 81) (by decide +kernel), List.mem_of_getElem? (i := 470) (by decide +kernel), List.mem_of_getElem? (i := 471) (by decide +kernel)⟩
theorem lw_p14 : lw_okq (⟨"PieceShelf$Reply", "lastOfFetch", "(II)I"⟩, 12) := ⟨⟨by decide +kernel, by decide +kernel⟩, List.mem_of_getElem? (i := 81) (by decide +kernel), List.mem_of_getElem? (i := 474) (by decide +kernel), List.mem_of_getElem? (i := 475) (by decide +kernel)⟩
theorem lw_p15 : lw_okq (⟨"PieceShelfModel", "empty", "(I)V"⟩, 26) := ⟨⟨by decide +kernel, by decide +kernel⟩, List.mem_of_getElem? (i := 514) (by decide +kernel), List.mem_of_getElem? (i := 616) (by decide +kernel), List.mem_of_getElem? (i := 617) (by decide +kernel)⟩
def lw_privs_1 : List (MethodName × Nat) := [(⟨"PieceShelf", "find", "(I)LPieceShelf$Thing;"⟩, 6), (⟨"PieceShelf", "noteUse", "(LPieceShelf$Thing;)V"⟩, 6), (⟨"PieceShelf", "makeRoom", "()V"⟩, 6), (⟨"PieceShelf", "keptInAll", "()I"⟩, 6), (⟨"PieceShelf", "longestUnused", "()LPieceShelf$Thing;"⟩, 6), (⟨"PieceShelf$Tape", "hasHead", "()Z"⟩, 4), (⟨"PieceShelf$Tape", "signAt", "(I)I"⟩, 4), (⟨"PieceShelf$Tape", "readPart", "(II)I"⟩, 4), (⟨"PieceShelf$Tape", "endOfDigits", "(I)I"⟩, 4), (⟨"PieceShelf$Tape", "numberIn", "(II)I"⟩, 4), (⟨"java/lang/Throwable", "fillInStackTrace", "(I)Ljava/lang/Throwable;"⟩, 6), (⟨"PieceShelf", "fill", "(LPieceShelf$Thing;I)I"⟩, 6), (⟨"PieceShelf$Reply", "joinRows", "()V"⟩, 12), (⟨"PieceShelf$Reply", "plan", "(I)V"⟩, 12), (⟨"PieceShelf$Reply", "lastOfFetch", "(II)I"⟩, 12), (⟨"PieceShelfModel", "empty", "(I)V"⟩, 26)]
theorem lw_r1 : ∀ q ∈ lw_privs_1, lw_okq q := List.forall_mem_cons.mpr ⟨lw_p0, List.forall_mem_cons.mpr ⟨lw_p1, List.forall_mem_cons.mpr ⟨lw_p2, List.forall_mem_cons.mpr ⟨lw_p3, List.forall_mem_cons.mpr ⟨lw_p4, List.forall_mem_cons.mpr ⟨lw_p5, List.forall_mem_cons.mpr ⟨lw_p6, List.forall_mem_cons.mpr ⟨lw_p7, List.forall_mem_cons.mpr ⟨lw_p8, List.forall_mem_cons.mpr ⟨lw_p9, List.forall_mem_cons.mpr ⟨lw_p10, List.forall_mem_cons.mpr ⟨lw_p11, List.forall_mem_cons.mpr ⟨lw_p12, List.forall_mem_cons.mpr ⟨lw_p13, List.forall_mem_cons.mpr ⟨lw_p14, List.forall_mem_cons.mpr ⟨lw_p15, fun _ h => absurd h List.not_mem_nil⟩⟩⟩⟩⟩⟩⟩⟩⟩⟩⟩⟩⟩⟩⟩⟩
theorem lw_p16 : lw_okq (⟨"PieceShelfModel", "isKnown", "(I)Z"⟩, 26) := ⟨⟨by decide +kernel, by decide +kernel⟩, List.mem_of_getElem? (i := 514) (by decide +kernel), List.mem_of_getElem? (i := 628) (by decide +kernel), List.mem_of_getElem? (i := 629) (by decide +kernel)⟩
theorem lw_p17 : lw_okq (⟨"PieceShelfModel", "use", "(I)V"⟩, 26) := ⟨⟨by decide +kernel, by decide +kernel⟩, List.mem_of_getElem? (i := 514) (by decide +kernel), List.mem_of_getElem? (i := 632) (by decide +kernel), List.mem_of_getElem? (i := 633) (by decide +kernel)⟩
theorem lw_p18 : lw_okq (⟨"PieceShelfModel", "clean", "()V"⟩, 26) := ⟨⟨by decide +kernel, by decide +kernel⟩, List.mem_of_getElem? (i := 514) (by decide +kernel), List.mem_of_getElem? (i := 636) (by decide +kernel), List.mem_of_getElem? (i := 637) (by decide +kernel)⟩
theorem lw_p19 : lw_okq (⟨"PieceShelfModel", "heldOf", "(I)I"⟩, 26) := ⟨⟨by decide +kernel, by decide +kernel⟩, List.mem_of_getElem? (i := 514) (by decide +kernel), List.mem_of_getElem? (i := 640) (by decide +kernel), List.mem_of_getElem? (i := 641) (by decide +kernel)⟩
theorem lw_p20 : lw_okq (⟨"PieceShelfModel", "raise", "(I)I"⟩, 26) := ⟨⟨by decide +kernel, by decide +kernel⟩, List.mem_of_getElem? (i := 514) (by decide +kernel), List.mem_of_getElem? (i := 652) (by decide +kernel), List.mem_of_getElem? (i := 653) (by decide +kernel)⟩
theorem lw_p21 : lw_okq (⟨"PieceShelfModel", "isText", "(I)Z"⟩, 26) := ⟨⟨by decide +kernel, by decide +kernel⟩, List.mem_of_getElem? (i := 514) (by decide +kernel), List.mem_of_getElem? (i := 656) (by decide +kernel), List.mem_of_getElem? (i := 657) (by decide +kernel)⟩
theorem lw_p22 : lw_okq (⟨"PieceShelfModel", "see", "(I)I"⟩, 26) := ⟨⟨by decide +kernel, by decide +kernel⟩, List.mem_of_getElem? (i := 514) (by decide +kernel), List.mem_of_getElem? (i := 660) (by decide +kernel), List.mem_of_getElem? (i := 661) (by decide +kernel)⟩
theorem lw_p23 : lw_okq (⟨"PieceShelfModel", "part", "(I)Z"⟩, 26) := ⟨⟨by decide +kernel, by decide +kernel⟩, List.mem_of_getElem? (i := 514) (by decide +kernel), List.mem_of_getElem? (i := 667) (by decide +kernel), List.mem_of_getElem? (i := 668) (by decide +kernel)⟩
theorem lw_p24 : lw_okq (⟨"PieceShelfModel", "number", "()I"⟩, 26) := ⟨⟨by decide +kernel, by decide +kernel⟩, List.mem_of_getElem? (i := 514) (by decide +kernel), List.mem_of_getElem? (i := 671) (by decide +kernel), List.mem_of_getElem? (i := 672) (by decide +kernel)⟩
theorem lw_p25 : lw_okq (⟨"PieceShelfModel", "addRow", "(II)V"⟩, 26) := ⟨⟨by decide +kernel, by decide +kernel⟩, List.mem_of_getElem? (i := 514) (by decide +kernel), List.mem_of_getElem? (i := 678) (by decide +kernel), List.mem_of_getElem? (i := 679) (by decide +kernel)⟩
theorem lw_p26 : lw_okq (⟨"PieceShelfModel", "unite", "()V"⟩, 26) := ⟨⟨by decide +kernel, by decide +kernel⟩, List.mem_of_getElem? (i := 514) (by decide +kernel), List.mem_of_getElem? (i := 682) (by decide +kernel), List.mem_of_getElem? (i := 683) (by decide +kernel)⟩
theorem lw_p27 : lw_okq (⟨"PieceShelfModel", "isAsTold", "()Z"⟩, 26) := ⟨⟨by decide +kernel, by decide +kernel⟩, List.mem_of_getElem? (i := 514) (by decide +kernel), List.mem_of_getElem? (i := 686) (by decide +kernel), List.mem_of_getElem? (i := 687) (by decide +kernel)⟩
theorem lw_p28 : lw_okq (⟨"PieceShelfModel", "spans", "()V"⟩, 26) := ⟨⟨by decide +kernel, by decide +kernel⟩, List.mem_of_getElem? (i := 514) (by decide +kernel), List.mem_of_getElem? (i := 690) (by decide +kernel), List.mem_of_getElem? (i := 691) (by decide +kernel)⟩
theorem lw_p29 : lw_okq (⟨"PieceShelfModel", "plan", "(I)V"⟩, 26) := ⟨⟨by decide +kernel, by decide +kernel⟩, List.mem_of_getElem? (i := 514) (by decide +kernel), List.mem_of_getElem? (i := 694) (by decide +kernel), List.mem_of_getElem? (i := 695) (by decide +kernel)⟩
theorem lw_p30 : lw_okq (⟨"PieceShelfModel", "spansOf", "(I)I"⟩, 26) := ⟨⟨by decide +kernel, by decide +kernel⟩, List.mem_of_getElem? (i := 514) (by decide +kernel), List.mem_of_getElem? (i := 714) (by decide +kernel), List.mem_of_getElem? (i := 715) (by decide +kernel)⟩
theorem lw_p31 : lw_okq (⟨"PieceShelfModel", "firstGap", "(I)I"⟩, 26) := ⟨⟨by decide +kernel, by decide +kernel⟩, List.mem_of_getElem? (i := 514) (by decide +kernel), List.mem_of_getElem? (i := 718) (by decide +kernel), List.mem_of_getElem? (i := 719) (by decide +kernel)⟩
def lw_privs_2 : List (MethodName × Nat) := [(⟨"PieceShelfModel", "isKnown", "(I)Z"⟩, 26), (⟨"PieceShelfModel", "use", "(I)V"⟩, 26), (⟨"PieceShelfModel", "clean", "()V"⟩, 26), (⟨"PieceShelfModel", "heldOf", "(I)I"⟩, 26), (⟨"PieceShelfModel", "raise", "(I)I"⟩, 26), (⟨"PieceShelfModel", "isText", "(I)Z"⟩, 26), (⟨"PieceShelfModel", "see", "(I)I"⟩, 26), (⟨"PieceShelfModel", "part", "(I)Z"⟩, 26), (⟨"PieceShelfModel", "number", "()I"⟩, 26), (⟨"PieceShelfModel", "addRow", "(II)V"⟩, 26), (⟨"PieceShelfModel", "unite", "()V"⟩, 26), (⟨"PieceShelfModel", "isAsTold", "()Z"⟩, 26), (⟨"PieceShelfModel", "spans", "()V"⟩, 26), (⟨"PieceShelfModel", "plan", "(I)V"⟩, 26), (⟨"PieceShelfModel", "spansOf", "(I)I"⟩, 26), (⟨"PieceShelfModel", "firstGap", "(I)I"⟩, 26)]
theorem lw_r2 : ∀ q ∈ lw_privs_2, lw_okq q := List.forall_mem_cons.mpr ⟨lw_p16, List.forall_mem_cons.mpr ⟨lw_p17, List.forall_mem_cons.mpr ⟨lw_p18, List.forall_mem_cons.mpr ⟨lw_p19, List.forall_mem_cons.mpr ⟨lw_p20, List.forall_mem_cons.mpr ⟨lw_p21, List.forall_mem_cons.mpr ⟨lw_p22, List.forall_mem_cons.mpr ⟨lw_p23, List.forall_mem_cons.mpr ⟨lw_p24, List.forall_mem_cons.mpr ⟨lw_p25, List.forall_mem_cons.mpr ⟨lw_p26, List.forall_mem_cons.mpr ⟨lw_p27, List.forall_mem_cons.mpr ⟨lw_p28, List.forall_mem_cons.mpr ⟨lw_p29, List.forall_mem_cons.mpr ⟨lw_p30, List.forall_mem_cons.mpr ⟨lw_p31, fun _ h => absurd h List.not_mem_nil⟩⟩⟩⟩⟩⟩⟩⟩⟩⟩⟩⟩⟩⟩⟩⟩
def lw_privs : List (MethodName × Nat) := lw_privs_1 ++ (lw_privs_2)
def lw_tbl : List Cond := k2_sels lw_privs ++ tables_1
theorem lw_privs_ok : ∀ q ∈ lw_privs, lw_okq q := by
  show ∀ q ∈ lw_privs_1 ++ (lw_privs_2), lw_okq q
  exact List.forall_mem_append.mpr ⟨lw_r1, lw_r2⟩
-- ===== end of PART A =====
/-- the words that every method may use -/
def ps_tb : List Cond := lw_tbl.filter goodWord
theorem ps_in {w : Cond} (i : Nat) (h : tables_1[i]? = some w) (hg : goodWord w = true) : w ∈ ps_tb := List.mem_filter.mpr ⟨List.mem_append_right _ (List.mem_of_getElem? h), hg⟩
theorem ps_inS {w : Cond} (i : Nat) (h : (k2_sels lw_privs)[i]? = some w) (hg : goodWord w = true) : w ∈ ps_tb := List.mem_filter.mpr ⟨List.mem_append_left _ (List.mem_of_getElem? h), hg⟩
theorem ps_tb_ok {w : Cond} (h : w ∈ ps_tb) : w ∈ ps_tb ∧ ((w.onTables && w.keeps) = true ∨ ∃ ty, w = .arrayClass ty) := ⟨h, good_of_word (List.mem_filter.mp h).2⟩
theorem ps_gV {own C : String} {idx : Nat} {y : MethodName} {b : ByteArray} {n : Nat} {r : Option FieldType} (h1 : Cond.methodLink own idx y ∈ ps_tb) (h2 : Cond.instanceMethod y ∈ ps_tb) (h3 : Cond.selects C y y ∈ ps_tb) (h4 : Cond.initialized C ∈ ps_tb) (h5 : Cond.code y b n r ∈ ps_tb) : GoodIn ps_tb (wsV own idx C y (Cond.code y b n r :: ps_tb)) := by
  intro w hw
  unfold wsV at hw
  simp only [List.cons_append, List.nil_append, List.mem_cons] at hw
  rcases hw with rfl | rfl | rfl | rfl | rfl | h
  · exact ps_tb_ok h1
  · exact ps_tb_ok h2
  · exact ps_tb_ok h3
  · exact ps_tb_ok h4
  · exact ps_tb_ok h5
  · exact ps_tb_ok h
theorem ps_gS {own : String} {idx : Nat} {y : MethodName} {b : ByteArray} {n : Nat} {r : Option FieldType} (h1 : Cond.methodLink own idx y ∈ ps_tb) (h2 : Cond.static y ∈ ps_tb) (h4 : Cond.initialized y.cls ∈ ps_tb) (h5 : Cond.code y b n r ∈ ps_tb) : GoodIn ps_tb (va_wsS own idx y (Cond.code y b n r :: ps_tb)) := by
  intro w hw
  unfold va_wsS at hw
  simp only [List.cons_append, List.nil_append, List.mem_cons] at hw
  rcases hw with rfl | rfl | rfl | rfl | h
  · exact ps_tb_ok h1
  · exact ps_tb_ok h2
  · exact ps_tb_ok h4
  · exact ps_tb_ok h5
  · exact ps_tb_ok h
def R_Shelf : String := "PieceShelf"
def F_Shelf : u_T := fun k => match k with
  | 0 => ("PieceShelf", "tape", "LPieceShelf$Tape;", true)
  | 1 => ("PieceShelf", "things", "[LPieceShelf$Thing;", true)
  | 2 => ("PieceShelf", "reply", "LPieceShelf$Reply;", true)
  | 3 => ("PieceShelf", "room", "I", false)
  | 4 => ("PieceShelf", "cost", "I", false)
  | _ => ("PieceShelf", "uses", "J", false)
def t_Shelf : Nat → FieldType := fun k => match k with
  | 0 => .object "PieceShelf$Tape"
  | 1 => .array (.object "PieceShelf$Thing")
  | 2 => .object "PieceShelf$Reply"
  | 3 => .int
  | 4 => .int
  | _ => .long
abbrev w_Shelf : List Cond := u_ws R_Shelf F_Shelf 6
theorem n_Shelf : ∀ a, a < 6 → ∀ b, b < 6 → a ≠ b → (F_Shelf a).2.1 ≠ (F_Shelf b).2.1 := by decide +kernel
theorem t_Shelf_ok : ∀ k, k < 6 → parseFieldDescriptor (F_Shelf k).2.2.1 = some (t_Shelf k) := by decide +kernel
theorem i_Shelf : ∀ w ∈ w_Shelf, w ∈ ps_tb := by decide +kernel
def R_Tape : String := "PieceShelf$Tape"
def F_Tape : u_T := fun k => match k with
  | 0 => ("PieceShelf$Tape", "signs", "[I", true)
  | 1 => ("PieceShelf$Tape", "size", "I", false)
  | 2 => ("PieceShelf$Tape", "before", "[I", true)
  | _ => ("PieceShelf$Tape", "behind", "[I", true)
def t_Tape : Nat → FieldType := fun k => match k with
  | 0 => .array .int
  | 1 => .int
  | 2 => .array .int
  | _ => .array .int
abbrev w_Tape : List Cond := u_ws R_Tape F_Tape 4
theorem n_Tape : ∀ a, a < 4 → ∀ b, b < 4 → a ≠ b → (F_Tape a).2.1 ≠ (F_Tape b).2.1 := by decide +kernel
theorem t_Tape_ok : ∀ k, k < 4 → parseFieldDescriptor (F_Tape k).2.2.1 = some (t_Tape k) := by decide +kernel
theorem i_Tape : ∀ w ∈ w_Tape, w ∈ ps_tb := by decide +kernel
def R_Reply : String := "PieceShelf$Reply"
def F_Reply : u_T := fun k => match k with
  | 0 => ("PieceShelf$Reply", "thing", "I", false)
  | 1 => ("PieceShelf$Reply", "rows", "I", false)
  | 2 => ("PieceShelf$Reply", "firsts", "[I", true)
  | 3 => ("PieceShelf$Reply", "lasts", "[I", true)
  | 4 => ("PieceShelf$Reply", "overlap", "Z", false)
  | 5 => ("PieceShelf$Reply", "places", "I", false)
  | 6 => ("PieceShelf$Reply", "kept", "I", false)
  | 7 => ("PieceShelf$Reply", "fetches", "I", false)
  | 8 => ("PieceShelf$Reply", "price", "I", false)
  | 9 => ("PieceShelf$Reply", "wanted", "LPieceShelf$Places;", true)
  | 10 => ("PieceShelf$Reply", "fetchFirsts", "LPieceShelf$Places;", true)
  | _ => ("PieceShelf$Reply", "fetchLasts", "LPieceShelf$Places;", true)
def t_Reply : Nat → FieldType := fun k => match k with
  | 0 => .int
  | 1 => .int
  | 2 => .array .int
  | 3 => .array .int
  | 4 => .boolean
  | 5 => .int
  | 6 => .int
  | 7 => .int
  | 8 => .int
  | 9 => .object "PieceShelf$Places"
  | 10 => .object "PieceShelf$Places"
  | _ => .object "PieceShelf$Places"
abbrev w_Reply : List Cond := u_ws R_Reply F_Reply 12
theorem n_Reply : ∀ a, a < 12 → ∀ b, b < 12 → a ≠ b → (F_Reply a).2.1 ≠ (F_Reply b).2.1 := by decide +kernel
theorem t_Reply_ok : ∀ k, k < 12 → parseFieldDescriptor (F_Reply k).2.2.1 = some (t_Reply k) := by decide +kernel
theorem i_Reply : ∀ w ∈ w_Reply, w ∈ ps_tb := by decide +kernel
def R_Thing : String := "PieceShelf$Thing"
def F_Thing : u_T := fun k => match k with
  | 0 => ("PieceShelf$Thing", "kept", "LPieceShelf$Places;", true)
  | 1 => ("PieceShelf$Thing", "length", "I", false)
  | 2 => ("PieceShelf$Thing", "tag", "I", false)
  | _ => ("PieceShelf$Thing", "used", "J", false)
def t_Thing : Nat → FieldType := fun k => match k with
  | 0 => .object "PieceShelf$Places"
  | 1 => .int
  | 2 => .int
  | _ => .long
abbrev w_Thing : List Cond := u_ws R_Thing F_Thing 4
theorem n_Thing : ∀ a, a < 4 → ∀ b, b < 4 → a ≠ b → (F_Thing a).2.1 ≠ (F_Thing b).2.1 := by decide +kernel
theorem t_Thing_ok : ∀ k, k < 4 → parseFieldDescriptor (F_Thing k).2.2.1 = some (t_Thing k) := by decide +kernel
theorem i_Thing : ∀ w ∈ w_Thing, w ∈ ps_tb := by decide +kernel
def R_Places : String := "PieceShelf$Places"
def F_Places : u_T := fun k => match k with
  | _ => ("PieceShelf$Places", "words", "[J", true)
def t_Places : Nat → FieldType := fun k => match k with
  | _ => .array .long
abbrev w_Places : List Cond := u_ws R_Places F_Places 1
theorem n_Places : ∀ a, a < 1 → ∀ b, b < 1 → a ≠ b → (F_Places a).2.1 ≠ (F_Places b).2.1 := by decide +kernel
theorem t_Places_ok : ∀ k, k < 1 → parseFieldDescriptor (F_Places k).2.2.1 = some (t_Places k) := by decide +kernel
theorem i_Places : ∀ w ∈ w_Places, w ∈ ps_tb := by decide +kernel
def R_Model : String := "PieceShelfModel"
def F_Model : u_T := fun k => match k with
  | 0 => ("PieceShelfModel", "thrown", "I", false)
  | 1 => ("PieceShelfModel", "tape", "[I", true)
  | 2 => ("PieceShelfModel", "taped", "I", false)
  | 3 => ("PieceShelfModel", "room", "I", false)
  | 4 => ("PieceShelfModel", "cost", "I", false)
  | 5 => ("PieceShelfModel", "lengths", "[I", true)
  | 6 => ("PieceShelfModel", "tags", "[I", true)
  | 7 => ("PieceShelfModel", "holds", "[Z", true)
  | 8 => ("PieceShelfModel", "uses", "[I", true)
  | 9 => ("PieceShelfModel", "clock", "I", false)
  | 10 => ("PieceShelfModel", "at", "I", false)
  | 11 => ("PieceShelfModel", "partMany", "I", false)
  | 12 => ("PieceShelfModel", "partFrom", "[I", true)
  | 13 => ("PieceShelfModel", "partTo", "[I", true)
  | 14 => ("PieceShelfModel", "kind", "I", false)
  | 15 => ("PieceShelfModel", "thing", "I", false)
  | 16 => ("PieceShelfModel", "rows", "I", false)
  | 17 => ("PieceShelfModel", "rowFrom", "[I", true)
  | 18 => ("PieceShelfModel", "rowTo", "[I", true)
  | 19 => ("PieceShelfModel", "places", "I", false)
  | 20 => ("PieceShelfModel", "heldThen", "I", false)
  | 21 => ("PieceShelfModel", "plans", "I", false)
  | 22 => ("PieceShelfModel", "planFrom", "[I", true)
  | 23 => ("PieceShelfModel", "planTo", "[I", true)
  | 24 => ("PieceShelfModel", "planCost", "I", false)
  | _ => ("PieceShelfModel", "wanted", "[Z", true)
def t_Model : Nat → FieldType := fun k => match k with
  | 0 => .int
  | 1 => .array .int
  | 2 => .int
  | 3 => .int
  | 4 => .int
  | 5 => .array .int
  | 6 => .array .int
  | 7 => .array .boolean
  | 8 => .array .int
  | 9 => .int
  | 10 => .int
  | 11 => .int
  | 12 => .array .int
  | 13 => .array .int
  | 14 => .int
  | 15 => .int
  | 16 => .int
  | 17 => .array .int
  | 18 => .array .int
  | 19 => .int
  | 20 => .int
  | 21 => .int
  | 22 => .array .int
  | 23 => .array .int
  | 24 => .int
  | _ => .array .boolean
abbrev w_Model : List Cond := u_ws R_Model F_Model 26
theorem n_Model : ∀ a, a < 26 → ∀ b, b < 26 → a ≠ b → (F_Model a).2.1 ≠ (F_Model b).2.1 := by decide +kernel
theorem t_Model_ok : ∀ k, k < 26 → parseFieldDescriptor (F_Model k).2.2.1 = some (t_Model k) := by decide +kernel
theorem i_Model : ∀ w ∈ w_Model, w ∈ ps_tb := by decide +kernel
def R_Law : String := "PieceShelfLaw"
def R_Long : String := "java/lang/Long"
def R_String : String := "java/lang/String"
def R_StringLatin1 : String := "java/lang/StringLatin1"
def R_StringUTF16 : String := "java/lang/StringUTF16"
def R_Math : String := "java/lang/Math"
def R_Preconditions : String := "jdk/internal/util/Preconditions"
abbrev ps_cl : List vw_C := [(R_Shelf, F_Shelf, 6), (R_Tape, F_Tape, 4), (R_Reply, F_Reply, 12), (R_Thing, F_Thing, 4), (R_Places, F_Places, 1)]
abbrev b_Shelf_init : ByteArray := prog_1_method_1_code
def y_Shelf_init : MethodName := ⟨R_Shelf, "<init>", "()V"⟩
abbrev b_Tape_init : ByteArray := prog_4_method_1_code
def y_Tape_init : MethodName := ⟨R_Tape, "<init>", "()V"⟩
abbrev b_Thing_init : ByteArray := prog_5_method_1_code
def y_Thing_init : MethodName := ⟨R_Thing, "<init>", "()V"⟩
abbrev b_Places_init : ByteArray := prog_2_method_1_code
def y_Places_init : MethodName := ⟨R_Places, "<init>", "()V"⟩
abbrev b_Reply_init : ByteArray := prog_3_method_1_code
def y_Reply_init : MethodName := ⟨R_Reply, "<init>", "()V"⟩
abbrev b_Shelf_type : ByteArray := prog_1_method_2_code
def y_Shelf_type : MethodName := ⟨R_Shelf, "type", "(JI)Z"⟩
abbrev b_Tape_append : ByteArray := prog_4_method_3_code
def y_Tape_append : MethodName := ⟨R_Tape, "append", "(JI)Z"⟩
abbrev b_Tape_byteOf : ByteArray := prog_4_method_7_code
def y_Tape_byteOf : MethodName := ⟨R_Tape, "byteOf", "(JI)I"⟩
abbrev b_Shelf_thing : ByteArray := prog_1_method_3_code
def y_Shelf_thing : MethodName := ⟨R_Shelf, "thing", "(III)Z"⟩
abbrev b_Shelf_find : ByteArray := prog_1_method_13_code
def y_Shelf_find : MethodName := ⟨R_Shelf, "find", "(I)LPieceShelf$Thing;"⟩
abbrev b_Thing_describe : ByteArray := prog_5_method_2_code
def y_Thing_describe : MethodName := ⟨R_Thing, "describe", "(II)V"⟩
abbrev b_Places_clear : ByteArray := prog_2_method_2_code
def y_Places_clear : MethodName := ⟨R_Places, "clear", "()V"⟩
abbrev b_Shelf_forget : ByteArray := prog_1_method_4_code
def y_Shelf_forget : MethodName := ⟨R_Shelf, "forget", "(I)Z"⟩
abbrev b_Thing_lose : ByteArray := prog_5_method_3_code
def y_Thing_lose : MethodName := ⟨R_Thing, "lose", "()V"⟩
abbrev b_Shelf_got : ByteArray := prog_1_method_5_code
def y_Shelf_got : MethodName := ⟨R_Shelf, "got", "(IIII)I"⟩
abbrev b_Thing_accepts : ByteArray := prog_5_method_4_code
def y_Thing_accepts : MethodName := ⟨R_Thing, "accepts", "(III)Z"⟩
abbrev b_Places_add : ByteArray := prog_2_method_4_code
def y_Places_add : MethodName := ⟨R_Places, "add", "(II)I"⟩
abbrev b_Math_max : ByteArray := prog_11_method_65_code
def y_Math_max : MethodName := ⟨R_Math, "max", "(II)I"⟩
abbrev b_Math_min : ByteArray := prog_11_method_69_code
def y_Math_min : MethodName := ⟨R_Math, "min", "(II)I"⟩
abbrev b_Long_bitCount : ByteArray := prog_10_method_50_code
def y_Long_bitCount : MethodName := ⟨R_Long, "bitCount", "(J)I"⟩
abbrev b_Shelf_noteUse : ByteArray := prog_1_method_15_code
def y_Shelf_noteUse : MethodName := ⟨R_Shelf, "noteUse", "(LPieceShelf$Thing;)V"⟩
abbrev b_Shelf_makeRoom : ByteArray := prog_1_method_16_code
def y_Shelf_makeRoom : MethodName := ⟨R_Shelf, "makeRoom", "()V"⟩
abbrev b_Shelf_keptInAll : ByteArray := prog_1_method_17_code
def y_Shelf_keptInAll : MethodName := ⟨R_Shelf, "keptInAll", "()I"⟩
abbrev b_Places_size : ByteArray := prog_2_method_7_code
def y_Places_size : MethodName := ⟨R_Places, "size", "()I"⟩
abbrev b_Shelf_longestUnused : ByteArray := prog_1_method_18_code
def y_Shelf_longestUnused : MethodName := ⟨R_Shelf, "longestUnused", "()LPieceShelf$Thing;"⟩
abbrev b_Places_isEmpty : ByteArray := prog_2_method_8_code
def y_Places_isEmpty : MethodName := ⟨R_Places, "isEmpty", "()Z"⟩
abbrev b_Places_next : ByteArray := prog_2_method_10_code
def y_Places_next : MethodName := ⟨R_Places, "next", "(IZ)I"⟩
abbrev b_Places_lowest : ByteArray := prog_2_method_12_code
def y_Places_lowest : MethodName := ⟨R_Places, "lowest", "(J)I"⟩
abbrev b_Places_dropLast : ByteArray := prog_2_method_6_code
def y_Places_dropLast : MethodName := ⟨R_Places, "dropLast", "(I)I"⟩
abbrev b_Shelf_told : ByteArray := prog_1_method_7_code
def y_Shelf_told : MethodName := ⟨R_Shelf, "told", "(I)I"⟩
abbrev b_Reply_number : ByteArray := prog_3_method_5_code
def y_Reply_number : MethodName := ⟨R_Reply, "number", "(I)I"⟩
abbrev b_Shelf_set : ByteArray := prog_1_method_10_code
def y_Shelf_set : MethodName := ⟨R_Shelf, "set", "(II)Z"⟩
abbrev b_Shelf_about : ByteArray := prog_1_method_11_code
def y_Shelf_about : MethodName := ⟨R_Shelf, "about", "(II)I"⟩
abbrev b_Places_spans : ByteArray := prog_2_method_9_code
def y_Places_spans : MethodName := ⟨R_Places, "spans", "()I"⟩
abbrev b_Thing_firstMissing : ByteArray := prog_5_method_5_code
def y_Thing_firstMissing : MethodName := ⟨R_Thing, "firstMissing", "()I"⟩
abbrev b_Shelf_held : ByteArray := prog_1_method_12_code
def y_Shelf_held : MethodName := ⟨R_Shelf, "held", "(II)Z"⟩
abbrev b_Places_has : ByteArray := prog_2_method_3_code
def y_Places_has : MethodName := ⟨R_Places, "has", "(I)Z"⟩
abbrev b_Law_answer : ByteArray := method_3_code
def y_Law_answer : MethodName := ⟨R_Law, "answer", "(LPieceShelf;I[J)I"⟩
abbrev b_Shelf_answer : ByteArray := prog_1_method_6_code
def y_Shelf_answer : MethodName := ⟨R_Shelf, "answer", "(I)I"⟩
abbrev b_Tape_readParts : ByteArray := prog_4_method_4_code
def y_Tape_readParts : MethodName := ⟨R_Tape, "readParts", "()I"⟩
abbrev b_Tape_hasHead : ByteArray := prog_4_method_9_code
def y_Tape_hasHead : MethodName := ⟨R_Tape, "hasHead", "()Z"⟩
abbrev b_String_length : ByteArray := prog_13_method_54_code
def y_String_length : MethodName := ⟨R_String, "length", "()I"⟩
abbrev b_String_coder : ByteArray := prog_13_method_152_code
def y_String_coder : MethodName := ⟨R_String, "coder", "()B"⟩
abbrev b_Tape_signAt : ByteArray := prog_4_method_8_code
def y_Tape_signAt : MethodName := ⟨R_Tape, "signAt", "(I)I"⟩
abbrev b_String_charAt : ByteArray := prog_13_method_56_code
def y_String_charAt : MethodName := ⟨R_String, "charAt", "(I)C"⟩
abbrev b_String_isLatin1 : ByteArray := prog_13_method_154_code
def y_String_isLatin1 : MethodName := ⟨R_String, "isLatin1", "()Z"⟩
abbrev b_StringLatin1_charAt : ByteArray := prog_14_method_2_code
def y_StringLatin1_charAt : MethodName := ⟨R_StringLatin1, "charAt", "([BI)C"⟩
abbrev b_String_checkIndex : ByteArray := prog_13_method_155_code
def y_String_checkIndex : MethodName := ⟨R_String, "checkIndex", "(II)V"⟩
abbrev b_Preconditions_checkIndex : ByteArray := prog_18_method_11_code
def y_Preconditions_checkIndex : MethodName := ⟨R_Preconditions, "checkIndex", "(IILjava/util/function/BiFunction;)I"⟩
abbrev b_StringUTF16_charAt : ByteArray := prog_15_method_83_code
def y_StringUTF16_charAt : MethodName := ⟨R_StringUTF16, "charAt", "([BI)C"⟩
abbrev b_StringUTF16_checkIndex : ByteArray := prog_15_method_91_code
def y_StringUTF16_checkIndex : MethodName := ⟨R_StringUTF16, "checkIndex", "(I[B)V"⟩
abbrev b_StringUTF16_length : ByteArray := prog_15_method_6_code
def y_StringUTF16_length : MethodName := ⟨R_StringUTF16, "length", "([B)I"⟩
abbrev b_StringUTF16_getChar : ByteArray := prog_15_method_5_code
def y_StringUTF16_getChar : MethodName := ⟨R_StringUTF16, "getChar", "([BI)C"⟩
abbrev b_Tape_readPart : ByteArray := prog_4_method_10_code
def y_Tape_readPart : MethodName := ⟨R_Tape, "readPart", "(II)I"⟩
abbrev b_Tape_endOfDigits : ByteArray := prog_4_method_11_code
def y_Tape_endOfDigits : MethodName := ⟨R_Tape, "endOfDigits", "(I)I"⟩
abbrev b_Tape_numberIn : ByteArray := prog_4_method_12_code
def y_Tape_numberIn : MethodName := ⟨R_Tape, "numberIn", "(II)I"⟩
abbrev b_Tape_clear : ByteArray := prog_4_method_2_code
def y_Tape_clear : MethodName := ⟨R_Tape, "clear", "()V"⟩
abbrev b_Reply_begin : ByteArray := prog_3_method_2_code
def y_Reply_begin : MethodName := ⟨R_Reply, "begin", "(I)V"⟩
abbrev b_Shelf_fill : ByteArray := prog_1_method_14_code
def y_Shelf_fill : MethodName := ⟨R_Shelf, "fill", "(LPieceShelf$Thing;I)I"⟩
abbrev b_Reply_addRow : ByteArray := prog_3_method_3_code
def y_Reply_addRow : MethodName := ⟨R_Reply, "addRow", "(II)V"⟩
abbrev b_Tape_firstPlace : ByteArray := prog_4_method_5_code
def y_Tape_firstPlace : MethodName := ⟨R_Tape, "firstPlace", "(II)I"⟩
abbrev b_Tape_lastPlace : ByteArray := prog_4_method_6_code
def y_Tape_lastPlace : MethodName := ⟨R_Tape, "lastPlace", "(II)I"⟩
abbrev b_Reply_finish : ByteArray := prog_3_method_4_code
def y_Reply_finish : MethodName := ⟨R_Reply, "finish", "(LPieceShelf$Places;I)V"⟩
abbrev b_Reply_joinRows : ByteArray := prog_3_method_6_code
def y_Reply_joinRows : MethodName := ⟨R_Reply, "joinRows", "()V"⟩
abbrev b_Places_removeAll : ByteArray := prog_2_method_5_code
def y_Places_removeAll : MethodName := ⟨R_Places, "removeAll", "(LPieceShelf$Places;)V"⟩
abbrev b_Reply_plan : ByteArray := prog_3_method_7_code
def y_Reply_plan : MethodName := ⟨R_Reply, "plan", "(I)V"⟩
abbrev b_Reply_lastOfFetch : ByteArray := prog_3_method_8_code
def y_Reply_lastOfFetch : MethodName := ⟨R_Reply, "lastOfFetch", "(II)I"⟩
abbrev b_Law_row : ByteArray := method_4_code
def y_Law_row : MethodName := ⟨R_Law, "row", "(LPieceShelf;IZ[J)I"⟩
abbrev b_Shelf_row : ByteArray := prog_1_method_8_code
def y_Shelf_row : MethodName := ⟨R_Shelf, "row", "(IZ)I"⟩
abbrev b_Law_fetch : ByteArray := method_5_code
def y_Law_fetch : MethodName := ⟨R_Law, "fetch", "(LPieceShelf;IZ[J)I"⟩
abbrev b_Shelf_fetch : ByteArray := prog_1_method_9_code
def y_Shelf_fetch : MethodName := ⟨R_Shelf, "fetch", "(IZ)I"⟩
abbrev b_Places_nth : ByteArray := prog_2_method_11_code
def y_Places_nth : MethodName := ⟨R_Places, "nth", "(I)I"⟩
abbrev b_Model_init : ByteArray := prog_7_method_1_code
def y_Model_init : MethodName := ⟨R_Model, "<init>", "()V"⟩
abbrev b_Model_thrown : ByteArray := prog_7_method_2_code
def y_Model_thrown : MethodName := ⟨R_Model, "thrown", "()I"⟩
abbrev b_Model_type : ByteArray := prog_7_method_6_code
def y_Model_type : MethodName := ⟨R_Model, "type", "(JI)Z"⟩
abbrev b_Model_thing : ByteArray := prog_7_method_8_code
def y_Model_thing : MethodName := ⟨R_Model, "thing", "(III)Z"⟩
abbrev b_Model_isThing : ByteArray := prog_7_method_4_code
def y_Model_isThing : MethodName := ⟨R_Model, "isThing", "(I)Z"⟩
abbrev b_Model_empty : ByteArray := prog_7_method_7_code
def y_Model_empty : MethodName := ⟨R_Model, "empty", "(I)V"⟩
abbrev b_Model_forget : ByteArray := prog_7_method_9_code
def y_Model_forget : MethodName := ⟨R_Model, "forget", "(I)Z"⟩
abbrev b_Model_got : ByteArray := prog_7_method_13_code
def y_Model_got : MethodName := ⟨R_Model, "got", "(IIII)I"⟩
abbrev b_Model_isKnown : ByteArray := prog_7_method_5_code
def y_Model_isKnown : MethodName := ⟨R_Model, "isKnown", "(I)Z"⟩
abbrev b_Model_use : ByteArray := prog_7_method_11_code
def y_Model_use : MethodName := ⟨R_Model, "use", "(I)V"⟩
abbrev b_Model_clean : ByteArray := prog_7_method_12_code
def y_Model_clean : MethodName := ⟨R_Model, "clean", "()V"⟩
abbrev b_Model_heldOf : ByteArray := prog_7_method_10_code
def y_Model_heldOf : MethodName := ⟨R_Model, "heldOf", "(I)I"⟩
abbrev b_Model_set : ByteArray := prog_7_method_14_code
def y_Model_set : MethodName := ⟨R_Model, "set", "(II)Z"⟩
abbrev b_Model_answer : ByteArray := prog_7_method_26_code
def y_Model_answer : MethodName := ⟨R_Model, "answer", "(I)I"⟩
abbrev b_Model_raise : ByteArray := prog_7_method_3_code
def y_Model_raise : MethodName := ⟨R_Model, "raise", "(I)I"⟩
abbrev b_Model_isText : ByteArray := prog_7_method_20_code
def y_Model_isText : MethodName := ⟨R_Model, "isText", "(I)Z"⟩
abbrev b_Model_see : ByteArray := prog_7_method_15_code
def y_Model_see : MethodName := ⟨R_Model, "see", "(I)I"⟩
abbrev b_Model_prefix : ByteArray := prog_7_method_19_code
def y_Model_prefix : MethodName := ⟨R_Model, "prefix", "(I)I"⟩
abbrev b_Model_part : ByteArray := prog_7_method_18_code
def y_Model_part : MethodName := ⟨R_Model, "part", "(I)Z"⟩
abbrev b_Model_number : ByteArray := prog_7_method_17_code
def y_Model_number : MethodName := ⟨R_Model, "number", "()I"⟩
abbrev b_Model_isDigit : ByteArray := prog_7_method_16_code
def y_Model_isDigit : MethodName := ⟨R_Model, "isDigit", "(I)Z"⟩
abbrev b_Model_addRow : ByteArray := prog_7_method_21_code
def y_Model_addRow : MethodName := ⟨R_Model, "addRow", "(II)V"⟩
abbrev b_Model_unite : ByteArray := prog_7_method_22_code
def y_Model_unite : MethodName := ⟨R_Model, "unite", "()V"⟩
abbrev b_Model_isAsTold : ByteArray := prog_7_method_23_code
def y_Model_isAsTold : MethodName := ⟨R_Model, "isAsTold", "()Z"⟩
abbrev b_Model_spans : ByteArray := prog_7_method_24_code
def y_Model_spans : MethodName := ⟨R_Model, "spans", "()V"⟩
abbrev b_Model_plan : ByteArray := prog_7_method_25_code
def y_Model_plan : MethodName := ⟨R_Model, "plan", "(I)V"⟩
abbrev b_Model_told : ByteArray := prog_7_method_27_code
def y_Model_told : MethodName := ⟨R_Model, "told", "(I)I"⟩
abbrev b_Model_row : ByteArray := prog_7_method_28_code
def y_Model_row : MethodName := ⟨R_Model, "row", "(IZ)I"⟩
abbrev b_Model_fetch : ByteArray := prog_7_method_29_code
def y_Model_fetch : MethodName := ⟨R_Model, "fetch", "(IZ)I"⟩
abbrev b_Model_about : ByteArray := prog_7_method_32_code
def y_Model_about : MethodName := ⟨R_Model, "about", "(II)I"⟩
abbrev b_Model_spansOf : ByteArray := prog_7_method_30_code
def y_Model_spansOf : MethodName := ⟨R_Model, "spansOf", "(I)I"⟩
abbrev b_Model_firstGap : ByteArray := prog_7_method_31_code
def y_Model_firstGap : MethodName := ⟨R_Model, "firstGap", "(I)I"⟩
abbrev b_Model_held : ByteArray := prog_7_method_33_code
def y_Model_held : MethodName := ⟨R_Model, "held", "(II)Z"⟩
abbrev b_Law_law : ByteArray := code
