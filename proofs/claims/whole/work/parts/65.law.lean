theorem cl_Law_28 : (.constantLong R_Law 28 (4294967295) : Cond) ∈ ps_tb := ps_in 725 (by decide +kernel) rfl
theorem ml_Law_30 : (.methodLink R_Law 30 y_Shelf_type : Cond) ∈ ps_tb := ps_in 150 (by decide +kernel) rfl
theorem co_Shelf_type : (.code y_Shelf_type b_Shelf_type 4 (some .boolean) : Cond) ∈ ps_tb := ps_in 153 (by decide +kernel) rfl
theorem im_Shelf_type : (.instanceMethod y_Shelf_type : Cond) ∈ ps_tb := ps_in 151 (by decide +kernel) rfl
theorem se_Shelf_type : (.selects R_Shelf y_Shelf_type y_Shelf_type : Cond) ∈ ps_tb := ps_in 152 (by decide +kernel) rfl
theorem ml_Law_34 : (.methodLink R_Law 34 y_Model_type : Cond) ∈ ps_tb := ps_in 603 (by decide +kernel) rfl
theorem co_Model_type : (.code y_Model_type b_Model_type 6 (some .boolean) : Cond) ∈ ps_tb := ps_in 606 (by decide +kernel) rfl
theorem im_Model_type : (.instanceMethod y_Model_type : Cond) ∈ ps_tb := ps_in 604 (by decide +kernel) rfl
theorem se_Model_type : (.selects R_Model y_Model_type y_Model_type : Cond) ∈ ps_tb := ps_in 605 (by decide +kernel) rfl
theorem ml_Law_35 : (.methodLink R_Law 35 y_Shelf_thing : Cond) ∈ ps_tb := ps_in 162 (by decide +kernel) rfl
theorem co_Shelf_thing : (.code y_Shelf_thing b_Shelf_thing 5 (some .boolean) : Cond) ∈ ps_tb := ps_in 165 (by decide +kernel) rfl
theorem im_Shelf_thing : (.instanceMethod y_Shelf_thing : Cond) ∈ ps_tb := ps_in 163 (by decide +kernel) rfl
theorem se_Shelf_thing : (.selects R_Shelf y_Shelf_thing y_Shelf_thing : Cond) ∈ ps_tb := ps_in 164 (by decide +kernel) rfl
theorem ml_Law_39 : (.methodLink R_Law 39 y_Model_thing : Cond) ∈ ps_tb := ps_in 608 (by decide +kernel) rfl
theorem co_Model_thing : (.code y_Model_thing b_Model_thing 4 (some .boolean) : Cond) ∈ ps_tb := ps_in 611 (by decide +kernel) rfl
theorem im_Model_thing : (.instanceMethod y_Model_thing : Cond) ∈ ps_tb := ps_in 609 (by decide +kernel) rfl
theorem se_Model_thing : (.selects R_Model y_Model_thing y_Model_thing : Cond) ∈ ps_tb := ps_in 610 (by decide +kernel) rfl
theorem ml_Law_40 : (.methodLink R_Law 40 y_Shelf_forget : Cond) ∈ ps_tb := ps_in 178 (by decide +kernel) rfl
theorem co_Shelf_forget : (.code y_Shelf_forget b_Shelf_forget 3 (some .boolean) : Cond) ∈ ps_tb := ps_in 181 (by decide +kernel) rfl
theorem im_Shelf_forget : (.instanceMethod y_Shelf_forget : Cond) ∈ ps_tb := ps_in 179 (by decide +kernel) rfl
theorem se_Shelf_forget : (.selects R_Shelf y_Shelf_forget y_Shelf_forget : Cond) ∈ ps_tb := ps_in 180 (by decide +kernel) rfl
theorem ml_Law_44 : (.methodLink R_Law 44 y_Model_forget : Cond) ∈ ps_tb := ps_in 619 (by decide +kernel) rfl
theorem co_Model_forget : (.code y_Model_forget b_Model_forget 2 (some .boolean) : Cond) ∈ ps_tb := ps_in 622 (by decide +kernel) rfl
theorem im_Model_forget : (.instanceMethod y_Model_forget : Cond) ∈ ps_tb := ps_in 620 (by decide +kernel) rfl
theorem se_Model_forget : (.selects R_Model y_Model_forget y_Model_forget : Cond) ∈ ps_tb := ps_in 621 (by decide +kernel) rfl
theorem ml_Law_45 : (.methodLink R_Law 45 y_Shelf_got : Cond) ∈ ps_tb := ps_in 186 (by decide +kernel) rfl
theorem co_Shelf_got : (.code y_Shelf_got b_Shelf_got 7 (some .int) : Cond) ∈ ps_tb := ps_in 189 (by decide +kernel) rfl
theorem im_Shelf_got : (.instanceMethod y_Shelf_got : Cond) ∈ ps_tb := ps_in 187 (by decide +kernel) rfl
theorem se_Shelf_got : (.selects R_Shelf y_Shelf_got y_Shelf_got : Cond) ∈ ps_tb := ps_in 188 (by decide +kernel) rfl
theorem ml_Law_49 : (.methodLink R_Law 49 y_Model_got : Cond) ∈ ps_tb := ps_in 623 (by decide +kernel) rfl
theorem co_Model_got : (.code y_Model_got b_Model_got 7 (some .int) : Cond) ∈ ps_tb := ps_in 626 (by decide +kernel) rfl
theorem im_Model_got : (.instanceMethod y_Model_got : Cond) ∈ ps_tb := ps_in 624 (by decide +kernel) rfl
theorem se_Model_got : (.selects R_Model y_Model_got y_Model_got : Cond) ∈ ps_tb := ps_in 625 (by decide +kernel) rfl
theorem ml_Law_60 : (.methodLink R_Law 60 y_Shelf_told : Cond) ∈ ps_tb := ps_in 246 (by decide +kernel) rfl
theorem co_Shelf_told : (.code y_Shelf_told b_Shelf_told 2 (some .int) : Cond) ∈ ps_tb := ps_in 249 (by decide +kernel) rfl
theorem im_Shelf_told : (.instanceMethod y_Shelf_told : Cond) ∈ ps_tb := ps_in 247 (by decide +kernel) rfl
theorem se_Shelf_told : (.selects R_Shelf y_Shelf_told y_Shelf_told : Cond) ∈ ps_tb := ps_in 248 (by decide +kernel) rfl
theorem ml_Law_63 : (.methodLink R_Law 63 y_Model_told : Cond) ∈ ps_tb := ps_in 697 (by decide +kernel) rfl
theorem co_Model_told : (.code y_Model_told b_Model_told 2 (some .int) : Cond) ∈ ps_tb := ps_in 700 (by decide +kernel) rfl
theorem im_Model_told : (.instanceMethod y_Model_told : Cond) ∈ ps_tb := ps_in 698 (by decide +kernel) rfl
theorem se_Model_told : (.selects R_Model y_Model_told y_Model_told : Cond) ∈ ps_tb := ps_in 699 (by decide +kernel) rfl
theorem ml_Law_71 : (.methodLink R_Law 71 y_Shelf_set : Cond) ∈ ps_tb := ps_in 254 (by decide +kernel) rfl
theorem co_Shelf_set : (.code y_Shelf_set b_Shelf_set 3 (some .boolean) : Cond) ∈ ps_tb := ps_in 257 (by decide +kernel) rfl
theorem im_Shelf_set : (.instanceMethod y_Shelf_set : Cond) ∈ ps_tb := ps_in 255 (by decide +kernel) rfl
theorem se_Shelf_set : (.selects R_Shelf y_Shelf_set y_Shelf_set : Cond) ∈ ps_tb := ps_in 256 (by decide +kernel) rfl
theorem ml_Law_75 : (.methodLink R_Law 75 y_Model_set : Cond) ∈ ps_tb := ps_in 643 (by decide +kernel) rfl
theorem co_Model_set : (.code y_Model_set b_Model_set 3 (some .boolean) : Cond) ∈ ps_tb := ps_in 646 (by decide +kernel) rfl
theorem im_Model_set : (.instanceMethod y_Model_set : Cond) ∈ ps_tb := ps_in 644 (by decide +kernel) rfl
theorem se_Model_set : (.selects R_Model y_Model_set y_Model_set : Cond) ∈ ps_tb := ps_in 645 (by decide +kernel) rfl
theorem ml_Law_76 : (.methodLink R_Law 76 y_Shelf_about : Cond) ∈ ps_tb := ps_in 258 (by decide +kernel) rfl
theorem co_Shelf_about : (.code y_Shelf_about b_Shelf_about 4 (some .int) : Cond) ∈ ps_tb := ps_in 261 (by decide +kernel) rfl
theorem im_Shelf_about : (.instanceMethod y_Shelf_about : Cond) ∈ ps_tb := ps_in 259 (by decide +kernel) rfl
theorem se_Shelf_about : (.selects R_Shelf y_Shelf_about y_Shelf_about : Cond) ∈ ps_tb := ps_in 260 (by decide +kernel) rfl
theorem ml_Law_80 : (.methodLink R_Law 80 y_Model_about : Cond) ∈ ps_tb := ps_in 709 (by decide +kernel) rfl
theorem co_Model_about : (.code y_Model_about b_Model_about 3 (some .int) : Cond) ∈ ps_tb := ps_in 712 (by decide +kernel) rfl
theorem im_Model_about : (.instanceMethod y_Model_about : Cond) ∈ ps_tb := ps_in 710 (by decide +kernel) rfl
theorem se_Model_about : (.selects R_Model y_Model_about y_Model_about : Cond) ∈ ps_tb := ps_in 711 (by decide +kernel) rfl
theorem ml_Law_81 : (.methodLink R_Law 81 y_Shelf_held : Cond) ∈ ps_tb := ps_in 271 (by decide +kernel) rfl
theorem co_Shelf_held : (.code y_Shelf_held b_Shelf_held 4 (some .boolean) : Cond) ∈ ps_tb := ps_in 274 (by decide +kernel) rfl
theorem im_Shelf_held : (.instanceMethod y_Shelf_held : Cond) ∈ ps_tb := ps_in 272 (by decide +kernel) rfl
theorem se_Shelf_held : (.selects R_Shelf y_Shelf_held y_Shelf_held : Cond) ∈ ps_tb := ps_in 273 (by decide +kernel) rfl
theorem ml_Law_84 : (.methodLink R_Law 84 y_Model_held : Cond) ∈ ps_tb := ps_in 721 (by decide +kernel) rfl
theorem co_Model_held : (.code y_Model_held b_Model_held 3 (some .boolean) : Cond) ∈ ps_tb := ps_in 724 (by decide +kernel) rfl
theorem im_Model_held : (.instanceMethod y_Model_held : Cond) ∈ ps_tb := ps_in 722 (by decide +kernel) rfl
theorem se_Model_held : (.selects R_Model y_Model_held y_Model_held : Cond) ∈ ps_tb := ps_in 723 (by decide +kernel) rfl
theorem cw_Law_answer : (.codeWith y_Law_answer b_Law_answer 4 (some .int) [(0, 9, 12, 13)] : Cond) ∈ ps_tb := ps_in 281 (by decide +kernel) rfl
theorem sw_Law_answer : (.static y_Law_answer : Cond) ∈ ps_tb := ps_in 280 (by decide +kernel) rfl
theorem in_Law : (.initialized R_Law : Cond) ∈ ps_tb := ps_in 0 (by decide +kernel) rfl
theorem ml_Law_50 : (.methodLink R_Law 50 y_Law_answer : Cond) ∈ ps_tb := ps_in 279 (by decide +kernel) rfl
theorem ml_Law_55 : (.methodLink R_Law 55 y_Model_answer : Cond) ∈ ps_tb := ps_in 647 (by decide +kernel) rfl
theorem co_Model_answer : (.code y_Model_answer b_Model_answer 5 (some .int) : Cond) ∈ ps_tb := ps_in 650 (by decide +kernel) rfl
theorem im_Model_answer : (.instanceMethod y_Model_answer : Cond) ∈ ps_tb := ps_in 648 (by decide +kernel) rfl
theorem se_Model_answer : (.selects R_Model y_Model_answer y_Model_answer : Cond) ∈ ps_tb := ps_in 649 (by decide +kernel) rfl
theorem ml_Law_56 : (.methodLink R_Law 56 y_Model_thrown : Cond) ∈ ps_tb := ps_in 599 (by decide +kernel) rfl
theorem co_Model_thrown : (.code y_Model_thrown b_Model_thrown 1 (some .int) : Cond) ∈ ps_tb := ps_in 602 (by decide +kernel) rfl
theorem im_Model_thrown : (.instanceMethod y_Model_thrown : Cond) ∈ ps_tb := ps_in 600 (by decide +kernel) rfl
theorem se_Model_thrown : (.selects R_Model y_Model_thrown y_Model_thrown : Cond) ∈ ps_tb := ps_in 601 (by decide +kernel) rfl
theorem cw_Law_row : (.codeWith y_Law_row b_Law_row 5 (some .int) [(0, 10, 13, 19)] : Cond) ∈ ps_tb := ps_in 479 (by decide +kernel) rfl
theorem sw_Law_row : (.static y_Law_row : Cond) ∈ ps_tb := ps_in 478 (by decide +kernel) rfl
theorem ml_Law_64 : (.methodLink R_Law 64 y_Law_row : Cond) ∈ ps_tb := ps_in 477 (by decide +kernel) rfl
theorem ml_Law_67 : (.methodLink R_Law 67 y_Model_row : Cond) ∈ ps_tb := ps_in 701 (by decide +kernel) rfl
theorem co_Model_row : (.code y_Model_row b_Model_row 3 (some .int) : Cond) ∈ ps_tb := ps_in 704 (by decide +kernel) rfl
theorem im_Model_row : (.instanceMethod y_Model_row : Cond) ∈ ps_tb := ps_in 702 (by decide +kernel) rfl
theorem se_Model_row : (.selects R_Model y_Model_row y_Model_row : Cond) ∈ ps_tb := ps_in 703 (by decide +kernel) rfl
theorem cw_Law_fetch : (.codeWith y_Law_fetch b_Law_fetch 5 (some .int) [(0, 10, 13, 19)] : Cond) ∈ ps_tb := ps_in 503 (by decide +kernel) rfl
theorem sw_Law_fetch : (.static y_Law_fetch : Cond) ∈ ps_tb := ps_in 502 (by decide +kernel) rfl
theorem ml_Law_68 : (.methodLink R_Law 68 y_Law_fetch : Cond) ∈ ps_tb := ps_in 501 (by decide +kernel) rfl
theorem ml_Law_70 : (.methodLink R_Law 70 y_Model_fetch : Cond) ∈ ps_tb := ps_in 705 (by decide +kernel) rfl
theorem co_Model_fetch : (.code y_Model_fetch b_Model_fetch 3 (some .int) : Cond) ∈ ps_tb := ps_in 708 (by decide +kernel) rfl
theorem im_Model_fetch : (.instanceMethod y_Model_fetch : Cond) ∈ ps_tb := ps_in 706 (by decide +kernel) rfl
theorem se_Model_fetch : (.selects R_Model y_Model_fetch y_Model_fetch : Cond) ∈ ps_tb := ps_in 707 (by decide +kernel) rfl
theorem cd_Model_about : y_Model_about.cls = R_Model ∧ y_Model_about.cls ≠ "java/lang/invoke/MethodHandle" ∧ y_Model_about.cls ≠ "java/lang/invoke/VarHandle" ∧ (parseMethodDescriptor y_Model_about.desc).map (fun d => d.parameters.length) = some 2 := by decide +kernel
theorem cd_Model_answer : y_Model_answer.cls = R_Model ∧ y_Model_answer.cls ≠ "java/lang/invoke/MethodHandle" ∧ y_Model_answer.cls ≠ "java/lang/invoke/VarHandle" ∧ (parseMethodDescriptor y_Model_answer.desc).map (fun d => d.parameters.length) = some 1 := by decide +kernel
theorem cd_Model_fetch : y_Model_fetch.cls = R_Model ∧ y_Model_fetch.cls ≠ "java/lang/invoke/MethodHandle" ∧ y_Model_fetch.cls ≠ "java/lang/invoke/VarHandle" ∧ (parseMethodDescriptor y_Model_fetch.desc).map (fun d => d.parameters.length) = some 2 := by decide +kernel
theorem cd_Model_forget : y_Model_forget.cls = R_Model ∧ y_Model_forget.cls ≠ "java/lang/invoke/MethodHandle" ∧ y_Model_forget.cls ≠ "java/lang/invoke/VarHandle" ∧ (parseMethodDescriptor y_Model_forget.desc).map (fun d => d.parameters.length) = some 1 := by decide +kernel
theorem cd_Model_got : y_Model_got.cls = R_Model ∧ y_Model_got.cls ≠ "java/lang/invoke/MethodHandle" ∧ y_Model_got.cls ≠ "java/lang/invoke/VarHandle" ∧ (parseMethodDescriptor y_Model_got.desc).map (fun d => d.parameters.length) = some 4 := by decide +kernel
theorem cd_Model_held : y_Model_held.cls = R_Model ∧ y_Model_held.cls ≠ "java/lang/invoke/MethodHandle" ∧ y_Model_held.cls ≠ "java/lang/invoke/VarHandle" ∧ (parseMethodDescriptor y_Model_held.desc).map (fun d => d.parameters.length) = some 2 := by decide +kernel
theorem cd_Model_row : y_Model_row.cls = R_Model ∧ y_Model_row.cls ≠ "java/lang/invoke/MethodHandle" ∧ y_Model_row.cls ≠ "java/lang/invoke/VarHandle" ∧ (parseMethodDescriptor y_Model_row.desc).map (fun d => d.parameters.length) = some 2 := by decide +kernel
theorem cd_Model_set : y_Model_set.cls = R_Model ∧ y_Model_set.cls ≠ "java/lang/invoke/MethodHandle" ∧ y_Model_set.cls ≠ "java/lang/invoke/VarHandle" ∧ (parseMethodDescriptor y_Model_set.desc).map (fun d => d.parameters.length) = some 2 := by decide +kernel
theorem cd_Model_thing : y_Model_thing.cls = R_Model ∧ y_Model_thing.cls ≠ "java/lang/invoke/MethodHandle" ∧ y_Model_thing.cls ≠ "java/lang/invoke/VarHandle" ∧ (parseMethodDescriptor y_Model_thing.desc).map (fun d => d.parameters.length) = some 3 := by decide +kernel
theorem cd_Model_thrown : y_Model_thrown.cls = R_Model ∧ y_Model_thrown.cls ≠ "java/lang/invoke/MethodHandle" ∧ y_Model_thrown.cls ≠ "java/lang/invoke/VarHandle" ∧ (parseMethodDescriptor y_Model_thrown.desc).map (fun d => d.parameters.length) = some 0 := by decide +kernel
theorem cd_Model_told : y_Model_told.cls = R_Model ∧ y_Model_told.cls ≠ "java/lang/invoke/MethodHandle" ∧ y_Model_told.cls ≠ "java/lang/invoke/VarHandle" ∧ (parseMethodDescriptor y_Model_told.desc).map (fun d => d.parameters.length) = some 1 := by decide +kernel
theorem cd_Model_type : y_Model_type.cls = R_Model ∧ y_Model_type.cls ≠ "java/lang/invoke/MethodHandle" ∧ y_Model_type.cls ≠ "java/lang/invoke/VarHandle" ∧ (parseMethodDescriptor y_Model_type.desc).map (fun d => d.parameters.length) = some 2 := by decide +kernel
theorem cd_Shelf_about : y_Shelf_about.cls = R_Shelf ∧ y_Shelf_about.cls ≠ "java/lang/invoke/MethodHandle" ∧ y_Shelf_about.cls ≠ "java/lang/invoke/VarHandle" ∧ (parseMethodDescriptor y_Shelf_about.desc).map (fun d => d.parameters.length) = some 2 := by decide +kernel
theorem cd_Shelf_forget : y_Shelf_forget.cls = R_Shelf ∧ y_Shelf_forget.cls ≠ "java/lang/invoke/MethodHandle" ∧ y_Shelf_forget.cls ≠ "java/lang/invoke/VarHandle" ∧ (parseMethodDescriptor y_Shelf_forget.desc).map (fun d => d.parameters.length) = some 1 := by decide +kernel
theorem cd_Shelf_got : y_Shelf_got.cls = R_Shelf ∧ y_Shelf_got.cls ≠ "java/lang/invoke/MethodHandle" ∧ y_Shelf_got.cls ≠ "java/lang/invoke/VarHandle" ∧ (parseMethodDescriptor y_Shelf_got.desc).map (fun d => d.parameters.length) = some 4 := by decide +kernel
theorem cd_Shelf_held : y_Shelf_held.cls = R_Shelf ∧ y_Shelf_held.cls ≠ "java/lang/invoke/MethodHandle" ∧ y_Shelf_held.cls ≠ "java/lang/invoke/VarHandle" ∧ (parseMethodDescriptor y_Shelf_held.desc).map (fun d => d.parameters.length) = some 2 := by decide +kernel
theorem cd_Shelf_set : y_Shelf_set.cls = R_Shelf ∧ y_Shelf_set.cls ≠ "java/lang/invoke/MethodHandle" ∧ y_Shelf_set.cls ≠ "java/lang/invoke/VarHandle" ∧ (parseMethodDescriptor y_Shelf_set.desc).map (fun d => d.parameters.length) = some 2 := by decide +kernel
theorem cd_Shelf_thing : y_Shelf_thing.cls = R_Shelf ∧ y_Shelf_thing.cls ≠ "java/lang/invoke/MethodHandle" ∧ y_Shelf_thing.cls ≠ "java/lang/invoke/VarHandle" ∧ (parseMethodDescriptor y_Shelf_thing.desc).map (fun d => d.parameters.length) = some 3 := by decide +kernel
theorem cd_Shelf_told : y_Shelf_told.cls = R_Shelf ∧ y_Shelf_told.cls ≠ "java/lang/invoke/MethodHandle" ∧ y_Shelf_told.cls ≠ "java/lang/invoke/VarHandle" ∧ (parseMethodDescriptor y_Shelf_told.desc).map (fun d => d.parameters.length) = some 1 := by decide +kernel
theorem cd_Shelf_type : y_Shelf_type.cls = R_Shelf ∧ y_Shelf_type.cls ≠ "java/lang/invoke/MethodHandle" ∧ y_Shelf_type.cls ≠ "java/lang/invoke/VarHandle" ∧ (parseMethodDescriptor y_Shelf_type.desc).map (fun d => d.parameters.length) = some 2 := by decide +kernel
set_option maxHeartbeats 4000000 in
theorem pw_b_type {p : Program} {l : Launch} {e : Env} {s : State} {m : MethodId} {args : Array Value} {below : List Frame} {meth : Method} {c : Code} {H : Heap} {locs : List Loc} {cells slots : Nat} {Q : State → Prop} {ls : Array Slot} {D : va_G} {cI cJ cT : ClassId} {D2 : va_G} {cI2 cZ : ClassId} {g gm : Nat → Nat} {ao b L k : Nat} {xs : Nat → Int32} {aK aV : Nat} {vo : Option Nat} {m1 m2 m3 : Nat} {σ : ps_σ} {τ : pm_τ} {f : Nat → Int64} (F : pw_F p l s m args c D cI cJ cT D2 cI2 cZ g gm ao b L xs aK aV vo m1 m2 m3) (V : pw_V s D cI cJ cT D2 cI2 cZ g gm ao H locs σ τ f) (hR : pl_R σ τ k) (hk5 : 5 * k + 5 ≤ L) (hf : cells + 1 ≤ room_1.cells ∧ slots + 6 ≤ room_1.slots) (hl : lv_has ls 7 (pw_lv b g gm ao k)) (ih : ∀ (u : ps_σ) (v : pm_τ) (o : Nat → Int64) (H : Heap) (locs : List Loc) (ls : Array Slot), pw_V s D cI cJ cT D2 cI2 cZ g gm ao H locs u v o → pl_R u v (k + 1) → lv_has ls 7 (pw_lv b g gm ao k) → W p l e room_1 s m args below meth c H locs (cells + 1) (slots + 6) Q (F0 m 660 ls [])) : W p l e room_1 s m args below meth c H locs cells slots Q (F0 m 96 ls []) := by
  have hF := F
  obtain ⟨⟨hx, hb, hml, hown, hT⟩, -, ⟨-, -, hL⟩, ⟨hg, hgm, hd1, hd2, hd3⟩, -, hst, -⟩ := hF
  have hR0 := hR
  obtain ⟨⟨n, hn60, hn1, hn2, hsg⟩, ⟨⟨rm, hrm, hrm1, hrm2⟩, cc, hcc, hco1, hco2⟩, hLL, -, ⟨U, k9, hk9, hu0, hu9, hU⟩, -⟩ := hR0
  have hln2 : ∀ t, t < 6 → τ.2.1 2 t = -1 ∨ ∃ z : Nat, z ≤ 4095 ∧ τ.2.1 2 t = nI z := fun t ht => (hLL t ht).2.2
  have hln1 : ∀ t, t < 6 → σ.1 (9 + t) 1 = -1 ∨ ∃ z : Nat, z ≤ 4095 ∧ σ.1 (9 + t) 1 = nI z := fun t ht => by rw [(hLL t ht).1]; exact (hLL t ht).2.2
  have hU2 : ∀ t, t < 6 → τ.2.1 5 t = nI (U t) ∧ U t < 2 ^ 30 := fun t ht => ⟨(hU t ht).2.1, by have := (hU t ht).2.2; omega⟩
  have hU1 : ∀ t, t < 6 → σ.2.1 (9 + t) = lN (U t) := fun t ht => (hU t ht).1
  have hf0 : cells ≤ room_1.cells ∧ slots ≤ room_1.slots := ⟨by omega, by omega⟩
  refine lv_aload_n hx hb d_Law_law_96 rfl (lv_at hl 3 rfl) ?_
  refine pw_arg F V (lv_at hl 4 rfl) (lv_at hl 0 rfl) 1 (by omega) (by decide) d_Law_law_97 d_Law_law_98 d_Law_law_100 d_Law_law_101 d_Law_law_102 ?_
  refine lv_i2l (v := (xs (5 * k + 1)).toInt64) hx hb d_Law_law_103 rfl ?_
  refine lv_bipush (v := nI 32) hx hb d_Law_law_104 (by decide) ?_
  refine lv_lshl (v := (xs (5 * k + 1)).toInt64 <<< ((nI 32).toInt64 &&& 63)) hx hb d_Law_law_106 rfl ?_
  refine pw_arg F V (lv_at hl 4 rfl) (lv_at hl 0 rfl) 2 (by omega) (by decide) d_Law_law_107 d_Law_law_108 d_Law_law_110 d_Law_law_111 d_Law_law_112 ?_
  refine lv_i2l (v := (xs (5 * k + 2)).toInt64) hx hb d_Law_law_113 rfl ?_
  refine lv_ldc2 (v := (4294967295)) hx hb hown (hT _ cl_Law_28) d_Law_law_114 ?_
  refine lv_land hx hb d_Law_law_117 ?_
  refine lv_lor hx hb d_Law_law_118 ?_
  refine pw_arg F V (lv_at hl 4 rfl) (lv_at hl 0 rfl) 3 (by omega) (by decide) d_Law_law_119 d_Law_law_120 d_Law_law_122 d_Law_law_123 d_Law_law_124 ?_
  refine pw_cw (As := [.long (((xs (5 * k + 1)).toInt64 <<< ((nI 32).toInt64 &&& 63)) ||| ((xs (5 * k + 2)).toInt64 &&& 4294967295)), .int (xs (5 * k + 3))]) (rest := []) F V (c_Shelf_type hg n hn1 hn60 (((xs (5 * k + 1)).toInt64 <<< ((nI 32).toInt64 &&& 63)) ||| ((xs (5 * k + 2)).toInt64 &&& 4294967295)) (xs (5 * k + 3))) (cwV 2 hT (ps_gV ml_Law_30 im_Shelf_type se_Shelf_type in_Shelf co_Shelf_type) rfl rfl rfl cd_Shelf_type ⟨(Nat.le_of_ble_eq_true rfl), (Nat.le_of_ble_eq_true rfl)⟩) rfl hl.1 rfl (Nat.le_of_ble_eq_true rfl) d_Law_law_125 hf0 (fun r u H locs hp V => ?_)
  refine lv_aload_n hx hb d_Law_law_128 rfl (lv_at hl 2 rfl) ?_
  refine pw_arg F V (lv_at hl 4 rfl) (lv_at hl 0 rfl) 1 (by omega) (by decide) d_Law_law_129 d_Law_law_130 d_Law_law_132 d_Law_law_133 d_Law_law_134 ?_
  refine lv_i2l (v := (xs (5 * k + 1)).toInt64) hx hb d_Law_law_135 rfl ?_
  refine lv_bipush (v := nI 32) hx hb d_Law_law_136 (by decide) ?_
  refine lv_lshl (v := (xs (5 * k + 1)).toInt64 <<< ((nI 32).toInt64 &&& 63)) hx hb d_Law_law_138 rfl ?_
  refine pw_arg F V (lv_at hl 4 rfl) (lv_at hl 0 rfl) 2 (by omega) (by decide) d_Law_law_139 d_Law_law_140 d_Law_law_142 d_Law_law_143 d_Law_law_144 ?_
  refine lv_i2l (v := (xs (5 * k + 2)).toInt64) hx hb d_Law_law_145 rfl ?_
  refine lv_ldc2 (v := (4294967295)) hx hb hown (hT _ cl_Law_28) d_Law_law_146 ?_
  refine lv_land hx hb d_Law_law_149 ?_
  refine lv_lor hx hb d_Law_law_150 ?_
  refine pw_arg F V (lv_at hl 4 rfl) (lv_at hl 0 rfl) 3 (by omega) (by decide) d_Law_law_151 d_Law_law_152 d_Law_law_154 d_Law_law_155 d_Law_law_156 ?_
  refine pw_mw (As := [.long (((xs (5 * k + 1)).toInt64 <<< ((nI 32).toInt64 &&& 63)) ||| ((xs (5 * k + 2)).toInt64 &&& 4294967295)), .int (xs (5 * k + 3))]) (rest := [.int r]) F V (c_Model_type hgm n hn2 hn60 (((xs (5 * k + 1)).toInt64 <<< ((nI 32).toInt64 &&& 63)) ||| ((xs (5 * k + 2)).toInt64 &&& 4294967295)) (xs (5 * k + 3))) (cwV 2 hT (ps_gV ml_Law_34 im_Model_type se_Model_type in_Model co_Model_type) rfl rfl rfl cd_Model_type ⟨(Nat.le_of_ble_eq_true rfl), (Nat.le_of_ble_eq_true rfl)⟩) rfl hl.1 rfl (Nat.le_of_ble_eq_true rfl) d_Law_law_157 hf0 (fun r2 v H locs hp2 V => ?_)
  obtain ⟨e1, hR1⟩ := pl_typeR hR hn1 hn60 hp hp2
  refine lv_icmp_eq (tgt := 660) hx hb d_Law_law_160 (by decide) (fun _ => ?_) (fun h => absurd e1 h)
  exact W.widen (Nat.le_add_right _ _) (Nat.le_add_right _ _) (ih _ _ _ _ _ _ V hR1 hl)

set_option maxHeartbeats 4000000 in
theorem pw_b_thing {p : Program} {l : Launch} {e : Env} {s : State} {m : MethodId} {args : Array Value} {below : List Frame} {meth : Method} {c : Code} {H : Heap} {locs : List Loc} {cells slots : Nat} {Q : State → Prop} {ls : Array Slot} {D : va_G} {cI cJ cT : ClassId} {D2 : va_G} {cI2 cZ : ClassId} {g gm : Nat → Nat} {ao b L k : Nat} {xs : Nat → Int32} {aK aV : Nat} {vo : Option Nat} {m1 m2 m3 : Nat} {σ : ps_σ} {τ : pm_τ} {f : Nat → Int64} (F : pw_F p l s m args c D cI cJ cT D2 cI2 cZ g gm ao b L xs aK aV vo m1 m2 m3) (V : pw_V s D cI cJ cT D2 cI2 cZ g gm ao H locs σ τ f) (hR : pl_R σ τ k) (hk5 : 5 * k + 5 ≤ L) (hf : cells + 1 ≤ room_1.cells ∧ slots + 6 ≤ room_1.slots) (hl : lv_has ls 7 (pw_lv b g gm ao k)) (ih : ∀ (u : ps_σ) (v : pm_τ) (o : Nat → Int64) (H : Heap) (locs : List Loc) (ls : Array Slot), pw_V s D cI cJ cT D2 cI2 cZ g gm ao H locs u v o → pl_R u v (k + 1) → lv_has ls 7 (pw_lv b g gm ao k) → W p l e room_1 s m args below meth c H locs (cells + 1) (slots + 6) Q (F0 m 660 ls [])) : W p l e room_1 s m args below meth c H locs cells slots Q (F0 m 165 ls []) := by
  have hF := F
  obtain ⟨⟨hx, hb, hml, hown, hT⟩, -, ⟨-, -, hL⟩, ⟨hg, hgm, hd1, hd2, hd3⟩, -, hst, -⟩ := hF
  have hR0 := hR
  obtain ⟨⟨n, hn60, hn1, hn2, hsg⟩, ⟨⟨rm, hrm, hrm1, hrm2⟩, cc, hcc, hco1, hco2⟩, hLL, -, ⟨U, k9, hk9, hu0, hu9, hU⟩, -⟩ := hR0
  have hln2 : ∀ t, t < 6 → τ.2.1 2 t = -1 ∨ ∃ z : Nat, z ≤ 4095 ∧ τ.2.1 2 t = nI z := fun t ht => (hLL t ht).2.2
  have hln1 : ∀ t, t < 6 → σ.1 (9 + t) 1 = -1 ∨ ∃ z : Nat, z ≤ 4095 ∧ σ.1 (9 + t) 1 = nI z := fun t ht => by rw [(hLL t ht).1]; exact (hLL t ht).2.2
  have hU2 : ∀ t, t < 6 → τ.2.1 5 t = nI (U t) ∧ U t < 2 ^ 30 := fun t ht => ⟨(hU t ht).2.1, by have := (hU t ht).2.2; omega⟩
  have hU1 : ∀ t, t < 6 → σ.2.1 (9 + t) = lN (U t) := fun t ht => (hU t ht).1
  have hf0 : cells ≤ room_1.cells ∧ slots ≤ room_1.slots := ⟨by omega, by omega⟩
  refine lv_aload_n hx hb d_Law_law_165 rfl (lv_at hl 3 rfl) ?_
  refine pw_arg F V (lv_at hl 4 rfl) (lv_at hl 0 rfl) 1 (by omega) (by decide) d_Law_law_166 d_Law_law_167 d_Law_law_169 d_Law_law_170 d_Law_law_171 ?_
  refine pw_arg F V (lv_at hl 4 rfl) (lv_at hl 0 rfl) 2 (by omega) (by decide) d_Law_law_172 d_Law_law_173 d_Law_law_175 d_Law_law_176 d_Law_law_177 ?_
  refine pw_arg F V (lv_at hl 4 rfl) (lv_at hl 0 rfl) 3 (by omega) (by decide) d_Law_law_178 d_Law_law_179 d_Law_law_181 d_Law_law_182 d_Law_law_183 ?_
  refine pw_cw (As := [.int (xs (5 * k + 1)), .int (xs (5 * k + 2)), .int (xs (5 * k + 3))]) (rest := []) F V (c_Shelf_thing hg (xs (5 * k + 1)) (xs (5 * k + 2)) (xs (5 * k + 3))) (cwV 3 hT (ps_gV ml_Law_35 im_Shelf_thing se_Shelf_thing in_Shelf co_Shelf_thing) rfl rfl rfl cd_Shelf_thing ⟨(Nat.le_of_ble_eq_true rfl), (Nat.le_of_ble_eq_true rfl)⟩) rfl hl.1 rfl (Nat.le_of_ble_eq_true rfl) d_Law_law_184 hf0 (fun r u H locs hp V => ?_)
  refine lv_aload_n hx hb d_Law_law_187 rfl (lv_at hl 2 rfl) ?_
  refine pw_arg F V (lv_at hl 4 rfl) (lv_at hl 0 rfl) 1 (by omega) (by decide) d_Law_law_188 d_Law_law_189 d_Law_law_191 d_Law_law_192 d_Law_law_193 ?_
  refine pw_arg F V (lv_at hl 4 rfl) (lv_at hl 0 rfl) 2 (by omega) (by decide) d_Law_law_194 d_Law_law_195 d_Law_law_197 d_Law_law_198 d_Law_law_199 ?_
  refine pw_arg F V (lv_at hl 4 rfl) (lv_at hl 0 rfl) 3 (by omega) (by decide) d_Law_law_200 d_Law_law_201 d_Law_law_203 d_Law_law_204 d_Law_law_205 ?_
  refine pw_mw (As := [.int (xs (5 * k + 1)), .int (xs (5 * k + 2)), .int (xs (5 * k + 3))]) (rest := [.int r]) F V (c_Model_thing hgm (xs (5 * k + 1)) (xs (5 * k + 2)) (xs (5 * k + 3))) (cwV 3 hT (ps_gV ml_Law_39 im_Model_thing se_Model_thing in_Model co_Model_thing) rfl rfl rfl cd_Model_thing ⟨(Nat.le_of_ble_eq_true rfl), (Nat.le_of_ble_eq_true rfl)⟩) rfl hl.1 rfl (Nat.le_of_ble_eq_true rfl) d_Law_law_206 hf0 (fun r2 v H locs hp2 V => ?_)
  obtain ⟨e1, hR1⟩ := pl_thingR hR hp hp2
  refine lv_icmp_eq (tgt := 660) hx hb d_Law_law_209 (by decide) (fun _ => ?_) (fun h => absurd e1 h)
  exact W.widen (Nat.le_add_right _ _) (Nat.le_add_right _ _) (ih _ _ _ _ _ _ V hR1 hl)

set_option maxHeartbeats 4000000 in
theorem pw_b_forget {p : Program} {l : Launch} {e : Env} {s : State} {m : MethodId} {args : Array Value} {below : List Frame} {meth : Method} {c : Code} {H : Heap} {locs : List Loc} {cells slots : Nat} {Q : State → Prop} {ls : Array Slot} {D : va_G} {cI cJ cT : ClassId} {D2 : va_G} {cI2 cZ : ClassId} {g gm : Nat → Nat} {ao b L k : Nat} {xs : Nat → Int32} {aK aV : Nat} {vo : Option Nat} {m1 m2 m3 : Nat} {σ : ps_σ} {τ : pm_τ} {f : Nat → Int64} (F : pw_F p l s m args c D cI cJ cT D2 cI2 cZ g gm ao b L xs aK aV vo m1 m2 m3) (V : pw_V s D cI cJ cT D2 cI2 cZ g gm ao H locs σ τ f) (hR : pl_R σ τ k) (hk5 : 5 * k + 5 ≤ L) (hf : cells + 1 ≤ room_1.cells ∧ slots + 6 ≤ room_1.slots) (hl : lv_has ls 7 (pw_lv b g gm ao k)) (ih : ∀ (u : ps_σ) (v : pm_τ) (o : Nat → Int64) (H : Heap) (locs : List Loc) (ls : Array Slot), pw_V s D cI cJ cT D2 cI2 cZ g gm ao H locs u v o → pl_R u v (k + 1) → lv_has ls 7 (pw_lv b g gm ao k) → W p l e room_1 s m args below meth c H locs (cells + 1) (slots + 6) Q (F0 m 660 ls [])) : W p l e room_1 s m args below meth c H locs cells slots Q (F0 m 214 ls []) := by
  have hF := F
  obtain ⟨⟨hx, hb, hml, hown, hT⟩, -, ⟨-, -, hL⟩, ⟨hg, hgm, hd1, hd2, hd3⟩, -, hst, -⟩ := hF
  have hR0 := hR
  obtain ⟨⟨n, hn60, hn1, hn2, hsg⟩, ⟨⟨rm, hrm, hrm1, hrm2⟩, cc, hcc, hco1, hco2⟩, hLL, -, ⟨U, k9, hk9, hu0, hu9, hU⟩, -⟩ := hR0
  have hln2 : ∀ t, t < 6 → τ.2.1 2 t = -1 ∨ ∃ z : Nat, z ≤ 4095 ∧ τ.2.1 2 t = nI z := fun t ht => (hLL t ht).2.2
  have hln1 : ∀ t, t < 6 → σ.1 (9 + t) 1 = -1 ∨ ∃ z : Nat, z ≤ 4095 ∧ σ.1 (9 + t) 1 = nI z := fun t ht => by rw [(hLL t ht).1]; exact (hLL t ht).2.2
  have hU2 : ∀ t, t < 6 → τ.2.1 5 t = nI (U t) ∧ U t < 2 ^ 30 := fun t ht => ⟨(hU t ht).2.1, by have := (hU t ht).2.2; omega⟩
  have hU1 : ∀ t, t < 6 → σ.2.1 (9 + t) = lN (U t) := fun t ht => (hU t ht).1
  have hf0 : cells ≤ room_1.cells ∧ slots ≤ room_1.slots := ⟨by omega, by omega⟩
  refine lv_aload_n hx hb d_Law_law_214 rfl (lv_at hl 3 rfl) ?_
  refine pw_arg F V (lv_at hl 4 rfl) (lv_at hl 0 rfl) 1 (by omega) (by decide) d_Law_law_215 d_Law_law_216 d_Law_law_218 d_Law_law_219 d_Law_law_220 ?_
  refine pw_cw (As := [.int (xs (5 * k + 1))]) (rest := []) F V (c_Shelf_forget hg (xs (5 * k + 1))) (cwV 1 hT (ps_gV ml_Law_40 im_Shelf_forget se_Shelf_forget in_Shelf co_Shelf_forget) rfl rfl rfl cd_Shelf_forget ⟨(Nat.le_of_ble_eq_true rfl), (Nat.le_of_ble_eq_true rfl)⟩) rfl hl.1 rfl (Nat.le_of_ble_eq_true rfl) d_Law_law_221 hf0 (fun r u H locs hp V => ?_)
  refine lv_aload_n hx hb d_Law_law_224 rfl (lv_at hl 2 rfl) ?_
  refine pw_arg F V (lv_at hl 4 rfl) (lv_at hl 0 rfl) 1 (by omega) (by decide) d_Law_law_225 d_Law_law_226 d_Law_law_228 d_Law_law_229 d_Law_law_230 ?_
  refine pw_mw (As := [.int (xs (5 * k + 1))]) (rest := [.int r]) F V (c_Model_forget hgm (xs (5 * k + 1))) (cwV 1 hT (ps_gV ml_Law_44 im_Model_forget se_Model_forget in_Model co_Model_forget) rfl rfl rfl cd_Model_forget ⟨(Nat.le_of_ble_eq_true rfl), (Nat.le_of_ble_eq_true rfl)⟩) rfl hl.1 rfl (Nat.le_of_ble_eq_true rfl) d_Law_law_231 hf0 (fun r2 v H locs hp2 V => ?_)
  obtain ⟨e1, hR1⟩ := pl_forgetR hR hp hp2
  refine lv_icmp_eq (tgt := 660) hx hb d_Law_law_234 (by decide) (fun _ => ?_) (fun h => absurd e1 h)
  exact W.widen (Nat.le_add_right _ _) (Nat.le_add_right _ _) (ih _ _ _ _ _ _ V hR1 hl)

set_option maxHeartbeats 4000000 in
theorem pw_b_got {p : Program} {l : Launch} {e : Env} {s : State} {m : MethodId} {args : Array Value} {below : List Frame} {meth : Method} {c : Code} {H : Heap} {locs : List Loc} {cells slots : Nat} {Q : State → Prop} {ls : Array Slot} {D : va_G} {cI cJ cT : ClassId} {D2 : va_G} {cI2 cZ : ClassId} {g gm : Nat → Nat} {ao b L k : Nat} {xs : Nat → Int32} {aK aV : Nat} {vo : Option Nat} {m1 m2 m3 : Nat} {σ : ps_σ} {τ : pm_τ} {f : Nat → Int64} (F : pw_F p l s m args c D cI cJ cT D2 cI2 cZ g gm ao b L xs aK aV vo m1 m2 m3) (V : pw_V s D cI cJ cT D2 cI2 cZ g gm ao H locs σ τ f) (hR : pl_R σ τ k) (hk5 : 5 * k + 5 ≤ L) (hf : cells + 1 ≤ room_1.cells ∧ slots + 6 ≤ room_1.slots) (hl : lv_has ls 7 (pw_lv b g gm ao k)) (ih : ∀ (u : ps_σ) (v : pm_τ) (o : Nat → Int64) (H : Heap) (locs : List Loc) (ls : Array Slot), pw_V s D cI cJ cT D2 cI2 cZ g gm ao H locs u v o → pl_R u v (k + 1) → lv_has ls 7 (pw_lv b g gm ao k) → W p l e room_1 s m args below meth c H locs (cells + 1) (slots + 6) Q (F0 m 660 ls [])) : W p l e room_1 s m args below meth c H locs cells slots Q (F0 m 239 ls []) := by
  have hF := F
  obtain ⟨⟨hx, hb, hml, hown, hT⟩, -, ⟨-, -, hL⟩, ⟨hg, hgm, hd1, hd2, hd3⟩, -, hst, -⟩ := hF
  have hR0 := hR
  obtain ⟨⟨n, hn60, hn1, hn2, hsg⟩, ⟨⟨rm, hrm, hrm1, hrm2⟩, cc, hcc, hco1, hco2⟩, hLL, -, ⟨U, k9, hk9, hu0, hu9, hU⟩, -⟩ := hR0
  have hln2 : ∀ t, t < 6 → τ.2.1 2 t = -1 ∨ ∃ z : Nat, z ≤ 4095 ∧ τ.2.1 2 t = nI z := fun t ht => (hLL t ht).2.2
  have hln1 : ∀ t, t < 6 → σ.1 (9 + t) 1 = -1 ∨ ∃ z : Nat, z ≤ 4095 ∧ σ.1 (9 + t) 1 = nI z := fun t ht => by rw [(hLL t ht).1]; exact (hLL t ht).2.2
  have hU2 : ∀ t, t < 6 → τ.2.1 5 t = nI (U t) ∧ U t < 2 ^ 30 := fun t ht => ⟨(hU t ht).2.1, by have := (hU t ht).2.2; omega⟩
  have hU1 : ∀ t, t < 6 → σ.2.1 (9 + t) = lN (U t) := fun t ht => (hU t ht).1
  have hf0 : cells ≤ room_1.cells ∧ slots ≤ room_1.slots := ⟨by omega, by omega⟩
  refine lv_aload_n hx hb d_Law_law_239 rfl (lv_at hl 3 rfl) ?_
  refine pw_arg F V (lv_at hl 4 rfl) (lv_at hl 0 rfl) 1 (by omega) (by decide) d_Law_law_240 d_Law_law_241 d_Law_law_243 d_Law_law_244 d_Law_law_245 ?_
  refine pw_arg F V (lv_at hl 4 rfl) (lv_at hl 0 rfl) 2 (by omega) (by decide) d_Law_law_246 d_Law_law_247 d_Law_law_249 d_Law_law_250 d_Law_law_251 ?_
  refine pw_arg F V (lv_at hl 4 rfl) (lv_at hl 0 rfl) 3 (by omega) (by decide) d_Law_law_252 d_Law_law_253 d_Law_law_255 d_Law_law_256 d_Law_law_257 ?_
  refine pw_arg F V (lv_at hl 4 rfl) (lv_at hl 0 rfl) 4 (by omega) (by decide) d_Law_law_258 d_Law_law_259 d_Law_law_261 d_Law_law_262 d_Law_law_263 ?_
  refine pw_cw (As := [.int (xs (5 * k + 1)), .int (xs (5 * k + 2)), .int (xs (5 * k + 3)), .int (xs (5 * k + 4))]) (rest := []) F V (c_Shelf_got hg rm hrm1 hrm hln1 (xs (5 * k + 1)) (xs (5 * k + 2)) (xs (5 * k + 3)) (xs (5 * k + 4))) (cwV 4 hT (ps_gV ml_Law_45 im_Shelf_got se_Shelf_got in_Shelf co_Shelf_got) rfl rfl rfl cd_Shelf_got ⟨(Nat.le_of_ble_eq_true rfl), (Nat.le_of_ble_eq_true rfl)⟩) rfl hl.1 rfl (Nat.le_of_ble_eq_true rfl) d_Law_law_264 hf0 (fun r u H locs hp V => ?_)
  refine lv_aload_n hx hb d_Law_law_267 rfl (lv_at hl 2 rfl) ?_
  refine pw_arg F V (lv_at hl 4 rfl) (lv_at hl 0 rfl) 1 (by omega) (by decide) d_Law_law_268 d_Law_law_269 d_Law_law_271 d_Law_law_272 d_Law_law_273 ?_
  refine pw_arg F V (lv_at hl 4 rfl) (lv_at hl 0 rfl) 2 (by omega) (by decide) d_Law_law_274 d_Law_law_275 d_Law_law_277 d_Law_law_278 d_Law_law_279 ?_
  refine pw_arg F V (lv_at hl 4 rfl) (lv_at hl 0 rfl) 3 (by omega) (by decide) d_Law_law_280 d_Law_law_281 d_Law_law_283 d_Law_law_284 d_Law_law_285 ?_
  refine pw_arg F V (lv_at hl 4 rfl) (lv_at hl 0 rfl) 4 (by omega) (by decide) d_Law_law_286 d_Law_law_287 d_Law_law_289 d_Law_law_290 d_Law_law_291 ?_
  refine pw_mw (As := [.int (xs (5 * k + 1)), .int (xs (5 * k + 2)), .int (xs (5 * k + 3)), .int (xs (5 * k + 4))]) (rest := [.int r]) F V (c_Model_got hgm U hU2 rm hrm2 hrm k9 hu9 (by omega) hln2 (xs (5 * k + 1)) (xs (5 * k + 2)) (xs (5 * k + 3)) (xs (5 * k + 4))) (cwV 4 hT (ps_gV ml_Law_49 im_Model_got se_Model_got in_Model co_Model_got) rfl rfl rfl cd_Model_got ⟨(Nat.le_of_ble_eq_true rfl), (Nat.le_of_ble_eq_true rfl)⟩) rfl hl.1 rfl (Nat.le_of_ble_eq_true rfl) d_Law_law_292 hf0 (fun r2 v H locs hp2 V => ?_)
  obtain ⟨e1, hR1⟩ := pl_gotR hR hU1 hu0 hk9 hp hp2
  refine lv_icmp_eq (tgt := 660) hx hb d_Law_law_295 (by decide) (fun _ => ?_) (fun h => absurd e1 h)
  exact W.widen (Nat.le_add_right _ _) (Nat.le_add_right _ _) (ih _ _ _ _ _ _ V hR1 hl)

set_option maxHeartbeats 4000000 in
theorem pw_b_told {p : Program} {l : Launch} {e : Env} {s : State} {m : MethodId} {args : Array Value} {below : List Frame} {meth : Method} {c : Code} {H : Heap} {locs : List Loc} {cells slots : Nat} {Q : State → Prop} {ls : Array Slot} {D : va_G} {cI cJ cT : ClassId} {D2 : va_G} {cI2 cZ : ClassId} {g gm : Nat → Nat} {ao b L k : Nat} {xs : Nat → Int32} {aK aV : Nat} {vo : Option Nat} {m1 m2 m3 : Nat} {σ : ps_σ} {τ : pm_τ} {f : Nat → Int64} (F : pw_F p l s m args c D cI cJ cT D2 cI2 cZ g gm ao b L xs aK aV vo m1 m2 m3) (V : pw_V s D cI cJ cT D2 cI2 cZ g gm ao H locs σ τ f) (hR : pl_R σ τ k) (hk5 : 5 * k + 5 ≤ L) (hf : cells + 1 ≤ room_1.cells ∧ slots + 6 ≤ room_1.slots) (hl : lv_has ls 7 (pw_lv b g gm ao k)) (ih : ∀ (u : ps_σ) (v : pm_τ) (o : Nat → Int64) (H : Heap) (locs : List Loc) (ls : Array Slot), pw_V s D cI cJ cT D2 cI2 cZ g gm ao H locs u v o → pl_R u v (k + 1) → lv_has ls 7 (pw_lv b g gm ao k) → W p l e room_1 s m args below meth c H locs (cells + 1) (slots + 6) Q (F0 m 660 ls [])) : W p l e room_1 s m args below meth c H locs cells slots Q (F0 m 356 ls []) := by
  have hF := F
  obtain ⟨⟨hx, hb, hml, hown, hT⟩, -, ⟨-, -, hL⟩, ⟨hg, hgm, hd1, hd2, hd3⟩, -, hst, -⟩ := hF
  have hR0 := hR
  obtain ⟨⟨n, hn60, hn1, hn2, hsg⟩, ⟨⟨rm, hrm, hrm1, hrm2⟩, cc, hcc, hco1, hco2⟩, hLL, -, ⟨U, k9, hk9, hu0, hu9, hU⟩, -⟩ := hR0
  have hln2 : ∀ t, t < 6 → τ.2.1 2 t = -1 ∨ ∃ z : Nat, z ≤ 4095 ∧ τ.2.1 2 t = nI z := fun t ht => (hLL t ht).2.2
  have hln1 : ∀ t, t < 6 → σ.1 (9 + t) 1 = -1 ∨ ∃ z : Nat, z ≤ 4095 ∧ σ.1 (9 + t) 1 = nI z := fun t ht => by rw [(hLL t ht).1]; exact (hLL t ht).2.2
  have hU2 : ∀ t, t < 6 → τ.2.1 5 t = nI (U t) ∧ U t < 2 ^ 30 := fun t ht => ⟨(hU t ht).2.1, by have := (hU t ht).2.2; omega⟩
  have hU1 : ∀ t, t < 6 → σ.2.1 (9 + t) = lN (U t) := fun t ht => (hU t ht).1
  have hf0 : cells ≤ room_1.cells ∧ slots ≤ room_1.slots := ⟨by omega, by omega⟩
  refine lv_aload_n hx hb d_Law_law_356 rfl (lv_at hl 3 rfl) ?_
  refine pw_arg F V (lv_at hl 4 rfl) (lv_at hl 0 rfl) 1 (by omega) (by decide) d_Law_law_357 d_Law_law_358 d_Law_law_360 d_Law_law_361 d_Law_law_362 ?_
  refine pw_cr (As := [.int (xs (5 * k + 1))]) (rest := []) F V (c_Shelf_told (xs (5 * k + 1))) (cwV 1 hT (ps_gV ml_Law_60 im_Shelf_told se_Shelf_told in_Shelf co_Shelf_told) rfl rfl rfl cd_Shelf_told ⟨(Nat.le_of_ble_eq_true rfl), (Nat.le_of_ble_eq_true rfl)⟩) rfl hl.1 rfl (Nat.le_of_ble_eq_true rfl) d_Law_law_363 hf0 (fun r hp => ?_)
  refine lv_aload_n hx hb d_Law_law_366 rfl (lv_at hl 2 rfl) ?_
  refine pw_arg F V (lv_at hl 4 rfl) (lv_at hl 0 rfl) 1 (by omega) (by decide) d_Law_law_367 d_Law_law_368 d_Law_law_370 d_Law_law_371 d_Law_law_372 ?_
  refine pw_mw (As := [.int (xs (5 * k + 1))]) (rest := [.int r]) F V (c_Model_told hgm (xs (5 * k + 1))) (cwV 1 hT (ps_gV ml_Law_63 im_Model_told se_Model_told in_Model co_Model_told) rfl rfl rfl cd_Model_told ⟨(Nat.le_of_ble_eq_true rfl), (Nat.le_of_ble_eq_true rfl)⟩) rfl hl.1 rfl (Nat.le_of_ble_eq_true rfl) d_Law_law_373 hf0 (fun r2 v H locs hp2 V => ?_)
  have e1 : r = r2 := hp.trans ((pl_told hR).trans hp2.1.symm)
  have hR1 : pl_R σ v (k + 1) := by rw [hp2.2]; exact hR.thrown
  refine lv_icmp_eq (tgt := 660) hx hb d_Law_law_376 (by decide) (fun _ => ?_) (fun h => absurd e1 h)
  exact W.widen (Nat.le_add_right _ _) (Nat.le_add_right _ _) (ih _ _ _ _ _ _ V hR1 hl)

set_option maxHeartbeats 4000000 in
theorem pw_b_set {p : Program} {l : Launch} {e : Env} {s : State} {m : MethodId} {args : Array Value} {below : List Frame} {meth : Method} {c : Code} {H : Heap} {locs : List Loc} {cells slots : Nat} {Q : State → Prop} {ls : Array Slot} {D : va_G} {cI cJ cT : ClassId} {D2 : va_G} {cI2 cZ : ClassId} {g gm : Nat → Nat} {ao b L k : Nat} {xs : Nat → Int32} {aK aV : Nat} {vo : Option Nat} {m1 m2 m3 : Nat} {σ : ps_σ} {τ : pm_τ} {f : Nat → Int64} (F : pw_F p l s m args c D cI cJ cT D2 cI2 cZ g gm ao b L xs aK aV vo m1 m2 m3) (V : pw_V s D cI cJ cT D2 cI2 cZ g gm ao H locs σ τ f) (hR : pl_R σ τ k) (hk5 : 5 * k + 5 ≤ L) (hf : cells + 1 ≤ room_1.cells ∧ slots + 6 ≤ room_1.slots) (hl : lv_has ls 7 (pw_lv b g gm ao k)) (ih : ∀ (u : ps_σ) (v : pm_τ) (o : Nat → Int64) (H : Heap) (locs : List Loc) (ls : Array Slot), pw_V s D cI cJ cT D2 cI2 cZ g gm ao H locs u v o → pl_R u v (k + 1) → lv_has ls 7 (pw_lv b g gm ao k) → W p l e room_1 s m args below meth c H locs (cells + 1) (slots + 6) Q (F0 m 660 ls [])) : W p l e room_1 s m args below meth c H locs cells slots Q (F0 m 549 ls []) := by
  have hF := F
  obtain ⟨⟨hx, hb, hml, hown, hT⟩, -, ⟨-, -, hL⟩, ⟨hg, hgm, hd1, hd2, hd3⟩, -, hst, -⟩ := hF
  have hR0 := hR
  obtain ⟨⟨n, hn60, hn1, hn2, hsg⟩, ⟨⟨rm, hrm, hrm1, hrm2⟩, cc, hcc, hco1, hco2⟩, hLL, -, ⟨U, k9, hk9, hu0, hu9, hU⟩, -⟩ := hR0
  have hln2 : ∀ t, t < 6 → τ.2.1 2 t = -1 ∨ ∃ z : Nat, z ≤ 4095 ∧ τ.2.1 2 t = nI z := fun t ht => (hLL t ht).2.2
  have hln1 : ∀ t, t < 6 → σ.1 (9 + t) 1 = -1 ∨ ∃ z : Nat, z ≤ 4095 ∧ σ.1 (9 + t) 1 = nI z := fun t ht => by rw [(hLL t ht).1]; exact (hLL t ht).2.2
  have hU2 : ∀ t, t < 6 → τ.2.1 5 t = nI (U t) ∧ U t < 2 ^ 30 := fun t ht => ⟨(hU t ht).2.1, by have := (hU t ht).2.2; omega⟩
  have hU1 : ∀ t, t < 6 → σ.2.1 (9 + t) = lN (U t) := fun t ht => (hU t ht).1
  have hf0 : cells ≤ room_1.cells ∧ slots ≤ room_1.slots := ⟨by omega, by omega⟩
  refine lv_aload_n hx hb d_Law_law_549 rfl (lv_at hl 3 rfl) ?_
  refine pw_arg F V (lv_at hl 4 rfl) (lv_at hl 0 rfl) 1 (by omega) (by decide) d_Law_law_550 d_Law_law_551 d_Law_law_553 d_Law_law_554 d_Law_law_555 ?_
  refine pw_arg F V (lv_at hl 4 rfl) (lv_at hl 0 rfl) 2 (by omega) (by decide) d_Law_law_556 d_Law_law_557 d_Law_law_559 d_Law_law_560 d_Law_law_561 ?_
  refine pw_cw (As := [.int (xs (5 * k + 1)), .int (xs (5 * k + 2))]) (rest := []) F V (c_Shelf_set hg (xs (5 * k + 1)) (xs (5 * k + 2))) (cwV 2 hT (ps_gV ml_Law_71 im_Shelf_set se_Shelf_set in_Shelf co_Shelf_set) rfl rfl rfl cd_Shelf_set ⟨(Nat.le_of_ble_eq_true rfl), (Nat.le_of_ble_eq_true rfl)⟩) rfl hl.1 rfl (Nat.le_of_ble_eq_true rfl) d_Law_law_562 hf0 (fun r u H locs hp V => ?_)
  refine lv_aload_n hx hb d_Law_law_565 rfl (lv_at hl 2 rfl) ?_
  refine pw_arg F V (lv_at hl 4 rfl) (lv_at hl 0 rfl) 1 (by omega) (by decide) d_Law_law_566 d_Law_law_567 d_Law_law_569 d_Law_law_570 d_Law_law_571 ?_
  refine pw_arg F V (lv_at hl 4 rfl) (lv_at hl 0 rfl) 2 (by omega) (by decide) d_Law_law_572 d_Law_law_573 d_Law_law_575 d_Law_law_576 d_Law_law_577 ?_
  refine pw_mw (As := [.int (xs (5 * k + 1)), .int (xs (5 * k + 2))]) (rest := [.int r]) F V (c_Model_set hgm U hU2 (xs (5 * k + 1)) (xs (5 * k + 2))) (cwV 2 hT (ps_gV ml_Law_75 im_Model_set se_Model_set in_Model co_Model_set) rfl rfl rfl cd_Model_set ⟨(Nat.le_of_ble_eq_true rfl), (Nat.le_of_ble_eq_true rfl)⟩) rfl hl.1 rfl (Nat.le_of_ble_eq_true rfl) d_Law_law_578 hf0 (fun r2 v H locs hp2 V => ?_)
  obtain ⟨e1, hR1⟩ := pl_setR hR hU1 hp hp2
  refine lv_icmp_eq (tgt := 660) hx hb d_Law_law_581 (by decide) (fun _ => ?_) (fun h => absurd e1 h)
  exact W.widen (Nat.le_add_right _ _) (Nat.le_add_right _ _) (ih _ _ _ _ _ _ V hR1 hl)

set_option maxHeartbeats 4000000 in
theorem pw_b_about {p : Program} {l : Launch} {e : Env} {s : State} {m : MethodId} {args : Array Value} {below : List Frame} {meth : Method} {c : Code} {H : Heap} {locs : List Loc} {cells slots : Nat} {Q : State → Prop} {ls : Array Slot} {D : va_G} {cI cJ cT : ClassId} {D2 : va_G} {cI2 cZ : ClassId} {g gm : Nat → Nat} {ao b L k : Nat} {xs : Nat → Int32} {aK aV : Nat} {vo : Option Nat} {m1 m2 m3 : Nat} {σ : ps_σ} {τ : pm_τ} {f : Nat → Int64} (F : pw_F p l s m args c D cI cJ cT D2 cI2 cZ g gm ao b L xs aK aV vo m1 m2 m3) (V : pw_V s D cI cJ cT D2 cI2 cZ g gm ao H locs σ τ f) (hR : pl_R σ τ k) (hk5 : 5 * k + 5 ≤ L) (hf : cells + 1 ≤ room_1.cells ∧ slots + 6 ≤ room_1.slots) (hl : lv_has ls 7 (pw_lv b g gm ao k)) (ih : ∀ (u : ps_σ) (v : pm_τ) (o : Nat → Int64) (H : Heap) (locs : List Loc) (ls : Array Slot), pw_V s D cI cJ cT D2 cI2 cZ g gm ao H locs u v o → pl_R u v (k + 1) → lv_has ls 7 (pw_lv b g gm ao k) → W p l e room_1 s m args below meth c H locs (cells + 1) (slots + 6) Q (F0 m 660 ls [])) : W p l e room_1 s m args below meth c H locs cells slots Q (F0 m 586 ls []) := by
  have hF := F
  obtain ⟨⟨hx, hb, hml, hown, hT⟩, -, ⟨-, -, hL⟩, ⟨hg, hgm, hd1, hd2, hd3⟩, -, hst, -⟩ := hF
  have hR0 := hR
  obtain ⟨⟨n, hn60, hn1, hn2, hsg⟩, ⟨⟨rm, hrm, hrm1, hrm2⟩, cc, hcc, hco1, hco2⟩, hLL, -, ⟨U, k9, hk9, hu0, hu9, hU⟩, -⟩ := hR0
  have hln2 : ∀ t, t < 6 → τ.2.1 2 t = -1 ∨ ∃ z : Nat, z ≤ 4095 ∧ τ.2.1 2 t = nI z := fun t ht => (hLL t ht).2.2
  have hln1 : ∀ t, t < 6 → σ.1 (9 + t) 1 = -1 ∨ ∃ z : Nat, z ≤ 4095 ∧ σ.1 (9 + t) 1 = nI z := fun t ht => by rw [(hLL t ht).1]; exact (hLL t ht).2.2
  have hU2 : ∀ t, t < 6 → τ.2.1 5 t = nI (U t) ∧ U t < 2 ^ 30 := fun t ht => ⟨(hU t ht).2.1, by have := (hU t ht).2.2; omega⟩
  have hU1 : ∀ t, t < 6 → σ.2.1 (9 + t) = lN (U t) := fun t ht => (hU t ht).1
  have hf0 : cells ≤ room_1.cells ∧ slots ≤ room_1.slots := ⟨by omega, by omega⟩
  refine lv_aload_n hx hb d_Law_law_586 rfl (lv_at hl 3 rfl) ?_
  refine pw_arg F V (lv_at hl 4 rfl) (lv_at hl 0 rfl) 1 (by omega) (by decide) d_Law_law_587 d_Law_law_588 d_Law_law_590 d_Law_law_591 d_Law_law_592 ?_
  refine pw_arg F V (lv_at hl 4 rfl) (lv_at hl 0 rfl) 2 (by omega) (by decide) d_Law_law_593 d_Law_law_594 d_Law_law_596 d_Law_law_597 d_Law_law_598 ?_
  refine pw_cr (As := [.int (xs (5 * k + 1)), .int (xs (5 * k + 2))]) (rest := []) F V (c_Shelf_about (xs (5 * k + 1)) (xs (5 * k + 2))) (cwV 2 hT (ps_gV ml_Law_76 im_Shelf_about se_Shelf_about in_Shelf co_Shelf_about) rfl rfl rfl cd_Shelf_about ⟨(Nat.le_of_ble_eq_true rfl), (Nat.le_of_ble_eq_true rfl)⟩) rfl hl.1 rfl (Nat.le_of_ble_eq_true rfl) d_Law_law_599 hf0 (fun r hp => ?_)
  refine lv_aload_n hx hb d_Law_law_602 rfl (lv_at hl 2 rfl) ?_
  refine pw_arg F V (lv_at hl 4 rfl) (lv_at hl 0 rfl) 1 (by omega) (by decide) d_Law_law_603 d_Law_law_604 d_Law_law_606 d_Law_law_607 d_Law_law_608 ?_
  refine pw_arg F V (lv_at hl 4 rfl) (lv_at hl 0 rfl) 2 (by omega) (by decide) d_Law_law_609 d_Law_law_610 d_Law_law_612 d_Law_law_613 d_Law_law_614 ?_
  refine pw_mw (As := [.int (xs (5 * k + 1)), .int (xs (5 * k + 2))]) (rest := [.int r]) F V (c_Model_about hgm hln2 (xs (5 * k + 1)) (xs (5 * k + 2))) (cwV 2 hT (ps_gV ml_Law_80 im_Model_about se_Model_about in_Model co_Model_about) rfl rfl rfl cd_Model_about ⟨(Nat.le_of_ble_eq_true rfl), (Nat.le_of_ble_eq_true rfl)⟩) rfl hl.1 rfl (Nat.le_of_ble_eq_true rfl) d_Law_law_615 hf0 (fun r2 v H locs hp2 V => ?_)
  obtain ⟨e1, hR1⟩ := pl_aboutR hR hp hp2
  refine lv_icmp_eq (tgt := 660) hx hb d_Law_law_618 (by decide) (fun _ => ?_) (fun h => absurd e1 h)
  exact W.widen (Nat.le_add_right _ _) (Nat.le_add_right _ _) (ih _ _ _ _ _ _ V hR1 hl)

set_option maxHeartbeats 4000000 in
theorem pw_b_held {p : Program} {l : Launch} {e : Env} {s : State} {m : MethodId} {args : Array Value} {below : List Frame} {meth : Method} {c : Code} {H : Heap} {locs : List Loc} {cells slots : Nat} {Q : State → Prop} {ls : Array Slot} {D : va_G} {cI cJ cT : ClassId} {D2 : va_G} {cI2 cZ : ClassId} {g gm : Nat → Nat} {ao b L k : Nat} {xs : Nat → Int32} {aK aV : Nat} {vo : Option Nat} {m1 m2 m3 : Nat} {σ : ps_σ} {τ : pm_τ} {f : Nat → Int64} (F : pw_F p l s m args c D cI cJ cT D2 cI2 cZ g gm ao b L xs aK aV vo m1 m2 m3) (V : pw_V s D cI cJ cT D2 cI2 cZ g gm ao H locs σ τ f) (hR : pl_R σ τ k) (hk5 : 5 * k + 5 ≤ L) (hf : cells + 1 ≤ room_1.cells ∧ slots + 6 ≤ room_1.slots) (hl : lv_has ls 7 (pw_lv b g gm ao k)) (ih : ∀ (u : ps_σ) (v : pm_τ) (o : Nat → Int64) (H : Heap) (locs : List Loc) (ls : Array Slot), pw_V s D cI cJ cT D2 cI2 cZ g gm ao H locs u v o → pl_R u v (k + 1) → lv_has ls 7 (pw_lv b g gm ao k) → W p l e room_1 s m args below meth c H locs (cells + 1) (slots + 6) Q (F0 m 660 ls [])) : W p l e room_1 s m args below meth c H locs cells slots Q (F0 m 623 ls []) := by
  have hF := F
  obtain ⟨⟨hx, hb, hml, hown, hT⟩, -, ⟨-, -, hL⟩, ⟨hg, hgm, hd1, hd2, hd3⟩, -, hst, -⟩ := hF
  have hR0 := hR
  obtain ⟨⟨n, hn60, hn1, hn2, hsg⟩, ⟨⟨rm, hrm, hrm1, hrm2⟩, cc, hcc, hco1, hco2⟩, hLL, -, ⟨U, k9, hk9, hu0, hu9, hU⟩, -⟩ := hR0
  have hln2 : ∀ t, t < 6 → τ.2.1 2 t = -1 ∨ ∃ z : Nat, z ≤ 4095 ∧ τ.2.1 2 t = nI z := fun t ht => (hLL t ht).2.2
  have hln1 : ∀ t, t < 6 → σ.1 (9 + t) 1 = -1 ∨ ∃ z : Nat, z ≤ 4095 ∧ σ.1 (9 + t) 1 = nI z := fun t ht => by rw [(hLL t ht).1]; exact (hLL t ht).2.2
  have hU2 : ∀ t, t < 6 → τ.2.1 5 t = nI (U t) ∧ U t < 2 ^ 30 := fun t ht => ⟨(hU t ht).2.1, by have := (hU t ht).2.2; omega⟩
  have hU1 : ∀ t, t < 6 → σ.2.1 (9 + t) = lN (U t) := fun t ht => (hU t ht).1
  have hf0 : cells ≤ room_1.cells ∧ slots ≤ room_1.slots := ⟨by omega, by omega⟩
  refine lv_aload_n hx hb d_Law_law_623 rfl (lv_at hl 3 rfl) ?_
  refine pw_arg F V (lv_at hl 4 rfl) (lv_at hl 0 rfl) 1 (by omega) (by decide) d_Law_law_624 d_Law_law_625 d_Law_law_627 d_Law_law_628 d_Law_law_629 ?_
  refine pw_arg F V (lv_at hl 4 rfl) (lv_at hl 0 rfl) 2 (by omega) (by decide) d_Law_law_630 d_Law_law_631 d_Law_law_633 d_Law_law_634 d_Law_law_635 ?_
  refine pw_cr (As := [.int (xs (5 * k + 1)), .int (xs (5 * k + 2))]) (rest := []) F V (c_Shelf_held (xs (5 * k + 1)) (xs (5 * k + 2))) (cwV 2 hT (ps_gV ml_Law_81 im_Shelf_held se_Shelf_held in_Shelf co_Shelf_held) rfl rfl rfl cd_Shelf_held ⟨(Nat.le_of_ble_eq_true rfl), (Nat.le_of_ble_eq_true rfl)⟩) rfl hl.1 rfl (Nat.le_of_ble_eq_true rfl) d_Law_law_636 hf0 (fun r hp => ?_)
  refine lv_aload_n hx hb d_Law_law_639 rfl (lv_at hl 2 rfl) ?_
  refine pw_arg F V (lv_at hl 4 rfl) (lv_at hl 0 rfl) 1 (by omega) (by decide) d_Law_law_640 d_Law_law_641 d_Law_law_643 d_Law_law_644 d_Law_law_645 ?_
  refine pw_arg F V (lv_at hl 4 rfl) (lv_at hl 0 rfl) 2 (by omega) (by decide) d_Law_law_646 d_Law_law_647 d_Law_law_649 d_Law_law_650 d_Law_law_651 ?_
  refine pw_mw (As := [.int (xs (5 * k + 1)), .int (xs (5 * k + 2))]) (rest := [.int r]) F V (c_Model_held hgm (xs (5 * k + 1)) (xs (5 * k + 2))) (cwV 2 hT (ps_gV ml_Law_84 im_Model_held se_Model_held in_Model co_Model_held) rfl rfl rfl cd_Model_held ⟨(Nat.le_of_ble_eq_true rfl), (Nat.le_of_ble_eq_true rfl)⟩) rfl hl.1 rfl (Nat.le_of_ble_eq_true rfl) d_Law_law_652 hf0 (fun r2 v H locs hp2 V => ?_)
  obtain ⟨e1, hR1⟩ := pl_heldR hR hp hp2
  refine lv_icmp_eq (tgt := 660) hx hb d_Law_law_655 (by decide) (fun _ => ?_) (fun h => absurd e1 h)
  exact W.widen (Nat.le_add_right _ _) (Nat.le_add_right _ _) (ih _ _ _ _ _ _ V hR1 hl)

set_option maxHeartbeats 4000000 in
theorem pw_b_answer {p : Program} {l : Launch} {e : Env} {s : State} {m : MethodId} {args : Array Value} {below : List Frame} {meth : Method} {c : Code} {H : Heap} {locs : List Loc} {cells slots : Nat} {Q : State → Prop} {ls : Array Slot} {D : va_G} {cI cJ cT : ClassId} {D2 : va_G} {cI2 cZ : ClassId} {g gm : Nat → Nat} {ao b L k : Nat} {xs : Nat → Int32} {aK aV : Nat} {vo : Option Nat} {m1 m2 m3 : Nat} {σ : ps_σ} {τ : pm_τ} {f : Nat → Int64} (F : pw_F p l s m args c D cI cJ cT D2 cI2 cZ g gm ao b L xs aK aV vo m1 m2 m3) (V : pw_V s D cI cJ cT D2 cI2 cZ g gm ao H locs σ τ f) (hR : pl_R σ τ k) (hk5 : 5 * k + 5 ≤ L) (hf : cells + 1 ≤ room_1.cells ∧ slots + 6 ≤ room_1.slots) (hl : lv_has ls 7 (pw_lv b g gm ao k)) (ih : ∀ (u : ps_σ) (v : pm_τ) (o : Nat → Int64) (H : Heap) (locs : List Loc) (ls : Array Slot), pw_V s D cI cJ cT D2 cI2 cZ g gm ao H locs u v o → pl_R u v (k + 1) → lv_has ls 7 (pw_lv b g gm ao k) → W p l e room_1 s m args below meth c H locs (cells + 1) (slots + 6) Q (F0 m 660 ls [])) : W p l e room_1 s m args below meth c H locs cells slots Q (F0 m 300 ls []) := by
  have hF := F
  obtain ⟨⟨hx, hb, hml, hown, hT⟩, -, ⟨-, -, hL⟩, ⟨hg, hgm, hd1, hd2, hd3⟩, -, hst, -⟩ := hF
  have hR0 := hR
  obtain ⟨⟨n, hn60, hn1, hn2, hsg⟩, ⟨⟨rm, hrm, hrm1, hrm2⟩, cc, hcc, hco1, hco2⟩, hLL, -, ⟨U, k9, hk9, hu0, hu9, hU⟩, -⟩ := hR0
  have hln2 : ∀ t, t < 6 → τ.2.1 2 t = -1 ∨ ∃ z : Nat, z ≤ 4095 ∧ τ.2.1 2 t = nI z := fun t ht => (hLL t ht).2.2
  have hln1 : ∀ t, t < 6 → σ.1 (9 + t) 1 = -1 ∨ ∃ z : Nat, z ≤ 4095 ∧ σ.1 (9 + t) 1 = nI z := fun t ht => by rw [(hLL t ht).1]; exact (hLL t ht).2.2
  have hU2 : ∀ t, t < 6 → τ.2.1 5 t = nI (U t) ∧ U t < 2 ^ 30 := fun t ht => ⟨(hU t ht).2.1, by have := (hU t ht).2.2; omega⟩
  have hU1 : ∀ t, t < 6 → σ.2.1 (9 + t) = lN (U t) := fun t ht => (hU t ht).1
  have hf0 : cells ≤ room_1.cells ∧ slots ≤ room_1.slots := ⟨by omega, by omega⟩
  refine lv_aload_n hx hb d_Law_law_300 rfl (lv_at hl 3 rfl) ?_
  refine pw_arg F V (lv_at hl 4 rfl) (lv_at hl 0 rfl) 1 (by omega) (by decide) d_Law_law_301 d_Law_law_302 d_Law_law_304 d_Law_law_305 d_Law_law_306 ?_
  refine lv_aload_n hx hb d_Law_law_307 rfl (lv_at hl 1 rfl) ?_
  refine pw_ww (na := 3) (As := [.ref (g 0), .int (xs (5 * k + 1)), .ref ao]) (rest := []) F V (c_Law_answer hg hst hd2 n hn1 hn60 cc hcc hco1 hln1 (xs (5 * k + 1))) rfl cw_Law_answer sw_Law_answer in_Law ml_Law_50 (by decide +kernel) rfl rfl ⟨(Nat.le_of_ble_eq_true rfl), (Nat.le_of_ble_eq_true rfl)⟩ rfl hl.1 rfl (Nat.le_of_ble_eq_true rfl) d_Law_law_308 hf (fun r u o H locs hp V => ?_)
  refine lv_istore (lv' := (5, .int r) :: pw_lv b g gm ao k) hx hb d_Law_law_311 hl (by decide) rfl (fun ls hl => ?_)
  refine lv_aload_n hx hb d_Law_law_313 rfl (lv_at hl 3 rfl) ?_
  refine pw_arg F V (lv_at hl 5 rfl) (lv_at hl 1 rfl) 1 (by omega) (by decide) d_Law_law_314 d_Law_law_315 d_Law_law_317 d_Law_law_318 d_Law_law_319 ?_
  refine pw_mw (As := [.int (xs (5 * k + 1))]) (rest := []) F V (c_Model_answer hgm n hn2 hn60 k9 hu9 cc hcc hco2 hln2 (xs (5 * k + 1))) (cwV 1 hT (ps_gV ml_Law_55 im_Model_answer se_Model_answer in_Model co_Model_answer) rfl rfl rfl cd_Model_answer ⟨(Nat.le_of_ble_eq_true rfl), (Nat.le_of_ble_eq_true rfl)⟩) rfl hl.1 rfl (Nat.le_of_ble_eq_true rfl) d_Law_law_320 hf (fun r2 v H locs hp2 V => ?_)
  refine lv_istore (lv' := (6, .int r2) :: (5, .int r) :: pw_lv b g gm ao k) hx hb d_Law_law_323 hl (by decide) rfl (fun ls hl => ?_)
  obtain ⟨e1, e2, -, hR1⟩ := pl_answerR hR hn1 hn60 hsg hu0 hk9 hu9 hp hp2
  refine lv_aload_n hx hb d_Law_law_325 rfl (lv_at hl 4 rfl) ?_
  refine pw_mr (As := []) (rest := []) F V (c_Model_thrown) (cwV 0 hT (ps_gV ml_Law_56 im_Model_thrown se_Model_thrown in_Model co_Model_thrown) rfl rfl rfl cd_Model_thrown ⟨(Nat.le_of_ble_eq_true rfl), (Nat.le_of_ble_eq_true rfl)⟩) rfl hl.1 rfl (Nat.le_of_ble_eq_true rfl) d_Law_law_326 hf (fun r3 hp3 => ?_)
  refine lv_iload hx hb d_Law_law_329 (lv_at hl 1 rfl) ?_
  refine lv_icmp_eq (tgt := 336) hx hb d_Law_law_331 (by decide) (fun _ => ?_) (fun h => absurd (hp3.trans e1) h)
  refine lv_iload hx hb d_Law_law_336 (lv_at hl 1 rfl) ?_
  refine lv_if_ne (tgt := 353) hx hb d_Law_law_338 (by decide) (fun _ => ?_) (fun h0 => ?_)
  · refine lv_goto (tgt := 660) hx hb d_Law_law_353 (by decide) ?_
    exact ih _ _ _ _ _ _ V hR1 (lv_sub hl [2, 3, 4, 5, 6] rfl)
  · refine lv_aload_n hx hb d_Law_law_341 rfl (lv_at hl 3 rfl) ?_
    refine lv_iconst (v := nI 0) hx hb d_Law_law_342 (by decide) ?_
    refine pw_out F V d_Law_law_343 ?_
    refine lv_iload hx hb d_Law_law_344 (lv_at hl 0 rfl) ?_
    refine lv_i2l (v := r2.toInt64) hx hb d_Law_law_346 rfl ?_
    refine W.lcmp hx hb d_Law_law_347 ?_
    refine lv_if_eq (tgt := 353) hx hb d_Law_law_348 (by decide) (fun _ => ?_) (fun h => absurd (ps_lcmp0.mpr (e2 (h0.trans (by decide)))) h)
    refine lv_goto (tgt := 660) hx hb d_Law_law_353 (by decide) ?_
    exact ih _ _ _ _ _ _ V hR1 (lv_sub hl [2, 3, 4, 5, 6] rfl)

set_option maxHeartbeats 4000000 in
theorem pw_b_row {p : Program} {l : Launch} {e : Env} {s : State} {m : MethodId} {args : Array Value} {below : List Frame} {meth : Method} {c : Code} {H : Heap} {locs : List Loc} {cells slots : Nat} {Q : State → Prop} {ls : Array Slot} {D : va_G} {cI cJ cT : ClassId} {D2 : va_G} {cI2 cZ : ClassId} {g gm : Nat → Nat} {ao b L k : Nat} {xs : Nat → Int32} {aK aV : Nat} {vo : Option Nat} {m1 m2 m3 : Nat} {σ : ps_σ} {τ : pm_τ} {f : Nat → Int64} (F : pw_F p l s m args c D cI cJ cT D2 cI2 cZ g gm ao b L xs aK aV vo m1 m2 m3) (V : pw_V s D cI cJ cT D2 cI2 cZ g gm ao H locs σ τ f) (hR : pl_R σ τ k) (hk5 : 5 * k + 5 ≤ L) (hf : cells + 1 ≤ room_1.cells ∧ slots + 6 ≤ room_1.slots) (hl : lv_has ls 7 (pw_lv b g gm ao k)) (ih : ∀ (u : ps_σ) (v : pm_τ) (o : Nat → Int64) (H : Heap) (locs : List Loc) (ls : Array Slot), pw_V s D cI cJ cT D2 cI2 cZ g gm ao H locs u v o → pl_R u v (k + 1) → lv_has ls 7 (pw_lv b g gm ao k) → W p l e room_1 s m args below meth c H locs (cells + 1) (slots + 6) Q (F0 m 660 ls [])) : W p l e room_1 s m args below meth c H locs cells slots Q (F0 m 381 ls []) := by
  have hF := F
  obtain ⟨⟨hx, hb, hml, hown, hT⟩, -, ⟨-, -, hL⟩, ⟨hg, hgm, hd1, hd2, hd3⟩, -, hst, -⟩ := hF
  have hR0 := hR
  obtain ⟨⟨n, hn60, hn1, hn2, hsg⟩, ⟨⟨rm, hrm, hrm1, hrm2⟩, cc, hcc, hco1, hco2⟩, hLL, -, ⟨U, k9, hk9, hu0, hu9, hU⟩, -⟩ := hR0
  have hln2 : ∀ t, t < 6 → τ.2.1 2 t = -1 ∨ ∃ z : Nat, z ≤ 4095 ∧ τ.2.1 2 t = nI z := fun t ht => (hLL t ht).2.2
  have hln1 : ∀ t, t < 6 → σ.1 (9 + t) 1 = -1 ∨ ∃ z : Nat, z ≤ 4095 ∧ σ.1 (9 + t) 1 = nI z := fun t ht => by rw [(hLL t ht).1]; exact (hLL t ht).2.2
  have hU2 : ∀ t, t < 6 → τ.2.1 5 t = nI (U t) ∧ U t < 2 ^ 30 := fun t ht => ⟨(hU t ht).2.1, by have := (hU t ht).2.2; omega⟩
  have hU1 : ∀ t, t < 6 → σ.2.1 (9 + t) = lN (U t) := fun t ht => (hU t ht).1
  have hf0 : cells ≤ room_1.cells ∧ slots ≤ room_1.slots := ⟨by omega, by omega⟩
  obtain ⟨P, hP6, h61, hv, h16, hv2, hk0⟩ := pl_rows hR
  refine lv_aload_n hx hb d_Law_law_381 rfl (lv_at hl 3 rfl) ?_
  refine pw_arg F V (lv_at hl 4 rfl) (lv_at hl 0 rfl) 1 (by omega) (by decide) d_Law_law_382 d_Law_law_383 d_Law_law_385 d_Law_law_386 d_Law_law_387 ?_
  refine pw_arg F V (lv_at hl 4 rfl) (lv_at hl 0 rfl) 2 (by omega) (by decide) d_Law_law_388 d_Law_law_389 d_Law_law_391 d_Law_law_392 d_Law_law_393 ?_
  refine pw_bool hx hb d_Law_law_394 d_Law_law_397 d_Law_law_398 d_Law_law_401 ?_
  refine lv_aload_n hx hb d_Law_law_402 rfl (lv_at hl 1 rfl) ?_
  refine pw_ww (na := 4) (As := [.ref (g 0), .int (xs (5 * k + 1)), .int (ps_bI (!decide ((xs (5 * k + 2)) = 0))), .ref ao]) (rest := []) F V (c_Law_row hg hst hd2 P hP6 h61 hv (xs (5 * k + 1)) (!decide ((xs (5 * k + 2)) = 0))) rfl cw_Law_row sw_Law_row in_Law ml_Law_64 (by decide +kernel) rfl rfl ⟨(Nat.le_of_ble_eq_true rfl), (Nat.le_of_ble_eq_true rfl)⟩ rfl hl.1 rfl (Nat.le_of_ble_eq_true rfl) d_Law_law_403 hf (fun r u o H locs hp V => ?_)
  refine lv_istore (lv' := (5, .int r) :: pw_lv b g gm ao k) hx hb d_Law_law_406 hl (by decide) rfl (fun ls hl => ?_)
  refine lv_aload_n hx hb d_Law_law_408 rfl (lv_at hl 3 rfl) ?_
  refine pw_arg F V (lv_at hl 5 rfl) (lv_at hl 1 rfl) 1 (by omega) (by decide) d_Law_law_409 d_Law_law_410 d_Law_law_412 d_Law_law_413 d_Law_law_414 ?_
  refine pw_arg F V (lv_at hl 5 rfl) (lv_at hl 1 rfl) 2 (by omega) (by decide) d_Law_law_415 d_Law_law_416 d_Law_law_418 d_Law_law_419 d_Law_law_420 ?_
  refine pw_bool hx hb d_Law_law_421 d_Law_law_424 d_Law_law_425 d_Law_law_428 ?_
  refine pw_mw (As := [.int (xs (5 * k + 1)), .int (ps_bI (!decide ((xs (5 * k + 2)) = 0)))]) (rest := []) F V (c_Model_row hgm P hP6 h16 hv2 hk0 (xs (5 * k + 1)) (!decide ((xs (5 * k + 2)) = 0))) (cwV 2 hT (ps_gV ml_Law_67 im_Model_row se_Model_row in_Model co_Model_row) rfl rfl rfl cd_Model_row ⟨(Nat.le_of_ble_eq_true rfl), (Nat.le_of_ble_eq_true rfl)⟩) rfl hl.1 rfl (Nat.le_of_ble_eq_true rfl) d_Law_law_429 hf (fun r2 v H locs hp2 V => ?_)
  refine lv_istore (lv' := (6, .int r2) :: (5, .int r) :: pw_lv b g gm ao k) hx hb d_Law_law_432 hl (by decide) rfl (fun ls hl => ?_)
  obtain ⟨e1, e2, -, hR1⟩ := pl_rowR hR (by omega) hp hp2
  refine lv_aload_n hx hb d_Law_law_434 rfl (lv_at hl 4 rfl) ?_
  refine pw_mr (As := []) (rest := []) F V (c_Model_thrown) (cwV 0 hT (ps_gV ml_Law_56 im_Model_thrown se_Model_thrown in_Model co_Model_thrown) rfl rfl rfl cd_Model_thrown ⟨(Nat.le_of_ble_eq_true rfl), (Nat.le_of_ble_eq_true rfl)⟩) rfl hl.1 rfl (Nat.le_of_ble_eq_true rfl) d_Law_law_435 hf (fun r3 hp3 => ?_)
  refine lv_iload hx hb d_Law_law_438 (lv_at hl 1 rfl) ?_
  refine lv_icmp_eq (tgt := 445) hx hb d_Law_law_440 (by decide) (fun _ => ?_) (fun h => absurd (hp3.trans e1) h)
  refine lv_iload hx hb d_Law_law_445 (lv_at hl 1 rfl) ?_
  refine lv_if_ne (tgt := 462) hx hb d_Law_law_447 (by decide) (fun _ => ?_) (fun h0 => ?_)
  · refine lv_goto (tgt := 660) hx hb d_Law_law_462 (by decide) ?_
    exact ih _ _ _ _ _ _ V hR1 (lv_sub hl [2, 3, 4, 5, 6] rfl)
  · refine lv_aload_n hx hb d_Law_law_450 rfl (lv_at hl 3 rfl) ?_
    refine lv_iconst (v := nI 0) hx hb d_Law_law_451 (by decide) ?_
    refine pw_out F V d_Law_law_452 ?_
    refine lv_iload hx hb d_Law_law_453 (lv_at hl 0 rfl) ?_
    refine lv_i2l (v := r2.toInt64) hx hb d_Law_law_455 rfl ?_
    refine W.lcmp hx hb d_Law_law_456 ?_
    refine lv_if_eq (tgt := 462) hx hb d_Law_law_457 (by decide) (fun _ => ?_) (fun h => absurd (ps_lcmp0.mpr (e2 (h0.trans (by decide)))) h)
    refine lv_goto (tgt := 660) hx hb d_Law_law_462 (by decide) ?_
    exact ih _ _ _ _ _ _ V hR1 (lv_sub hl [2, 3, 4, 5, 6] rfl)

set_option maxHeartbeats 4000000 in
theorem pw_b_fetch {p : Program} {l : Launch} {e : Env} {s : State} {m : MethodId} {args : Array Value} {below : List Frame} {meth : Method} {c : Code} {H : Heap} {locs : List Loc} {cells slots : Nat} {Q : State → Prop} {ls : Array Slot} {D : va_G} {cI cJ cT : ClassId} {D2 : va_G} {cI2 cZ : ClassId} {g gm : Nat → Nat} {ao b L k : Nat} {xs : Nat → Int32} {aK aV : Nat} {vo : Option Nat} {m1 m2 m3 : Nat} {σ : ps_σ} {τ : pm_τ} {f : Nat → Int64} (F : pw_F p l s m args c D cI cJ cT D2 cI2 cZ g gm ao b L xs aK aV vo m1 m2 m3) (V : pw_V s D cI cJ cT D2 cI2 cZ g gm ao H locs σ τ f) (hR : pl_R σ τ k) (hk5 : 5 * k + 5 ≤ L) (hf : cells + 1 ≤ room_1.cells ∧ slots + 6 ≤ room_1.slots) (hl : lv_has ls 7 (pw_lv b g gm ao k)) (ih : ∀ (u : ps_σ) (v : pm_τ) (o : Nat → Int64) (H : Heap) (locs : List Loc) (ls : Array Slot), pw_V s D cI cJ cT D2 cI2 cZ g gm ao H locs u v o → pl_R u v (k + 1) → lv_has ls 7 (pw_lv b g gm ao k) → W p l e room_1 s m args below meth c H locs (cells + 1) (slots + 6) Q (F0 m 660 ls [])) : W p l e room_1 s m args below meth c H locs cells slots Q (F0 m 465 ls []) := by
  have hF := F
  obtain ⟨⟨hx, hb, hml, hown, hT⟩, -, ⟨-, -, hL⟩, ⟨hg, hgm, hd1, hd2, hd3⟩, -, hst, -⟩ := hF
  have hR0 := hR
  obtain ⟨⟨n, hn60, hn1, hn2, hsg⟩, ⟨⟨rm, hrm, hrm1, hrm2⟩, cc, hcc, hco1, hco2⟩, hLL, -, ⟨U, k9, hk9, hu0, hu9, hU⟩, -⟩ := hR0
  have hln2 : ∀ t, t < 6 → τ.2.1 2 t = -1 ∨ ∃ z : Nat, z ≤ 4095 ∧ τ.2.1 2 t = nI z := fun t ht => (hLL t ht).2.2
  have hln1 : ∀ t, t < 6 → σ.1 (9 + t) 1 = -1 ∨ ∃ z : Nat, z ≤ 4095 ∧ σ.1 (9 + t) 1 = nI z := fun t ht => by rw [(hLL t ht).1]; exact (hLL t ht).2.2
  have hU2 : ∀ t, t < 6 → τ.2.1 5 t = nI (U t) ∧ U t < 2 ^ 30 := fun t ht => ⟨(hU t ht).2.1, by have := (hU t ht).2.2; omega⟩
  have hU1 : ∀ t, t < 6 → σ.2.1 (9 + t) = lN (U t) := fun t ht => (hU t ht).1
  have hf0 : cells ≤ room_1.cells ∧ slots ≤ room_1.slots := ⟨by omega, by omega⟩
  obtain ⟨P, hOK, hP2, h67, h31, h32, h21, hv2, hk0⟩ := pl_plans hR
  refine lv_aload_n hx hb d_Law_law_465 rfl (lv_at hl 3 rfl) ?_
  refine pw_arg F V (lv_at hl 4 rfl) (lv_at hl 0 rfl) 1 (by omega) (by decide) d_Law_law_466 d_Law_law_467 d_Law_law_469 d_Law_law_470 d_Law_law_471 ?_
  refine pw_arg F V (lv_at hl 4 rfl) (lv_at hl 0 rfl) 2 (by omega) (by decide) d_Law_law_472 d_Law_law_473 d_Law_law_475 d_Law_law_476 d_Law_law_477 ?_
  refine pw_bool hx hb d_Law_law_478 d_Law_law_481 d_Law_law_482 d_Law_law_485 ?_
  refine lv_aload_n hx hb d_Law_law_486 rfl (lv_at hl 1 rfl) ?_
  refine pw_ww (na := 4) (As := [.ref (g 0), .int (xs (5 * k + 1)), .int (ps_bI (!decide ((xs (5 * k + 2)) = 0))), .ref ao]) (rest := []) F V (c_Law_fetch hg hst hd2 P hOK h67 (by omega) h31 h32 (xs (5 * k + 1)) (!decide ((xs (5 * k + 2)) = 0))) rfl cw_Law_fetch sw_Law_fetch in_Law ml_Law_68 (by decide +kernel) rfl rfl ⟨(Nat.le_of_ble_eq_true rfl), (Nat.le_of_ble_eq_true rfl)⟩ rfl hl.1 rfl (Nat.le_of_ble_eq_true rfl) d_Law_law_487 hf (fun r u o H locs hp V => ?_)
  refine lv_istore (lv' := (5, .int r) :: pw_lv b g gm ao k) hx hb d_Law_law_490 hl (by decide) rfl (fun ls hl => ?_)
  refine lv_aload_n hx hb d_Law_law_492 rfl (lv_at hl 3 rfl) ?_
  refine pw_arg F V (lv_at hl 5 rfl) (lv_at hl 1 rfl) 1 (by omega) (by decide) d_Law_law_493 d_Law_law_494 d_Law_law_496 d_Law_law_497 d_Law_law_498 ?_
  refine pw_arg F V (lv_at hl 5 rfl) (lv_at hl 1 rfl) 2 (by omega) (by decide) d_Law_law_499 d_Law_law_500 d_Law_law_502 d_Law_law_503 d_Law_law_504 ?_
  refine pw_bool hx hb d_Law_law_505 d_Law_law_508 d_Law_law_509 d_Law_law_512 ?_
  refine pw_mw (As := [.int (xs (5 * k + 1)), .int (ps_bI (!decide ((xs (5 * k + 2)) = 0)))]) (rest := []) F V (c_Model_fetch hgm P hP2 h21 hv2 hk0 (xs (5 * k + 1)) (!decide ((xs (5 * k + 2)) = 0))) (cwV 2 hT (ps_gV ml_Law_70 im_Model_fetch se_Model_fetch in_Model co_Model_fetch) rfl rfl rfl cd_Model_fetch ⟨(Nat.le_of_ble_eq_true rfl), (Nat.le_of_ble_eq_true rfl)⟩) rfl hl.1 rfl (Nat.le_of_ble_eq_true rfl) d_Law_law_513 hf (fun r2 v H locs hp2 V => ?_)
  refine lv_istore (lv' := (6, .int r2) :: (5, .int r) :: pw_lv b g gm ao k) hx hb d_Law_law_516 hl (by decide) rfl (fun ls hl => ?_)
  obtain ⟨e1, e2, -, hR1⟩ := pl_rowR hR (by omega) hp hp2
  refine lv_aload_n hx hb d_Law_law_518 rfl (lv_at hl 4 rfl) ?_
  refine pw_mr (As := []) (rest := []) F V (c_Model_thrown) (cwV 0 hT (ps_gV ml_Law_56 im_Model_thrown se_Model_thrown in_Model co_Model_thrown) rfl rfl rfl cd_Model_thrown ⟨(Nat.le_of_ble_eq_true rfl), (Nat.le_of_ble_eq_true rfl)⟩) rfl hl.1 rfl (Nat.le_of_ble_eq_true rfl) d_Law_law_519 hf (fun r3 hp3 => ?_)
  refine lv_iload hx hb d_Law_law_522 (lv_at hl 1 rfl) ?_
  refine lv_icmp_eq (tgt := 529) hx hb d_Law_law_524 (by decide) (fun _ => ?_) (fun h => absurd (hp3.trans e1) h)
  refine lv_iload hx hb d_Law_law_529 (lv_at hl 1 rfl) ?_
  refine lv_if_ne (tgt := 546) hx hb d_Law_law_531 (by decide) (fun _ => ?_) (fun h0 => ?_)
  · refine lv_goto (tgt := 660) hx hb d_Law_law_546 (by decide) ?_
    exact ih _ _ _ _ _ _ V hR1 (lv_sub hl [2, 3, 4, 5, 6] rfl)
  · refine lv_aload_n hx hb d_Law_law_534 rfl (lv_at hl 3 rfl) ?_
    refine lv_iconst (v := nI 0) hx hb d_Law_law_535 (by decide) ?_
    refine pw_out F V d_Law_law_536 ?_
    refine lv_iload hx hb d_Law_law_537 (lv_at hl 0 rfl) ?_
    refine lv_i2l (v := r2.toInt64) hx hb d_Law_law_539 rfl ?_
    refine W.lcmp hx hb d_Law_law_540 ?_
    refine lv_if_eq (tgt := 546) hx hb d_Law_law_541 (by decide) (fun _ => ?_) (fun h => absurd (ps_lcmp0.mpr (e2 (h0.trans (by decide)))) h)
    refine lv_goto (tgt := 660) hx hb d_Law_law_546 (by decide) ?_
    exact ih _ _ _ _ _ _ V hR1 (lv_sub hl [2, 3, 4, 5, 6] rfl)
