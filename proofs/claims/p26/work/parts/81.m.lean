theorem dX12_run_0 : decode cX12_run 0 = .ok (.aload_n 0, 1) := by decide +kernel
theorem dX12_run_1 : decode cX12_run 1 = .ok (.invokevirtual 329, 3) := by decide +kernel
theorem dX12_run_4 : decode cX12_run 4 = .ok (.ifCond .eq 36, 3) := by decide +kernel
theorem dX12_run_7 : decode cX12_run 7 = .ok (.aload_n 0, 1) := by decide +kernel
theorem dX12_run_8 : decode cX12_run 8 = .ok (.iload_n 1, 1) := by decide +kernel
theorem dX12_run_9 : decode cX12_run 9 = .ok (.invokevirtual 413, 3) := by decide +kernel
theorem dX12_run_12 : decode cX12_run 12 = .ok (.ifCond .eq 28, 3) := by decide +kernel
theorem dX12_run_15 : decode cX12_run 15 = .ok (.iload_n 2, 1) := by decide +kernel
theorem dX12_run_16 : decode cX12_run 16 = .ok (.i2l, 1) := by decide +kernel
theorem dX12_run_17 : decode cX12_run 17 = .ok (.lconst 1, 1) := by decide +kernel
theorem dX12_run_18 : decode cX12_run 18 = .ok (.ldc2_w 416, 3) := by decide +kernel
theorem dX12_run_21 : decode cX12_run 21 = .ok (.invokestatic 109, 3) := by decide +kernel
theorem dX12_run_24 : decode cX12_run 24 = .ok (.ifCond .eq 16, 3) := by decide +kernel
theorem dX12_run_27 : decode cX12_run 27 = .ok (.aload_n 0, 1) := by decide +kernel
theorem dX12_run_28 : decode cX12_run 28 = .ok (.getfield 39, 3) := by decide +kernel
theorem dX12_run_31 : decode cX12_run 31 = .ok (.iconst 3, 1) := by decide +kernel
theorem dX12_run_32 : decode cX12_run 32 = .ok (.iaload, 1) := by decide +kernel
theorem dX12_run_33 : decode cX12_run 33 = .ok (.iload_n 2, 1) := by decide +kernel
theorem dX12_run_34 : decode cX12_run 34 = .ok (.iadd, 1) := by decide +kernel
theorem dX12_run_35 : decode cX12_run 35 = .ok (.bipush 99, 2) := by decide +kernel
theorem dX12_run_37 : decode cX12_run 37 = .ok (.if_icmp .le 5, 3) := by decide +kernel
theorem dX12_run_40 : decode cX12_run 40 = .ok (.iconst (-1), 1) := by decide +kernel
theorem dX12_run_41 : decode cX12_run 41 = .ok (.ireturn, 1) := by decide +kernel
theorem dX12_run_42 : decode cX12_run 42 = .ok (.aload_n 0, 1) := by decide +kernel
theorem dX12_run_43 : decode cX12_run 43 = .ok (.iconst 0, 1) := by decide +kernel
theorem dX12_run_44 : decode cX12_run 44 = .ok (.putfield 274, 3) := by decide +kernel
theorem dX12_run_47 : decode cX12_run 47 = .ok (.iconst 0, 1) := by decide +kernel
theorem dX12_run_48 : decode cX12_run 48 = .ok (.istore_n 3, 1) := by decide +kernel
theorem dX12_run_49 : decode cX12_run 49 = .ok (.iload_n 3, 1) := by decide +kernel
theorem dX12_run_50 : decode cX12_run 50 = .ok (.iload_n 2, 1) := by decide +kernel
theorem dX12_run_51 : decode cX12_run 51 = .ok (.if_icmp .ge 14, 3) := by decide +kernel
theorem dX12_run_54 : decode cX12_run 54 = .ok (.aload_n 0, 1) := by decide +kernel
theorem dX12_run_55 : decode cX12_run 55 = .ok (.iload_n 1, 1) := by decide +kernel
theorem dX12_run_56 : decode cX12_run 56 = .ok (.invokevirtual 418, 3) := by decide +kernel
theorem dX12_run_59 : decode cX12_run 59 = .ok (.iinc 3 1, 3) := by decide +kernel
theorem dX12_run_62 : decode cX12_run 62 = .ok (.goto (-13), 3) := by decide +kernel
theorem dX12_run_65 : decode cX12_run 65 = .ok (.aload_n 0, 1) := by decide +kernel
theorem dX12_run_66 : decode cX12_run 66 = .ok (.getfield 39, 3) := by decide +kernel
theorem dX12_run_69 : decode cX12_run 69 = .ok (.iconst 3, 1) := by decide +kernel
theorem dX12_run_70 : decode cX12_run 70 = .ok (.iaload, 1) := by decide +kernel
theorem dX12_run_71 : decode cX12_run 71 = .ok (.ireturn, 1) := by decide +kernel
set_option maxHeartbeats 4000000 in
set_option maxRecDepth 100000 in
theorem c_X12_run (l : Launch) (D : va_G) (cs : Nat → ClassId) (kK kV : Nat → Nat) (a : Nat) (p0 : Int32) (p1 : Int32) (a_said : Nat) (a_said_c : Nat → Int32) (a_sign : Nat) (a_sign_c : Nat → Int32) (a_clause : Nat) (a_clause_c : Nat → Int32) (a_clauses : Nat) (a_clauses_c : Nat → Int32) (a_tape : Nat) (a__taped : Int32) (a__rules : Int32) (a_length : Nat) (a_read : Nat) (a__next : Int32) (a__wrong : Int32) (a__number : Int32) (a__text : Int32) (a__made : Int32) (a__deep : Int32) (a__lines : Int32) (a_open : Nat) (a__opened : Int32) (a_stack : Nat) (a__top : Int32) (a_word : Nat) (a__x : Int32) (a_worth : Nat) (a_mate : Nat) (a_wasSaid : Nat) (a__undone : Int32) (a__boughtNow : Int32) (a_wayBy : Nat) (a_wayThen : Nat) (a__walkMost : Int32) (a__walkGoing : Int32) (a__walkSet : Int32) (a_kept : Nat) (a__drawX : Int64) (a_images : Nat) (a_imageX : Nat) (a_isMade : Nat) (a_word_c : Nat → Int64) (a_stack_c : Nat → Int64) (h_a__taped : IV 0 400 a__taped) (h_a__rules : IV 0 6 a__rules) (h_a__next : IV 0 400 a__next) (h_a__text : IV 0 6 a__text) (h_a__made : IV 0 60 a__made) (h_a__lines : IV 0 40 a__lines) (h_a__opened : IV 0 400 a__opened) (h_a__top : IV 0 64 a__top) (h_a__x : IV 0 2147483647 a__x) (h_a__undone : IV 0 20 a__undone) (hf0 : BS a_said_c 200) (hf1 : TR a_said_c) (hf2 : (a_said_c 3).toInt ≤ 99) (hf3 : RUS a_sign_c a_clause_c a_clauses_c a__rules.toInt) (sz : Nat) : Met l yX12_run (hz_w yX12_run cX12_run 4 (some .int)) ({ frames := 8, cells := 0, slots := 0, locals := 187 }) (va_Pc [.ref a, .int p0, .int p1] (hz_C D cs kK kV sz [(a_said, .inl (cs 0, 123, .inl a_said_c)), (a_sign, .inl (cs 0, 2400, .inl a_sign_c)), (a_clause, .inl (cs 0, 360, .inl a_clause_c)), (a_clauses, .inl (cs 0, 6, .inl a_clauses_c)), (a, .inr (12, [.ref a_tape, .int a__taped, .int a__rules, .ref a_sign, .ref a_length, .ref a_clause, .ref a_clauses, .ref a_read, .int a__next, .int a__wrong, .int a__number, .int a__text, .int a__made, .int a__deep, .int a__lines, .ref a_open, .int a__opened, .ref a_stack, .int a__top, .ref a_word, .ref a_said, .int a__x, .ref a_worth, .ref a_mate, .ref a_wasSaid, .int a__undone, .int a__boughtNow, .ref a_wayBy, .ref a_wayThen, .int a__walkMost, .int a__walkGoing, .int a__walkSet, .ref a_kept, .long a__drawX, .ref a_images, .ref a_imageX, .ref a_isMade])), (a_word, .inl (cs 3, 13, .inr (.inl a_word_c))), (a_stack, .inl (cs 3, 64, .inr (.inl a_stack_c)))])) (va_Qi (fun (r : Int32) (u : (Nat → Int32) × (Nat → Nat → Int32)) => (r = (-1) ∧ IV 0 64 (u.1 1) ∧ IV 0 20 (u.1 2) ∧ (BS (u.2 0) 200) ∧ (TR (u.2 0)) ∧ (((u.2 0) 3).toInt ≤ 99) ∧ ((u.1 2) = a__undone)) ∨ (IV 0 200 r ∧ IV 1 6 a__rules ∧ IV 0 5 p0 ∧ IV 1 48 p1 ∧ IV 0 64 (u.1 1) ∧ IV 0 0 (u.1 2) ∧ (BS (u.2 0) 200) ∧ (TR (u.2 0)) ∧ (((u.2 0) 3).toInt ≤ 99))) (fun u t => ∃ (o_a_stack_c : Nat → Int64), ∃ (o_a_word_c : Nat → Int64), va_P D classes [(a_said, .inl (cs 0, 123, .inl (u.2 0))), (a_sign, .inl (cs 0, 2400, .inl a_sign_c)), (a_clause, .inl (cs 0, 360, .inl a_clause_c)), (a_clauses, .inl (cs 0, 6, .inl a_clauses_c)), (a, .inr (12, [.ref a_tape, .int a__taped, .int a__rules, .ref a_sign, .ref a_length, .ref a_clause, .ref a_clauses, .ref a_read, .int a__next, .int a__wrong, .int a__number, .int a__text, .int a__made, .int a__deep, .int a__lines, .ref a_open, .int a__opened, .ref a_stack, .int (u.1 1), .ref a_word, .ref a_said, .int a__x, .ref a_worth, .ref a_mate, .ref a_wasSaid, .int (u.1 2), .int (u.1 3), .ref a_wayBy, .ref a_wayThen, .int a__walkMost, .int a__walkGoing, .int a__walkSet, .ref a_kept, .long a__drawX, .ref a_images, .ref a_imageX, .ref a_isMade])), (a_word, .inl (cs 3, 13, .inr (.inl o_a_word_c))), (a_stack, .inl (cs 3, 64, .inr (.inl o_a_stack_c)))] t.heap ∧ va_D (va_A [(a_said, .inl (cs 0, 123, .inl a_said_c)), (a_sign, .inl (cs 0, 2400, .inl a_sign_c)), (a_clause, .inl (cs 0, 360, .inl a_clause_c)), (a_clauses, .inl (cs 0, 6, .inl a_clauses_c)), (a, .inr (12, [.ref a_tape, .int a__taped, .int a__rules, .ref a_sign, .ref a_length, .ref a_clause, .ref a_clauses, .ref a_read, .int a__next, .int a__wrong, .int a__number, .int a__text, .int a__made, .int a__deep, .int a__lines, .ref a_open, .int a__opened, .ref a_stack, .int a__top, .ref a_word, .ref a_said, .int a__x, .ref a_worth, .ref a_mate, .ref a_wasSaid, .int a__undone, .int a__boughtNow, .ref a_wayBy, .ref a_wayThen, .int a__walkMost, .int a__walkGoing, .int a__walkSet, .ref a_kept, .long a__drawX, .ref a_images, .ref a_imageX, .ref a_isMade])), (a_word, .inl (cs 3, 13, .inr (.inl a_word_c))), (a_stack, .inl (cs 3, 64, .inr (.inl a_stack_c)))] sz) [(a_said, .inl (cs 0, 123, .inl (u.2 0))), (a_sign, .inl (cs 0, 2400, .inl a_sign_c)), (a_clause, .inl (cs 0, 360, .inl a_clause_c)), (a_clauses, .inl (cs 0, 6, .inl a_clauses_c)), (a, .inr (12, [.ref a_tape, .int a__taped, .int a__rules, .ref a_sign, .ref a_length, .ref a_clause, .ref a_clauses, .ref a_read, .int a__next, .int a__wrong, .int a__number, .int a__text, .int a__made, .int a__deep, .int a__lines, .ref a_open, .int a__opened, .ref a_stack, .int (u.1 1), .ref a_word, .ref a_said, .int a__x, .ref a_worth, .ref a_mate, .ref a_wasSaid, .int (u.1 2), .int (u.1 3), .ref a_wayBy, .ref a_wayThen, .int a__walkMost, .int a__walkGoing, .int a__walkSet, .ref a_kept, .long a__drawX, .ref a_images, .ref a_imageX, .ref a_isMade])), (a_word, .inl (cs 3, 13, .inr (.inl o_a_word_c))), (a_stack, .inl (cs 3, 64, .inr (.inl o_a_stack_c)))]) (va_A [(a_said, .inl (cs 0, 123, .inl a_said_c)), (a_sign, .inl (cs 0, 2400, .inl a_sign_c)), (a_clause, .inl (cs 0, 360, .inl a_clause_c)), (a_clauses, .inl (cs 0, 6, .inl a_clauses_c)), (a, .inr (12, [.ref a_tape, .int a__taped, .int a__rules, .ref a_sign, .ref a_length, .ref a_clause, .ref a_clauses, .ref a_read, .int a__next, .int a__wrong, .int a__number, .int a__text, .int a__made, .int a__deep, .int a__lines, .ref a_open, .int a__opened, .ref a_stack, .int a__top, .ref a_word, .ref a_said, .int a__x, .ref a_worth, .ref a_mate, .ref a_wasSaid, .int a__undone, .int a__boughtNow, .ref a_wayBy, .ref a_wayThen, .int a__walkMost, .int a__walkGoing, .int a__walkSet, .ref a_kept, .long a__drawX, .ref a_images, .ref a_imageX, .ref a_isMade])), (a_word, .inl (cs 3, 13, .inr (.inl a_word_c))), (a_stack, .inl (cs 3, 64, .inr (.inl a_stack_c)))] sz)) 0 0 (va_A [(a_said, .inl (cs 0, 123, .inl a_said_c)), (a_sign, .inl (cs 0, 2400, .inl a_sign_c)), (a_clause, .inl (cs 0, 360, .inl a_clause_c)), (a_clauses, .inl (cs 0, 6, .inl a_clauses_c)), (a, .inr (12, [.ref a_tape, .int a__taped, .int a__rules, .ref a_sign, .ref a_length, .ref a_clause, .ref a_clauses, .ref a_read, .int a__next, .int a__wrong, .int a__number, .int a__text, .int a__made, .int a__deep, .int a__lines, .ref a_open, .int a__opened, .ref a_stack, .int a__top, .ref a_word, .ref a_said, .int a__x, .ref a_worth, .ref a_mate, .ref a_wasSaid, .int a__undone, .int a__boughtNow, .ref a_wayBy, .ref a_wayThen, .int a__walkMost, .int a__walkGoing, .int a__walkSet, .ref a_kept, .long a__drawX, .ref a_images, .ref a_imageX, .ref a_isMade])), (a_word, .inl (cs 3, 13, .inr (.inl a_word_c))), (a_stack, .inl (cs 3, 64, .inr (.inl a_stack_c)))] sz) := by
  refine Met.ofW (cc := cX12_run) (maxL := 4) (ret := (some .int)) (by decide) rfl ?_
  intro p e s m args below meth c s₁ B hml hv
  obtain ⟨rfl, hsz, hP, hD0, hE⟩ := hv
  have hx := B.exec
  have hb := B.bytes
  have hr := B.returns
  have hT : ∀ w ∈ TB, w.before _ s = true := fun w h => atoms_spec (ws := hz_w yX12_run cX12_run 4 (some .int)) B.pre w (List.mem_cons_of_mem _ h)
  have hown : s.vm.findClass RX12 = some m.cls := findClass_of_methodNamed B.named
  have hlocks := B.notSynchronized
  clear B
  subst hsz
  have hD := hD0.self (sz := s.heap.size)
  generalize hAe : va_A [(a_said, .inl (cs 0, 123, .inl a_said_c)), (a_sign, .inl (cs 0, 2400, .inl a_sign_c)), (a_clause, .inl (cs 0, 360, .inl a_clause_c)), (a_clauses, .inl (cs 0, 6, .inl a_clauses_c)), (a, .inr (12, [.ref a_tape, .int a__taped, .int a__rules, .ref a_sign, .ref a_length, .ref a_clause, .ref a_clauses, .ref a_read, .int a__next, .int a__wrong, .int a__number, .int a__text, .int a__made, .int a__deep, .int a__lines, .ref a_open, .int a__opened, .ref a_stack, .int a__top, .ref a_word, .ref a_said, .int a__x, .ref a_worth, .ref a_mate, .ref a_wasSaid, .int a__undone, .int a__boughtNow, .ref a_wayBy, .ref a_wayThen, .int a__walkMost, .int a__walkGoing, .int a__walkSet, .ref a_kept, .long a__drawX, .ref a_images, .ref a_imageX, .ref a_isMade])), (a_word, .inl (cs 3, 13, .inr (.inl a_word_c))), (a_stack, .inl (cs 3, 64, .inr (.inl a_stack_c)))] s.heap.size = A at hD hE ⊢
  have hA : ∀ q : Nat, s.heap.size ≤ q → A q := fun q h => by rw [← hAe]; exact Or.inr h
  clear hAe hD0
  have hS : va_S A s.heap s.heap [] := va_S.rf
  have hK := hE.1
  have hl := lv_entry ([.ref a, .int p0, .int p1]) (n := 4) (Nat.le_of_ble_eq_true rfl)
  rw [lg_entry_eq]
  generalize (lg_sl ([.ref a, .int p0, .int p1]) ++ List.replicate (4 - (lg_sl ([.ref a, .int p0, .int p1])).length) Slot.unset).toArray = ls at hl ⊢
  have hl : lv_has ls 4 [(0, .ref a), (1, .int p0), (2, .int p1)] := hl
  obtain ⟨H, eH⟩ : ∃ z, z = s.heap := ⟨_, rfl⟩
  have hP : va_P D classes [(a_said, .inl (cs 0, 123, .inl a_said_c)), (a_sign, .inl (cs 0, 2400, .inl a_sign_c)), (a_clause, .inl (cs 0, 360, .inl a_clause_c)), (a_clauses, .inl (cs 0, 6, .inl a_clauses_c)), (a, .inr (12, [.ref a_tape, .int a__taped, .int a__rules, .ref a_sign, .ref a_length, .ref a_clause, .ref a_clauses, .ref a_read, .int a__next, .int a__wrong, .int a__number, .int a__text, .int a__made, .int a__deep, .int a__lines, .ref a_open, .int a__opened, .ref a_stack, .int a__top, .ref a_word, .ref a_said, .int a__x, .ref a_worth, .ref a_mate, .ref a_wasSaid, .int a__undone, .int a__boughtNow, .ref a_wayBy, .ref a_wayThen, .int a__walkMost, .int a__walkGoing, .int a__walkSet, .ref a_kept, .long a__drawX, .ref a_images, .ref a_imageX, .ref a_isMade])), (a_word, .inl (cs 3, 13, .inr (.inl a_word_c))), (a_stack, .inl (cs 3, 64, .inr (.inl a_stack_c)))] H := by rw [eH]; exact hP
  have hS : va_S A s.heap H [] := by rw [eH]; exact hS
  rw [← eH]
  clear eH
  obtain ⟨locs, el⟩ : ∃ z : List Loc, z = [] := ⟨_, rfl⟩
  rw [← el] at hS ⊢
  clear el
  have z0 : (0 : Int32).toInt = 0 := by decide
  have z1 : (1 : Int32).toInt = 1 := by decide
  have zm1 : (-1 : Int32).toInt = -1 := by decide
  have i_a__lines : 0 ≤ a__lines.toInt ∧ a__lines.toInt ≤ 40 := h_a__lines
  have i_a__made : 0 ≤ a__made.toInt ∧ a__made.toInt ≤ 60 := h_a__made
  have i_a__next : 0 ≤ a__next.toInt ∧ a__next.toInt ≤ 400 := h_a__next
  have i_a__opened : 0 ≤ a__opened.toInt ∧ a__opened.toInt ≤ 400 := h_a__opened
  have i_a__rules : 0 ≤ a__rules.toInt ∧ a__rules.toInt ≤ 6 := h_a__rules
  have i_a__taped : 0 ≤ a__taped.toInt ∧ a__taped.toInt ≤ 400 := h_a__taped
  have i_a__text : 0 ≤ a__text.toInt ∧ a__text.toInt ≤ 6 := h_a__text
  have i_a__top : 0 ≤ a__top.toInt ∧ a__top.toInt ≤ 64 := h_a__top
  have i_a__undone : 0 ≤ a__undone.toInt ∧ a__undone.toInt ≤ 20 := h_a__undone
  have i_a__x : 0 ≤ a__x.toInt ∧ a__x.toInt ≤ 2147483647 := h_a__x
  have K49 : ∀ (n : Nat) (k49_L_3 : Int32) (k49_C_a_said : Nat → Int32) (k49_F_a_18 : Int32) (k49_F_a_26 : Int32) (k49_C_a_word : Nat → Int64) (k49_C_a_stack : Nat → Int64), (49 - k49_L_3.toInt).toNat ≤ n → IV 1 6 a__rules → IV 0 64 k49_F_a_18 → IV 0 48 k49_L_3 → IV 0 5 p0 → IV 1 48 p1 → (BS k49_C_a_said 200) → (TR k49_C_a_said) → ((k49_C_a_said 3).toInt = (a_said_c 3).toInt + k49_L_3.toInt) → (k49_L_3.toInt ≤ p1.toInt) → ((a_said_c 3).toInt + p1.toInt ≤ 99) → (p0.toInt < a__rules.toInt) → ∀ (H : Heap) (locs : List Loc), va_P D classes [(a_said, .inl (cs 0, 123, .inl k49_C_a_said)), (a_sign, .inl (cs 0, 2400, .inl a_sign_c)), (a_clause, .inl (cs 0, 360, .inl a_clause_c)), (a_clauses, .inl (cs 0, 6, .inl a_clauses_c)), (a, .inr (12, [.ref a_tape, .int a__taped, .int a__rules, .ref a_sign, .ref a_length, .ref a_clause, .ref a_clauses, .ref a_read, .int a__next, .int a__wrong, .int a__number, .int a__text, .int a__made, .int a__deep, .int a__lines, .ref a_open, .int a__opened, .ref a_stack, .int k49_F_a_18, .ref a_word, .ref a_said, .int a__x, .ref a_worth, .ref a_mate, .ref a_wasSaid, .int 0, .int k49_F_a_26, .ref a_wayBy, .ref a_wayThen, .int a__walkMost, .int a__walkGoing, .int a__walkSet, .ref a_kept, .long a__drawX, .ref a_images, .ref a_imageX, .ref a_isMade])), (a_word, .inl (cs 3, 13, .inr (.inl k49_C_a_word))), (a_stack, .inl (cs 3, 64, .inr (.inl k49_C_a_stack)))] H → va_D A [(a_said, .inl (cs 0, 123, .inl k49_C_a_said)), (a_sign, .inl (cs 0, 2400, .inl a_sign_c)), (a_clause, .inl (cs 0, 360, .inl a_clause_c)), (a_clauses, .inl (cs 0, 6, .inl a_clauses_c)), (a, .inr (12, [.ref a_tape, .int a__taped, .int a__rules, .ref a_sign, .ref a_length, .ref a_clause, .ref a_clauses, .ref a_read, .int a__next, .int a__wrong, .int a__number, .int a__text, .int a__made, .int a__deep, .int a__lines, .ref a_open, .int a__opened, .ref a_stack, .int k49_F_a_18, .ref a_word, .ref a_said, .int a__x, .ref a_worth, .ref a_mate, .ref a_wasSaid, .int 0, .int k49_F_a_26, .ref a_wayBy, .ref a_wayThen, .int a__walkMost, .int a__walkGoing, .int a__walkSet, .ref a_kept, .long a__drawX, .ref a_images, .ref a_imageX, .ref a_isMade])), (a_word, .inl (cs 3, 13, .inr (.inl k49_C_a_word))), (a_stack, .inl (cs 3, 64, .inr (.inl k49_C_a_stack)))] → va_S A s.heap H locs → ∀ ls : Array Slot, lv_has ls 4 [(3, .int k49_L_3), (0, .ref a), (1, .int p0), (2, .int p1)] → W p l e (headSpec (hz_w yX12_run cX12_run 4 (some .int)) ({ frames := 8, cells := 0, slots := 0, locals := 187 })).room s m [.ref a, .int p0, .int p1].toArray below meth c H locs 0 0 (MQ below (va_Qi (fun (r : Int32) (u : (Nat → Int32) × (Nat → Nat → Int32)) => (r = (-1) ∧ IV 0 64 (u.1 1) ∧ IV 0 20 (u.1 2) ∧ (BS (u.2 0) 200) ∧ (TR (u.2 0)) ∧ (((u.2 0) 3).toInt ≤ 99) ∧ ((u.1 2) = a__undone)) ∨ (IV 0 200 r ∧ IV 1 6 a__rules ∧ IV 0 5 p0 ∧ IV 1 48 p1 ∧ IV 0 64 (u.1 1) ∧ IV 0 0 (u.1 2) ∧ (BS (u.2 0) 200) ∧ (TR (u.2 0)) ∧ (((u.2 0) 3).toInt ≤ 99))) (fun u t => ∃ (o_a_stack_c : Nat → Int64), ∃ (o_a_word_c : Nat → Int64), va_P D classes [(a_said, .inl (cs 0, 123, .inl (u.2 0))), (a_sign, .inl (cs 0, 2400, .inl a_sign_c)), (a_clause, .inl (cs 0, 360, .inl a_clause_c)), (a_clauses, .inl (cs 0, 6, .inl a_clauses_c)), (a, .inr (12, [.ref a_tape, .int a__taped, .int a__rules, .ref a_sign, .ref a_length, .ref a_clause, .ref a_clauses, .ref a_read, .int a__next, .int a__wrong, .int a__number, .int a__text, .int a__made, .int a__deep, .int a__lines, .ref a_open, .int a__opened, .ref a_stack, .int (u.1 1), .ref a_word, .ref a_said, .int a__x, .ref a_worth, .ref a_mate, .ref a_wasSaid, .int (u.1 2), .int (u.1 3), .ref a_wayBy, .ref a_wayThen, .int a__walkMost, .int a__walkGoing, .int a__walkSet, .ref a_kept, .long a__drawX, .ref a_images, .ref a_imageX, .ref a_isMade])), (a_word, .inl (cs 3, 13, .inr (.inl o_a_word_c))), (a_stack, .inl (cs 3, 64, .inr (.inl o_a_stack_c)))] t.heap ∧ va_D A [(a_said, .inl (cs 0, 123, .inl (u.2 0))), (a_sign, .inl (cs 0, 2400, .inl a_sign_c)), (a_clause, .inl (cs 0, 360, .inl a_clause_c)), (a_clauses, .inl (cs 0, 6, .inl a_clauses_c)), (a, .inr (12, [.ref a_tape, .int a__taped, .int a__rules, .ref a_sign, .ref a_length, .ref a_clause, .ref a_clauses, .ref a_read, .int a__next, .int a__wrong, .int a__number, .int a__text, .int a__made, .int a__deep, .int a__lines, .ref a_open, .int a__opened, .ref a_stack, .int (u.1 1), .ref a_word, .ref a_said, .int a__x, .ref a_worth, .ref a_mate, .ref a_wasSaid, .int (u.1 2), .int (u.1 3), .ref a_wayBy, .ref a_wayThen, .int a__walkMost, .int a__walkGoing, .int a__walkSet, .ref a_kept, .long a__drawX, .ref a_images, .ref a_imageX, .ref a_isMade])), (a_word, .inl (cs 3, 13, .inr (.inl o_a_word_c))), (a_stack, .inl (cs 3, 64, .inr (.inl o_a_stack_c)))]) A) [.ref a, .int p0, .int p1].toArray s 0 0 A) (F0 m 49 ls []) := by
    intro n
    induction n with
    | zero =>
      intro k49_L_3 k49_C_a_said k49_F_a_18 k49_F_a_26 k49_C_a_word k49_C_a_stack hn q49_4 q49_8 q49_9 q49_10 q49_11 x49_0 x49_1 x49_2 x49_3 x49_4 x49_5 H locs hP hD hS ls hl
      have i_a__lines : 0 ≤ a__lines.toInt ∧ a__lines.toInt ≤ 40 := h_a__lines
      have i_a__made : 0 ≤ a__made.toInt ∧ a__made.toInt ≤ 60 := h_a__made
      have i_a__next : 0 ≤ a__next.toInt ∧ a__next.toInt ≤ 400 := h_a__next
      have i_a__opened : 0 ≤ a__opened.toInt ∧ a__opened.toInt ≤ 400 := h_a__opened
      have i_a__rules : 1 ≤ a__rules.toInt ∧ a__rules.toInt ≤ 6 := q49_4
      have i_a__taped : 0 ≤ a__taped.toInt ∧ a__taped.toInt ≤ 400 := h_a__taped
      have i_a__text : 0 ≤ a__text.toInt ∧ a__text.toInt ≤ 6 := h_a__text
      have i_a__x : 0 ≤ a__x.toInt ∧ a__x.toInt ≤ 2147483647 := h_a__x
      have i_k49_F_a_18 : 0 ≤ k49_F_a_18.toInt ∧ k49_F_a_18.toInt ≤ 64 := q49_8
      have i_k49_L_3 : 0 ≤ k49_L_3.toInt ∧ k49_L_3.toInt ≤ 48 := q49_9
      have i_p0 : 0 ≤ p0.toInt ∧ p0.toInt ≤ 5 := q49_10
      have i_p1 : 1 ≤ p1.toInt ∧ p1.toInt ≤ 48 := q49_11
      exact absurd hn (by omega)
    | succ n ih49 =>
      intro k49_L_3 k49_C_a_said k49_F_a_18 k49_F_a_26 k49_C_a_word k49_C_a_stack hn q49_4 q49_8 q49_9 q49_10 q49_11 x49_0 x49_1 x49_2 x49_3 x49_4 x49_5 H locs hP hD hS ls hl
      have i_a__lines : 0 ≤ a__lines.toInt ∧ a__lines.toInt ≤ 40 := h_a__lines
      have i_a__made : 0 ≤ a__made.toInt ∧ a__made.toInt ≤ 60 := h_a__made
      have i_a__next : 0 ≤ a__next.toInt ∧ a__next.toInt ≤ 400 := h_a__next
      have i_a__opened : 0 ≤ a__opened.toInt ∧ a__opened.toInt ≤ 400 := h_a__opened
      have i_a__rules : 1 ≤ a__rules.toInt ∧ a__rules.toInt ≤ 6 := q49_4
      have i_a__taped : 0 ≤ a__taped.toInt ∧ a__taped.toInt ≤ 400 := h_a__taped
      have i_a__text : 0 ≤ a__text.toInt ∧ a__text.toInt ≤ 6 := h_a__text
      have i_a__x : 0 ≤ a__x.toInt ∧ a__x.toInt ≤ 2147483647 := h_a__x
      have i_k49_F_a_18 : 0 ≤ k49_F_a_18.toInt ∧ k49_F_a_18.toInt ≤ 64 := q49_8
      have i_k49_L_3 : 0 ≤ k49_L_3.toInt ∧ k49_L_3.toInt ≤ 48 := q49_9
      have i_p0 : 0 ≤ p0.toInt ∧ p0.toInt ≤ 5 := q49_10
      have i_p1 : 1 ≤ p1.toInt ∧ p1.toInt ≤ 48 := q49_11
      refine lv_iload_n hx hb dX12_run_49 rfl (lv_at hl 0 rfl) ?_
      refine lv_iload_n hx hb dX12_run_50 rfl (lv_at hl 3 rfl) ?_
      refine lv_icmp_ge (tgt := 65) hx hb dX12_run_51 (by decide) (fun c1 => ?_) (fun c1 => ?_)
      · have t2 : k49_L_3.toInt ≥ p1.toInt := lin_ge c1 rfl rfl
        have h3 : IV 1 48 k49_L_3 := iv_le2 c1 q49_11 q49_9 (by decide)
        have ii4 : 1 ≤ k49_L_3.toInt ∧ k49_L_3.toInt ≤ 48 := h3
        refine lv_aload_n hx hb dX12_run_65 rfl (lv_at hl 1 rfl) ?_
        refine va_get (D := D) (ci := 12) (v := .ref a_said) (C := RX12) (T := TX12) (N := 37) hx hb hT i_X12 hown hK hP 4 rfl rfl 20 (by decide) (hT _ q_185) (fun _ h9 => h9) rfl dX12_run_66 ?_
        refine lv_iconst (v := 3) hx hb dX12_run_69 (by decide) ?_
        refine va_iald hx hb hK hP 0 0 rfl rfl (iv_vc (by decide)) dX12_run_70 ?_
        refine lv_topi (fun v5 ev5 => ?_)
        have h6 : IV 0 200 v5 := (by rw [ev5]; exact bs_i3 x49_0)
        have ii7 : 0 ≤ v5.toInt ∧ v5.toInt ≤ 200 := h6
        have lv5 : v5.toInt = (k49_C_a_said 3).toInt := by rw [ev5]; rfl
        refine W.widen (k := 0) (n := 0) (Nat.le_of_ble_eq_true rfl) (Nat.le_of_ble_eq_true rfl) ?_
        have g8 : (k49_C_a_said 3).toInt ≤ 99 := (by omega)
        exact W.iret (v := v5) hx hb hr (fun t ht hW => ⟨⟨v5, (fun k => match k with | 0 => 0 | 1 => k49_F_a_18 | 2 => 0 | 3 => k49_F_a_26 | _ => 0, fun k => match k with | 0 => k49_C_a_said | _ => fun _ => 0), rfl, (Or.inr ((⟨h6, q49_4, q49_10, q49_11, q49_8, iv_c (a := 0) (b := 0) (x := 0) (by decide), x49_0, x49_1, g8⟩))), k49_C_a_stack, k49_C_a_word, by rw [ht]; exact hP.sub [0, 1, 2, 3, 4, 5, 6] rfl, hD.sub [0, 1, 2, 3, 4, 5, 6] (by decide) rfl⟩, hS.F ht⟩) hS.2.2 dX12_run_71
      · have t9 : k49_L_3.toInt < p1.toInt := lin_geN c1 rfl rfl
        have h10 : IV 0 47 k49_L_3 := iv_lt1 (Int32.not_le.mp c1) q49_9 q49_11 (by decide)
        have ii11 : 0 ≤ k49_L_3.toInt ∧ k49_L_3.toInt ≤ 47 := h10
        refine lv_aload_n hx hb dX12_run_54 rfl (lv_at hl 1 rfl) ?_
        refine lv_iload_n hx hb dX12_run_55 rfl (lv_at hl 2 rfl) ?_
        have hFc := va_free (wc := [(a_said, .inl (cs 0, 123, .inl k49_C_a_said)), (a_sign, .inl (cs 0, 2400, .inl a_sign_c)), (a_clause, .inl (cs 0, 360, .inl a_clause_c)), (a_clauses, .inl (cs 0, 6, .inl a_clauses_c)), (a, .inr (12, [.ref a_tape, .int a__taped, .int a__rules, .ref a_sign, .ref a_length, .ref a_clause, .ref a_clauses, .ref a_read, .int a__next, .int a__wrong, .int a__number, .int a__text, .int a__made, .int a__deep, .int a__lines, .ref a_open, .int a__opened, .ref a_stack, .int k49_F_a_18, .ref a_word, .ref a_said, .int a__x, .ref a_worth, .ref a_mate, .ref a_wasSaid, .int 0, .int k49_F_a_26, .ref a_wayBy, .ref a_wayThen, .int a__walkMost, .int a__walkGoing, .int a__walkSet, .ref a_kept, .long a__drawX, .ref a_images, .ref a_imageX, .ref a_isMade])), (a_word, .inl (cs 3, 13, .inr (.inl k49_C_a_word))), (a_stack, .inl (cs 3, 64, .inr (.inl k49_C_a_stack)))]) hD hS hA [0,1,2,3,4,5,6] rfl
        refine va_callv (va_runV (As := [.int p0]) (rest := []) ⟨hx, hb, hml, hown, hT⟩ (c_X12_passes l D cs kK kV a p0 a_said k49_C_a_said a_sign a_sign_c a_clause a_clause_c a_clauses a_clauses_c a_tape a__taped a__rules a_length a_read a__next a__wrong a__number a__text a__made a__deep a__lines a_open a__opened a_stack k49_F_a_18 a_word a__x a_worth a_mate a_wasSaid 0 k49_F_a_26 a_wayBy a_wayThen a__walkMost a__walkGoing a__walkSet a_kept a__drawX a_images a_imageX a_isMade k49_C_a_word k49_C_a_stack q49_10 h_a__taped ((iv_w q49_4 (by decide) (by decide))) h_a__next h_a__text h_a__made h_a__lines h_a__opened q49_8 h_a__x ((iv_c (by decide))) x49_0 x49_1 hf3 x49_5 ((by omega)) H.size) (cwV 1 hT (hz_gV q_1239 q_1240 q_1241 q_701 q_1242) rfl rfl rfl (by decide +kernel) ⟨(Nat.le_of_ble_eq_true rfl), (Nat.le_of_ble_eq_true rfl)⟩) ⟨hz_C.blind, va_recv hK hP (ci := 12) (q0 := 4) rfl rfl, hz_C.mk (hP.sub (ws' := [(a_said, .inl (cs 0, 123, .inl k49_C_a_said)), (a_sign, .inl (cs 0, 2400, .inl a_sign_c)), (a_clause, .inl (cs 0, 360, .inl a_clause_c)), (a_clauses, .inl (cs 0, 6, .inl a_clauses_c)), (a, .inr (12, [.ref a_tape, .int a__taped, .int a__rules, .ref a_sign, .ref a_length, .ref a_clause, .ref a_clauses, .ref a_read, .int a__next, .int a__wrong, .int a__number, .int a__text, .int a__made, .int a__deep, .int a__lines, .ref a_open, .int a__opened, .ref a_stack, .int k49_F_a_18, .ref a_word, .ref a_said, .int a__x, .ref a_worth, .ref a_mate, .ref a_wasSaid, .int 0, .int k49_F_a_26, .ref a_wayBy, .ref a_wayThen, .int a__walkMost, .int a__walkGoing, .int a__walkSet, .ref a_kept, .long a__drawX, .ref a_images, .ref a_imageX, .ref a_isMade])), (a_word, .inl (cs 3, 13, .inr (.inl k49_C_a_word))), (a_stack, .inl (cs 3, 64, .inr (.inl k49_C_a_stack)))]) [0,1,2,3,4,5,6] rfl) (hD.sub (ws' := [(a_said, .inl (cs 0, 123, .inl k49_C_a_said)), (a_sign, .inl (cs 0, 2400, .inl a_sign_c)), (a_clause, .inl (cs 0, 360, .inl a_clause_c)), (a_clauses, .inl (cs 0, 6, .inl a_clauses_c)), (a, .inr (12, [.ref a_tape, .int a__taped, .int a__rules, .ref a_sign, .ref a_length, .ref a_clause, .ref a_clauses, .ref a_read, .int a__next, .int a__wrong, .int a__number, .int a__text, .int a__made, .int a__deep, .int a__lines, .ref a_open, .int a__opened, .ref a_stack, .int k49_F_a_18, .ref a_word, .ref a_said, .int a__x, .ref a_worth, .ref a_mate, .ref a_wasSaid, .int 0, .int k49_F_a_26, .ref a_wayBy, .ref a_wayThen, .int a__walkMost, .int a__walkGoing, .int a__walkSet, .ref a_kept, .long a__drawX, .ref a_images, .ref a_imageX, .ref a_isMade])), (a_word, .inl (cs 3, 13, .inr (.inl k49_C_a_word))), (a_stack, .inl (cs 3, 64, .inr (.inl k49_C_a_stack)))]) [0,1,2,3,4,5,6] (by decide) rfl) hE hS hFc⟩ rfl rfl hl.1 rfl (lv_room (Nat.le_of_ble_eq_true rfl)) dX12_run_56 ⟨(Nat.le_of_ble_eq_true rfl), (Nat.le_of_ble_eq_true rfl)⟩) hS (fun q _ h => hFc q h) hFc (fun o13 t H1 locs ht hvm hw hB hz1 hk1 hS => ?_)
        obtain ⟨o14, o15, hP1, hD1⟩ := hB
        rw [ht] at hP1
        obtain ⟨hP, hD⟩ := va_join (wr := []) (w1 := [(a_said, .inl (cs 0, 123, .inl (o13.2 0))), (a_sign, .inl (cs 0, 2400, .inl a_sign_c)), (a_clause, .inl (cs 0, 360, .inl a_clause_c)), (a_clauses, .inl (cs 0, 6, .inl a_clauses_c)), (a, .inr (12, [.ref a_tape, .int a__taped, .int a__rules, .ref a_sign, .ref a_length, .ref a_clause, .ref a_clauses, .ref a_read, .int a__next, .int a__wrong, .int a__number, .int a__text, .int a__made, .int a__deep, .int a__lines, .ref a_open, .int a__opened, .ref a_stack, .int (o13.1 1), .ref a_word, .ref a_said, .int a__x, .ref a_worth, .ref a_mate, .ref a_wasSaid, .int 0, .int (o13.1 2), .ref a_wayBy, .ref a_wayThen, .int a__walkMost, .int a__walkGoing, .int a__walkSet, .ref a_kept, .long a__drawX, .ref a_images, .ref a_imageX, .ref a_isMade])), (a_word, .inl (cs 3, 13, .inr (.inl o15))), (a_stack, .inl (cs 3, 64, .inr (.inl o14)))]) hP hD [0, 1, 2, 3, 4, 5, 6] [] rfl rfl (by decide) (by decide) hk1 hFc hP1 hD1
        generalize H1 = H at hP hS ⊢
        have hP : va_P D classes [(a_said, .inl (cs 0, 123, .inl (o13.2 0))), (a_sign, .inl (cs 0, 2400, .inl a_sign_c)), (a_clause, .inl (cs 0, 360, .inl a_clause_c)), (a_clauses, .inl (cs 0, 6, .inl a_clauses_c)), (a, .inr (12, [.ref a_tape, .int a__taped, .int a__rules, .ref a_sign, .ref a_length, .ref a_clause, .ref a_clauses, .ref a_read, .int a__next, .int a__wrong, .int a__number, .int a__text, .int a__made, .int a__deep, .int a__lines, .ref a_open, .int a__opened, .ref a_stack, .int (o13.1 1), .ref a_word, .ref a_said, .int a__x, .ref a_worth, .ref a_mate, .ref a_wasSaid, .int 0, .int (o13.1 2), .ref a_wayBy, .ref a_wayThen, .int a__walkMost, .int a__walkGoing, .int a__walkSet, .ref a_kept, .long a__drawX, .ref a_images, .ref a_imageX, .ref a_isMade])), (a_word, .inl (cs 3, 13, .inr (.inl o15))), (a_stack, .inl (cs 3, 64, .inr (.inl o14)))] H := hP
        have hD : va_D A [(a_said, .inl (cs 0, 123, .inl (o13.2 0))), (a_sign, .inl (cs 0, 2400, .inl a_sign_c)), (a_clause, .inl (cs 0, 360, .inl a_clause_c)), (a_clauses, .inl (cs 0, 6, .inl a_clauses_c)), (a, .inr (12, [.ref a_tape, .int a__taped, .int a__rules, .ref a_sign, .ref a_length, .ref a_clause, .ref a_clauses, .ref a_read, .int a__next, .int a__wrong, .int a__number, .int a__text, .int a__made, .int a__deep, .int a__lines, .ref a_open, .int a__opened, .ref a_stack, .int (o13.1 1), .ref a_word, .ref a_said, .int a__x, .ref a_worth, .ref a_mate, .ref a_wasSaid, .int 0, .int (o13.1 2), .ref a_wayBy, .ref a_wayThen, .int a__walkMost, .int a__walkGoing, .int a__walkSet, .ref a_kept, .long a__drawX, .ref a_images, .ref a_imageX, .ref a_isMade])), (a_word, .inl (cs 3, 13, .inr (.inl o15))), (a_stack, .inl (cs 3, 64, .inr (.inl o14)))] := hD
        clear hk1 hFc hP1 hD1 hz1
        rcases hw with ⟨h16, x17, x18, x19⟩
        have ii20 : 0 ≤ (o13.1 1).toInt ∧ (o13.1 1).toInt ≤ 64 := h16
        obtain ⟨v21, ev21⟩ : ∃ z : Int32, z = k49_L_3 + 1 := ⟨_, rfl⟩
        have hv21 : IV 1 48 v21 := iv_add ev21 h10 (iv_c (a := 1) (b := 1) (by decide)) (by decide) (by decide)
        have dv21 : v21.toInt = k49_L_3.toInt + 1 := iv_addE ev21 h10 (iv_c (a := 1) (b := 1) (by decide)) (by decide) (by decide) (by decide)
        refine lv_iinc (v := v21) (lv' := [(3, .int v21), (0, .ref a), (1, .int p0), (2, .int p1)]) hx hb dX12_run_59 hl (k := 0) rfl (by rw [ev21]; rfl) (by decide) rfl (fun ls hl => ?_)
        refine lv_goto (tgt := 49) hx hb dX12_run_62 (by decide) ?_
        exact ih49 v21 (o13.2 0) (o13.1 1) (o13.1 2) o15 o14 (by have h9 := hn; omega) q49_4 h16 (iv_w hv21 (by decide) (by decide)) q49_10 q49_11 x17 x18 (by omega) (by omega) x49_4 x49_5 H locs (hP.sub (ws' := [(a_said, .inl (cs 0, 123, .inl (o13.2 0))), (a_sign, .inl (cs 0, 2400, .inl a_sign_c)), (a_clause, .inl (cs 0, 360, .inl a_clause_c)), (a_clauses, .inl (cs 0, 6, .inl a_clauses_c)), (a, .inr (12, [.ref a_tape, .int a__taped, .int a__rules, .ref a_sign, .ref a_length, .ref a_clause, .ref a_clauses, .ref a_read, .int a__next, .int a__wrong, .int a__number, .int a__text, .int a__made, .int a__deep, .int a__lines, .ref a_open, .int a__opened, .ref a_stack, .int (o13.1 1), .ref a_word, .ref a_said, .int a__x, .ref a_worth, .ref a_mate, .ref a_wasSaid, .int 0, .int (o13.1 2), .ref a_wayBy, .ref a_wayThen, .int a__walkMost, .int a__walkGoing, .int a__walkSet, .ref a_kept, .long a__drawX, .ref a_images, .ref a_imageX, .ref a_isMade])), (a_word, .inl (cs 3, 13, .inr (.inl o15))), (a_stack, .inl (cs 3, 64, .inr (.inl o14)))]) [0, 1, 2, 3, 4, 5, 6] rfl) (hD.sub (ws' := [(a_said, .inl (cs 0, 123, .inl (o13.2 0))), (a_sign, .inl (cs 0, 2400, .inl a_sign_c)), (a_clause, .inl (cs 0, 360, .inl a_clause_c)), (a_clauses, .inl (cs 0, 6, .inl a_clauses_c)), (a, .inr (12, [.ref a_tape, .int a__taped, .int a__rules, .ref a_sign, .ref a_length, .ref a_clause, .ref a_clauses, .ref a_read, .int a__next, .int a__wrong, .int a__number, .int a__text, .int a__made, .int a__deep, .int a__lines, .ref a_open, .int a__opened, .ref a_stack, .int (o13.1 1), .ref a_word, .ref a_said, .int a__x, .ref a_worth, .ref a_mate, .ref a_wasSaid, .int 0, .int (o13.1 2), .ref a_wayBy, .ref a_wayThen, .int a__walkMost, .int a__walkGoing, .int a__walkSet, .ref a_kept, .long a__drawX, .ref a_images, .ref a_imageX, .ref a_isMade])), (a_word, .inl (cs 3, 13, .inr (.inl o15))), (a_stack, .inl (cs 3, 64, .inr (.inl o14)))]) [0, 1, 2, 3, 4, 5, 6] (by decide) rfl) hS ls (lv_sub hl [0, 1, 2, 3] rfl)
  refine lv_aload_n hx hb dX12_run_0 rfl (lv_at hl 0 rfl) ?_
  refine va_calli (va_runV (As := []) (rest := []) ⟨hx, hb, hml, hown, hT⟩ (c_X12_isFair l D cs kK kV a a_said a_said_c a_tape a__taped a__rules a_sign a_length a_clause a_clauses a_read a__next a__wrong a__number a__text a__made a__deep a__lines a_open a__opened a_stack a__top a_word a__x a_worth a_mate a_wasSaid a__undone a__boughtNow a_wayBy a_wayThen a__walkMost a__walkGoing a__walkSet a_kept a__drawX a_images a_imageX a_isMade h_a__taped h_a__rules h_a__next h_a__text h_a__made h_a__lines h_a__opened h_a__top h_a__x h_a__undone hf0) (cwV 0 hT (hz_gV q_1140 q_1141 q_1142 q_701 q_1143) rfl rfl rfl (by decide +kernel) ⟨(Nat.le_of_ble_eq_true rfl), (Nat.le_of_ble_eq_true rfl)⟩) ⟨hz_P.blind, va_recv hK hP (ci := 12) (q0 := 4) rfl rfl, hz_P.mk (hP.sub (ws' := [(a_said, .inl (cs 0, 123, .inl a_said_c)), (a, .inr (12, [.ref a_tape, .int a__taped, .int a__rules, .ref a_sign, .ref a_length, .ref a_clause, .ref a_clauses, .ref a_read, .int a__next, .int a__wrong, .int a__number, .int a__text, .int a__made, .int a__deep, .int a__lines, .ref a_open, .int a__opened, .ref a_stack, .int a__top, .ref a_word, .ref a_said, .int a__x, .ref a_worth, .ref a_mate, .ref a_wasSaid, .int a__undone, .int a__boughtNow, .ref a_wayBy, .ref a_wayThen, .int a__walkMost, .int a__walkGoing, .int a__walkSet, .ref a_kept, .long a__drawX, .ref a_images, .ref a_imageX, .ref a_isMade]))]) [0,4] rfl) hE hS⟩ rfl rfl hl.1 rfl (lv_room (Nat.le_of_ble_eq_true rfl)) dX12_run_1 ⟨(Nat.le_of_ble_eq_true rfl), (Nat.le_of_ble_eq_true rfl)⟩) hS (fun _ _ h => h.elim) (fun _ h => h.elim) (fun r22 u t H1 locs ht hvm hw hB hz1 hk1 hS => ?_)
  have hP := hz_keep hP hk1
  clear hk1 hB hz1
  generalize H1 = H at hP hS ⊢
  rcases hw with ⟨rfl, x23⟩ | ⟨rfl, x24⟩
  · refine lv_if_eq (tgt := 40) hx hb dX12_run_4 (by decide) (fun _ => ?_) (fun z => absurd (by decide) z)
    refine lv_iconst (v := (-1)) hx hb dX12_run_40 (by decide) ?_
    refine W.widen (k := 0) (n := 0) (Nat.le_of_ble_eq_true rfl) (Nat.le_of_ble_eq_true rfl) ?_
    have g25 : a__undone = a__undone := (rfl)
    exact W.iret (v := (-1)) hx hb hr (fun t ht hW => ⟨⟨(-1), (fun k => match k with | 0 => 0 | 1 => a__top | 2 => a__undone | 3 => a__boughtNow | _ => 0, fun k => match k with | 0 => a_said_c | _ => fun _ => 0), rfl, (Or.inl (⟨rfl, h_a__top, h_a__undone, hf0, hf1, hf2, g25⟩)), a_stack_c, a_word_c, by rw [ht]; exact hP.sub [0, 1, 2, 3, 4, 5, 6] rfl, hD.sub [0, 1, 2, 3, 4, 5, 6] (by decide) rfl⟩, hS.F ht⟩) hS.2.2 dX12_run_41
  · refine lv_if_eq (tgt := 40) hx hb dX12_run_4 (by decide) (fun z => absurd z (by decide)) (fun _ => ?_)
    refine lv_aload_n hx hb dX12_run_7 rfl (lv_at hl 0 rfl) ?_
    refine lv_iload_n hx hb dX12_run_8 rfl (lv_at hl 1 rfl) ?_
    refine va_calli (va_runV (As := [.int p0]) (rest := []) ⟨hx, hb, hml, hown, hT⟩ (c_X12_isRule l D cs kK kV a p0 a_tape a__taped a__rules a_sign a_length a_clause a_clauses a_read a__next a__wrong a__number a__text a__made a__deep a__lines a_open a__opened a_stack a__top a_word a_said a__x a_worth a_mate a_wasSaid a__undone a__boughtNow a_wayBy a_wayThen a__walkMost a__walkGoing a__walkSet a_kept a__drawX a_images a_imageX a_isMade h_a__taped h_a__rules h_a__next h_a__text h_a__made h_a__lines h_a__opened h_a__top h_a__x h_a__undone) (cwV 1 hT (hz_gV q_1235 q_1236 q_1237 q_701 q_1238) rfl rfl rfl (by decide +kernel) ⟨(Nat.le_of_ble_eq_true rfl), (Nat.le_of_ble_eq_true rfl)⟩) ⟨hz_P.blind, va_recv hK hP (ci := 12) (q0 := 4) rfl rfl, hz_P.mk (hP.sub (ws' := [(a, .inr (12, [.ref a_tape, .int a__taped, .int a__rules, .ref a_sign, .ref a_length, .ref a_clause, .ref a_clauses, .ref a_read, .int a__next, .int a__wrong, .int a__number, .int a__text, .int a__made, .int a__deep, .int a__lines, .ref a_open, .int a__opened, .ref a_stack, .int a__top, .ref a_word, .ref a_said, .int a__x, .ref a_worth, .ref a_mate, .ref a_wasSaid, .int a__undone, .int a__boughtNow, .ref a_wayBy, .ref a_wayThen, .int a__walkMost, .int a__walkGoing, .int a__walkSet, .ref a_kept, .long a__drawX, .ref a_images, .ref a_imageX, .ref a_isMade]))]) [4] rfl) hE hS⟩ rfl rfl hl.1 rfl (lv_room (Nat.le_of_ble_eq_true rfl)) dX12_run_9 ⟨(Nat.le_of_ble_eq_true rfl), (Nat.le_of_ble_eq_true rfl)⟩) hS (fun _ _ h => h.elim) (fun _ h => h.elim) (fun r26 u t H1 locs ht hvm hw hB hz1 hk1 hS => ?_)
    have hP := hz_keep hP hk1
    clear hk1 hB hz1
    generalize H1 = H at hP hS ⊢
    rcases hw with ⟨rfl, h27⟩ | ⟨rfl, h28, h29, x30, x31⟩
    · have ii32 : (-2147483648) ≤ p0.toInt ∧ p0.toInt ≤ 2147483647 := h27
      refine lv_if_eq (tgt := 40) hx hb dX12_run_12 (by decide) (fun _ => ?_) (fun z => absurd (by decide) z)
      refine lv_iconst (v := (-1)) hx hb dX12_run_40 (by decide) ?_
      refine W.widen (k := 0) (n := 0) (Nat.le_of_ble_eq_true rfl) (Nat.le_of_ble_eq_true rfl) ?_
      have g33 : a__undone = a__undone := (rfl)
      exact W.iret (v := (-1)) hx hb hr (fun t ht hW => ⟨⟨(-1), (fun k => match k with | 0 => 0 | 1 => a__top | 2 => a__undone | 3 => a__boughtNow | _ => 0, fun k => match k with | 0 => a_said_c | _ => fun _ => 0), rfl, (Or.inl (⟨rfl, h_a__top, h_a__undone, hf0, hf1, hf2, g33⟩)), a_stack_c, a_word_c, by rw [ht]; exact hP.sub [0, 1, 2, 3, 4, 5, 6] rfl, hD.sub [0, 1, 2, 3, 4, 5, 6] (by decide) rfl⟩, hS.F ht⟩) hS.2.2 dX12_run_41
    · have ii34 : 1 ≤ a__rules.toInt ∧ a__rules.toInt ≤ 6 := h28
      have ii35 : 0 ≤ p0.toInt ∧ p0.toInt ≤ 5 := h29
      refine lv_if_eq (tgt := 40) hx hb dX12_run_12 (by decide) (fun z => absurd z (by decide)) (fun _ => ?_)
      refine lv_iload_n hx hb dX12_run_15 rfl (lv_at hl 2 rfl) ?_
      refine lv_i2l (v := p1.toInt64) hx hb dX12_run_16 rfl ?_
      refine lv_lconst (v := 1) hx hb dX12_run_17 (by decide) ?_
      refine lv_ldc2 hx hb hown (hT _ q_1420) dX12_run_18 ?_
      refine va_calli (va_runS (As := [.long p1.toInt64, .long 1, .long 48]) (rest := []) ⟨hx, hb, hml, hown, hT⟩ (c_X12_in l D cs kK kV p1.toInt64 1 48) (va_cwS 3 hT (hz_gS q_964 q_965 q_701 q_966) rfl rfl rfl (by decide +kernel) ⟨(Nat.le_of_ble_eq_true rfl), (Nat.le_of_ble_eq_true rfl)⟩) ⟨hz_P.blind, hz_P.mk (hP.sub (ws' := []) [] rfl) hE hS⟩ rfl rfl hl.1 rfl (lv_room (Nat.le_of_ble_eq_true rfl)) dX12_run_21 ⟨(Nat.le_of_ble_eq_true rfl), (Nat.le_of_ble_eq_true rfl)⟩) hS (fun _ _ h => h.elim) (fun _ h => h.elim) (fun r36 u t H1 locs ht hvm hw hB hz1 hk1 hS => ?_)
      have hP := hz_keep hP hk1
      clear hk1 hB hz1
      generalize H1 = H at hP hS ⊢
      rcases hw with ⟨rfl, x37⟩ | ⟨rfl, x38, x39⟩
      · have t40 : ¬ (1 ≤ p1.toInt ∧ p1.toInt ≤ 48) := fun z => x37 ⟨l64_clI z.1 (by decide), l64_lcI z.2 (by decide)⟩
        refine lv_if_eq (tgt := 40) hx hb dX12_run_24 (by decide) (fun _ => ?_) (fun z => absurd (by decide) z)
        refine lv_iconst (v := (-1)) hx hb dX12_run_40 (by decide) ?_
        refine W.widen (k := 0) (n := 0) (Nat.le_of_ble_eq_true rfl) (Nat.le_of_ble_eq_true rfl) ?_
        have g41 : a__undone = a__undone := (rfl)
        exact W.iret (v := (-1)) hx hb hr (fun t ht hW => ⟨⟨(-1), (fun k => match k with | 0 => 0 | 1 => a__top | 2 => a__undone | 3 => a__boughtNow | _ => 0, fun k => match k with | 0 => a_said_c | _ => fun _ => 0), rfl, (Or.inl (⟨rfl, h_a__top, h_a__undone, hf0, hf1, hf2, g41⟩)), a_stack_c, a_word_c, by rw [ht]; exact hP.sub [0, 1, 2, 3, 4, 5, 6] rfl, hD.sub [0, 1, 2, 3, 4, 5, 6] (by decide) rfl⟩, hS.F ht⟩) hS.2.2 dX12_run_41
      · have h42 : IV 1 2147483647 p1 := ⟨l64_cle x38 (by decide), iv_top.2⟩
        have ii43 : 1 ≤ p1.toInt ∧ p1.toInt ≤ 2147483647 := h42
        have h44 : IV 1 48 p1 := ⟨(h42).1, l64_lec x39 (by decide)⟩
        have ii45 : 1 ≤ p1.toInt ∧ p1.toInt ≤ 48 := h44
        refine lv_if_eq (tgt := 40) hx hb dX12_run_24 (by decide) (fun z => absurd z (by decide)) (fun _ => ?_)
        refine lv_aload_n hx hb dX12_run_27 rfl (lv_at hl 0 rfl) ?_
        refine va_get (D := D) (ci := 12) (v := .ref a_said) (C := RX12) (T := TX12) (N := 37) hx hb hT i_X12 hown hK hP 4 rfl rfl 20 (by decide) (hT _ q_185) (fun _ h9 => h9) rfl dX12_run_28 ?_
        refine lv_iconst (v := 3) hx hb dX12_run_31 (by decide) ?_
        refine va_iald hx hb hK hP 0 0 rfl rfl (iv_vc (by decide)) dX12_run_32 ?_
        refine lv_topi (fun v46 ev46 => ?_)
        have h47 : IV 0 200 v46 := (by rw [ev46]; exact bs_i3 hf0)
        have ii48 : 0 ≤ v46.toInt ∧ v46.toInt ≤ 200 := h47
        have lv46 : v46.toInt = (a_said_c 3).toInt := by rw [ev46]; rfl
        refine lv_iload_n hx hb dX12_run_33 rfl (lv_at hl 2 rfl) ?_
        refine lv_iadd hx hb dX12_run_34 ?_
        refine lv_topi (fun v49 ev49 => ?_)
        have hv49 : IV 1 248 v49 := iv_add ev49 h47 h44 (by decide) (by decide)
        have ii50 : 1 ≤ v49.toInt ∧ v49.toInt ≤ 248 := hv49
        have lv49 : v49.toInt = v46.toInt + p1.toInt := lin_add ev49 h47 h44 rfl rfl (by decide) (by decide)
        refine lv_bipush (v := 99) hx hb dX12_run_35 (by decide) ?_
        refine lv_icmp_le (tgt := 42) hx hb dX12_run_37 (by decide) (fun c51 => ?_) (fun c51 => ?_)
        · have t52 : v49.toInt ≤ 99 := lin_le c51 rfl (by decide)
          have h53 : IV 1 99 v49 := iv_le1 c51 hv49 (iv_c (a := 99) (b := 99) (by decide)) (by decide)
          have ii54 : 1 ≤ v49.toInt ∧ v49.toInt ≤ 99 := h53
          refine lv_aload_n hx hb dX12_run_42 rfl (lv_at hl 0 rfl) ?_
          refine lv_iconst (v := 0) hx hb dX12_run_43 (by decide) ?_
          refine va_put (D := D) (ci := 12) (v := .int 0) (ty := .int) (C := RX12) (T := TX12) (N := 37) hx hb hT i_X12 tyX12 tyX12_ok nmX12 hown hK hP hD hS 4 rfl rfl 25 (by decide) (hT _ q_205) (fun _ h9 => h9) rfl (by decide +kernel) rfl rfl (Nat.le_of_ble_eq_true rfl) dX12_run_44 (fun H locs hP hD hS => ?_)
          have hP : va_P D classes [(a_said, .inl (cs 0, 123, .inl a_said_c)), (a_sign, .inl (cs 0, 2400, .inl a_sign_c)), (a_clause, .inl (cs 0, 360, .inl a_clause_c)), (a_clauses, .inl (cs 0, 6, .inl a_clauses_c)), (a, .inr (12, [.ref a_tape, .int a__taped, .int a__rules, .ref a_sign, .ref a_length, .ref a_clause, .ref a_clauses, .ref a_read, .int a__next, .int a__wrong, .int a__number, .int a__text, .int a__made, .int a__deep, .int a__lines, .ref a_open, .int a__opened, .ref a_stack, .int a__top, .ref a_word, .ref a_said, .int a__x, .ref a_worth, .ref a_mate, .ref a_wasSaid, .int 0, .int a__boughtNow, .ref a_wayBy, .ref a_wayThen, .int a__walkMost, .int a__walkGoing, .int a__walkSet, .ref a_kept, .long a__drawX, .ref a_images, .ref a_imageX, .ref a_isMade])), (a_word, .inl (cs 3, 13, .inr (.inl a_word_c))), (a_stack, .inl (cs 3, 64, .inr (.inl a_stack_c)))] H := hP
          have hD : va_D A [(a_said, .inl (cs 0, 123, .inl a_said_c)), (a_sign, .inl (cs 0, 2400, .inl a_sign_c)), (a_clause, .inl (cs 0, 360, .inl a_clause_c)), (a_clauses, .inl (cs 0, 6, .inl a_clauses_c)), (a, .inr (12, [.ref a_tape, .int a__taped, .int a__rules, .ref a_sign, .ref a_length, .ref a_clause, .ref a_clauses, .ref a_read, .int a__next, .int a__wrong, .int a__number, .int a__text, .int a__made, .int a__deep, .int a__lines, .ref a_open, .int a__opened, .ref a_stack, .int a__top, .ref a_word, .ref a_said, .int a__x, .ref a_worth, .ref a_mate, .ref a_wasSaid, .int 0, .int a__boughtNow, .ref a_wayBy, .ref a_wayThen, .int a__walkMost, .int a__walkGoing, .int a__walkSet, .ref a_kept, .long a__drawX, .ref a_images, .ref a_imageX, .ref a_isMade])), (a_word, .inl (cs 3, 13, .inr (.inl a_word_c))), (a_stack, .inl (cs 3, 64, .inr (.inl a_stack_c)))] := hD
          refine lv_iconst (v := 0) hx hb dX12_run_47 (by decide) ?_
          refine lv_istore_n (lv' := [(3, .int 0), (0, .ref a), (1, .int p0), (2, .int p1)]) hx hb dX12_run_48 rfl hl (by decide) rfl (fun ls hl => ?_)
          exact K49 _ ((0 : Int32)) a_said_c a__top a__boughtNow a_word_c a_stack_c (Nat.le_refl _) h28 h_a__top (iv_c (by decide)) h29 h44 hf0 hf1 (by omega) (by omega) (by omega) x31 H locs (hP.sub (ws' := [(a_said, .inl (cs 0, 123, .inl a_said_c)), (a_sign, .inl (cs 0, 2400, .inl a_sign_c)), (a_clause, .inl (cs 0, 360, .inl a_clause_c)), (a_clauses, .inl (cs 0, 6, .inl a_clauses_c)), (a, .inr (12, [.ref a_tape, .int a__taped, .int a__rules, .ref a_sign, .ref a_length, .ref a_clause, .ref a_clauses, .ref a_read, .int a__next, .int a__wrong, .int a__number, .int a__text, .int a__made, .int a__deep, .int a__lines, .ref a_open, .int a__opened, .ref a_stack, .int a__top, .ref a_word, .ref a_said, .int a__x, .ref a_worth, .ref a_mate, .ref a_wasSaid, .int 0, .int a__boughtNow, .ref a_wayBy, .ref a_wayThen, .int a__walkMost, .int a__walkGoing, .int a__walkSet, .ref a_kept, .long a__drawX, .ref a_images, .ref a_imageX, .ref a_isMade])), (a_word, .inl (cs 3, 13, .inr (.inl a_word_c))), (a_stack, .inl (cs 3, 64, .inr (.inl a_stack_c)))]) [0, 1, 2, 3, 4, 5, 6] rfl) (hD.sub (ws' := [(a_said, .inl (cs 0, 123, .inl a_said_c)), (a_sign, .inl (cs 0, 2400, .inl a_sign_c)), (a_clause, .inl (cs 0, 360, .inl a_clause_c)), (a_clauses, .inl (cs 0, 6, .inl a_clauses_c)), (a, .inr (12, [.ref a_tape, .int a__taped, .int a__rules, .ref a_sign, .ref a_length, .ref a_clause, .ref a_clauses, .ref a_read, .int a__next, .int a__wrong, .int a__number, .int a__text, .int a__made, .int a__deep, .int a__lines, .ref a_open, .int a__opened, .ref a_stack, .int a__top, .ref a_word, .ref a_said, .int a__x, .ref a_worth, .ref a_mate, .ref a_wasSaid, .int 0, .int a__boughtNow, .ref a_wayBy, .ref a_wayThen, .int a__walkMost, .int a__walkGoing, .int a__walkSet, .ref a_kept, .long a__drawX, .ref a_images, .ref a_imageX, .ref a_isMade])), (a_word, .inl (cs 3, 13, .inr (.inl a_word_c))), (a_stack, .inl (cs 3, 64, .inr (.inl a_stack_c)))]) [0, 1, 2, 3, 4, 5, 6] (by decide) rfl) hS ls (lv_sub hl [0, 1, 2, 3] rfl)
        · have t55 : v49.toInt > 99 := lin_leN c51 rfl (by decide)
          have h56 : IV 100 248 v49 := iv_lt2 (Int32.not_le.mp c51) (iv_c (a := 99) (b := 99) (by decide)) hv49 (by decide)
          have ii57 : 100 ≤ v49.toInt ∧ v49.toInt ≤ 248 := h56
          refine lv_iconst (v := (-1)) hx hb dX12_run_40 (by decide) ?_
          refine W.widen (k := 0) (n := 0) (Nat.le_of_ble_eq_true rfl) (Nat.le_of_ble_eq_true rfl) ?_
          have g58 : a__undone = a__undone := (rfl)
          exact W.iret (v := (-1)) hx hb hr (fun t ht hW => ⟨⟨(-1), (fun k => match k with | 0 => 0 | 1 => a__top | 2 => a__undone | 3 => a__boughtNow | _ => 0, fun k => match k with | 0 => a_said_c | _ => fun _ => 0), rfl, (Or.inl (⟨rfl, h_a__top, h_a__undone, hf0, hf1, hf2, g58⟩)), a_stack_c, a_word_c, by rw [ht]; exact hP.sub [0, 1, 2, 3, 4, 5, 6] rfl, hD.sub [0, 1, 2, 3, 4, 5, 6] (by decide) rfl⟩, hS.F ht⟩) hS.2.2 dX12_run_41
set_option maxHeartbeats 4000000 in
set_option maxRecDepth 100000 in
theorem c_X12_placeOf_W (l : Launch) (D : va_G) (cs : Nat → ClassId) (kK kV : Nat → Nat) (p0 : Int32) (p1 : Int32) (h_p0 : IV 0 7 p0) (h_p1 : IV 0 255 p1) : Met l yX12_placeOf (hz_w yX12_placeOf cX12_placeOf 2 (some .int)) ({ frames := 0, cells := 0, slots := 0, locals := 0 }) (va_Pc [.int p0, .int p1] (hz_P D cs kK kV [])) (va_Qi (fun (r : Int32) (_ : Unit) => IV 0 2047 r) (fun _ t => True) (fun _ => False)) 0 0 (fun _ => False) := by
  refine Met.ofW (cc := cX12_placeOf) (maxL := 2) (ret := (some .int)) (by decide) rfl ?_
  intro p e s m args below meth c s₁ B hml hv
  obtain ⟨rfl, hP, hE⟩ := hv
  have hx := B.exec
  have hb := B.bytes
  have hr := B.returns
  have hT : ∀ w ∈ TB, w.before _ s = true := fun w h => atoms_spec (ws := hz_w yX12_placeOf cX12_placeOf 2 (some .int)) B.pre w (List.mem_cons_of_mem _ h)
  have hown : s.vm.findClass RX12 = some m.cls := findClass_of_methodNamed B.named
  have hlocks := B.notSynchronized
  clear B
  have hS : va_S (fun _ => False) s.heap s.heap [] := va_S.rf
  have hK := hE.1
  have hl := lv_entry ([.int p0, .int p1]) (n := 2) (Nat.le_of_ble_eq_true rfl)
  rw [lg_entry_eq]
  generalize (lg_sl ([.int p0, .int p1]) ++ List.replicate (2 - (lg_sl ([.int p0, .int p1])).length) Slot.unset).toArray = ls at hl ⊢
  have hl : lv_has ls 2 [(0, .int p0), (1, .int p1)] := hl
  obtain ⟨H, eH⟩ : ∃ z, z = s.heap := ⟨_, rfl⟩
  have hP : va_P D classes [] H := by rw [eH]; exact hP
  have hS : va_S (fun _ => False) s.heap H [] := by rw [eH]; exact hS
  rw [← eH]
  clear eH
  obtain ⟨locs, el⟩ : ∃ z : List Loc, z = [] := ⟨_, rfl⟩
  rw [← el] at hS ⊢
  clear el
  have z0 : (0 : Int32).toInt = 0 := by decide
  have z1 : (1 : Int32).toInt = 1 := by decide
  have zm1 : (-1 : Int32).toInt = -1 := by decide
  have i_p0 : 0 ≤ p0.toInt ∧ p0.toInt ≤ 7 := h_p0
  have i_p1 : 0 ≤ p1.toInt ∧ p1.toInt ≤ 255 := h_p1
  refine lv_iload_n hx hb dX12_placeOf_0 rfl (lv_at hl 0 rfl) ?_
  refine lv_sipush (v := 256) hx hb dX12_placeOf_1 (by decide) ?_
  refine lv_imul hx hb dX12_placeOf_4 ?_
  refine lv_topi (fun v1 ev1 => ?_)
  have hv1 : IV 0 1792 v1 := iv_mul ev1 h_p0 (iv_c (a := 256) (b := 256) (by decide)) (by decide) (by decide) (by decide) (by decide)
  have ii2 : 0 ≤ v1.toInt ∧ v1.toInt ≤ 1792 := hv1
  have lv1 : v1.toInt = p0.toInt * 256 := lin_mul ev1 h_p0 (iv_c (a := 256) (b := 256) (by decide)) rfl (by decide) (by decide) (by decide) (by decide) (by decide)
  refine lv_iload_n hx hb dX12_placeOf_5 rfl (lv_at hl 1 rfl) ?_
  refine lv_iadd hx hb dX12_placeOf_6 ?_
  refine lv_topi (fun v3 ev3 => ?_)
  have hv3 : IV 0 2047 v3 := iv_add ev3 hv1 h_p1 (by decide) (by decide)
  have ii4 : 0 ≤ v3.toInt ∧ v3.toInt ≤ 2047 := hv3
  have lv3 : v3.toInt = v1.toInt + p1.toInt := lin_add ev3 hv1 h_p1 rfl rfl (by decide) (by decide)
  exact W.iret (v := v3) hx hb hr (fun t ht hW => ⟨⟨v3, (), rfl, hv3, trivial⟩, hS.F ht⟩) hS.2.2 dX12_placeOf_7
theorem dX12_walksOn_0 : decode cX12_walksOn 0 = .ok (.iconst 0, 1) := by decide +kernel
theorem dX12_walksOn_1 : decode cX12_walksOn 1 = .ok (.istore_n 3, 1) := by decide +kernel
theorem dX12_walksOn_2 : decode cX12_walksOn 2 = .ok (.iload_n 3, 1) := by decide +kernel
theorem dX12_walksOn_3 : decode cX12_walksOn 3 = .ok (.sipush 2048, 3) := by decide +kernel
theorem dX12_walksOn_6 : decode cX12_walksOn 6 = .ok (.if_icmp .ge 16, 3) := by decide +kernel
theorem dX12_walksOn_9 : decode cX12_walksOn 9 = .ok (.aload_n 0, 1) := by decide +kernel
theorem dX12_walksOn_10 : decode cX12_walksOn 10 = .ok (.getfield 54, 3) := by decide +kernel
theorem dX12_walksOn_13 : decode cX12_walksOn 13 = .ok (.iload_n 3, 1) := by decide +kernel
theorem dX12_walksOn_14 : decode cX12_walksOn 14 = .ok (.iconst 0, 1) := by decide +kernel
theorem dX12_walksOn_15 : decode cX12_walksOn 15 = .ok (.iastore, 1) := by decide +kernel
theorem dX12_walksOn_16 : decode cX12_walksOn 16 = .ok (.iinc 3 1, 3) := by decide +kernel
theorem dX12_walksOn_19 : decode cX12_walksOn 19 = .ok (.goto (-17), 3) := by decide +kernel
theorem dX12_walksOn_22 : decode cX12_walksOn 22 = .ok (.iconst 0, 1) := by decide +kernel
theorem dX12_walksOn_23 : decode cX12_walksOn 23 = .ok (.istore_n 3, 1) := by decide +kernel
theorem dX12_walksOn_24 : decode cX12_walksOn 24 = .ok (.iload_n 3, 1) := by decide +kernel
theorem dX12_walksOn_25 : decode cX12_walksOn 25 = .ok (.aload_n 0, 1) := by decide +kernel
theorem dX12_walksOn_26 : decode cX12_walksOn 26 = .ok (.getfield 39, 3) := by decide +kernel
theorem dX12_walksOn_29 : decode cX12_walksOn 29 = .ok (.iconst 0, 1) := by decide +kernel
theorem dX12_walksOn_30 : decode cX12_walksOn 30 = .ok (.iaload, 1) := by decide +kernel
theorem dX12_walksOn_31 : decode cX12_walksOn 31 = .ok (.if_icmp .ge 122, 3) := by decide +kernel
theorem dX12_walksOn_34 : decode cX12_walksOn 34 = .ok (.iconst 0, 1) := by decide +kernel
theorem dX12_walksOn_35 : decode cX12_walksOn 35 = .ok (.istore 4, 2) := by decide +kernel
theorem dX12_walksOn_37 : decode cX12_walksOn 37 = .ok (.iload 4, 2) := by decide +kernel
theorem dX12_walksOn_39 : decode cX12_walksOn 39 = .ok (.sipush 256, 3) := by decide +kernel
theorem dX12_walksOn_42 : decode cX12_walksOn 42 = .ok (.if_icmp .ge 105, 3) := by decide +kernel
theorem dX12_walksOn_45 : decode cX12_walksOn 45 = .ok (.aload_n 0, 1) := by decide +kernel
theorem dX12_walksOn_46 : decode cX12_walksOn 46 = .ok (.getfield 51, 3) := by decide +kernel
theorem dX12_walksOn_49 : decode cX12_walksOn 49 = .ok (.iload_n 3, 1) := by decide +kernel
theorem dX12_walksOn_50 : decode cX12_walksOn 50 = .ok (.iload 4, 2) := by decide +kernel
theorem dX12_walksOn_52 : decode cX12_walksOn 52 = .ok (.invokestatic 421, 3) := by decide +kernel
theorem dX12_walksOn_55 : decode cX12_walksOn 55 = .ok (.iaload, 1) := by decide +kernel
theorem dX12_walksOn_56 : decode cX12_walksOn 56 = .ok (.istore 5, 2) := by decide +kernel
theorem dX12_walksOn_58 : decode cX12_walksOn 58 = .ok (.iload 5, 2) := by decide +kernel
theorem dX12_walksOn_60 : decode cX12_walksOn 60 = .ok (.ifCond .ne 6, 3) := by decide +kernel
theorem dX12_walksOn_63 : decode cX12_walksOn 63 = .ok (.goto 78, 3) := by decide +kernel
theorem dX12_walksOn_66 : decode cX12_walksOn 66 = .ok (.iconst (-1), 1) := by decide +kernel
theorem dX12_walksOn_67 : decode cX12_walksOn 67 = .ok (.istore 6, 2) := by decide +kernel
theorem dX12_walksOn_69 : decode cX12_walksOn 69 = .ok (.iload 6, 2) := by decide +kernel
theorem dX12_walksOn_71 : decode cX12_walksOn 71 = .ok (.iconst 2, 1) := by decide +kernel
theorem dX12_walksOn_72 : decode cX12_walksOn 72 = .ok (.if_icmp .ge 69, 3) := by decide +kernel
theorem dX12_walksOn_75 : decode cX12_walksOn 75 = .ok (.iload_n 3, 1) := by decide +kernel
theorem dX12_walksOn_76 : decode cX12_walksOn 76 = .ok (.iload 6, 2) := by decide +kernel
theorem dX12_walksOn_78 : decode cX12_walksOn 78 = .ok (.iadd, 1) := by decide +kernel
theorem dX12_walksOn_79 : decode cX12_walksOn 79 = .ok (.aload_n 0, 1) := by decide +kernel
theorem dX12_walksOn_80 : decode cX12_walksOn 80 = .ok (.getfield 39, 3) := by decide +kernel
theorem dX12_walksOn_83 : decode cX12_walksOn 83 = .ok (.iconst 0, 1) := by decide +kernel
theorem dX12_walksOn_84 : decode cX12_walksOn 84 = .ok (.iaload, 1) := by decide +kernel
theorem dX12_walksOn_85 : decode cX12_walksOn 85 = .ok (.iadd, 1) := by decide +kernel
theorem dX12_walksOn_86 : decode cX12_walksOn 86 = .ok (.aload_n 0, 1) := by decide +kernel
theorem dX12_walksOn_87 : decode cX12_walksOn 87 = .ok (.getfield 39, 3) := by decide +kernel
theorem dX12_walksOn_90 : decode cX12_walksOn 90 = .ok (.iconst 0, 1) := by decide +kernel
theorem dX12_walksOn_91 : decode cX12_walksOn 91 = .ok (.iaload, 1) := by decide +kernel
theorem dX12_walksOn_92 : decode cX12_walksOn 92 = .ok (.irem, 1) := by decide +kernel
theorem dX12_walksOn_93 : decode cX12_walksOn 93 = .ok (.istore 7, 2) := by decide +kernel
theorem dX12_walksOn_95 : decode cX12_walksOn 95 = .ok (.aload_n 0, 1) := by decide +kernel
theorem dX12_walksOn_96 : decode cX12_walksOn 96 = .ok (.getfield 54, 3) := by decide +kernel
theorem dX12_walksOn_99 : decode cX12_walksOn 99 = .ok (.iload 7, 2) := by decide +kernel
theorem dX12_walksOn_101 : decode cX12_walksOn 101 = .ok (.iload 4, 2) := by decide +kernel
theorem dX12_walksOn_103 : decode cX12_walksOn 103 = .ok (.iconst 1, 1) := by decide +kernel
theorem dX12_walksOn_104 : decode cX12_walksOn 104 = .ok (.aload_n 0, 1) := by decide +kernel
theorem dX12_walksOn_105 : decode cX12_walksOn 105 = .ok (.iload 7, 2) := by decide +kernel
theorem dX12_walksOn_107 : decode cX12_walksOn 107 = .ok (.iload_n 1, 1) := by decide +kernel
theorem dX12_walksOn_108 : decode cX12_walksOn 108 = .ok (.invokevirtual 317, 3) := by decide +kernel
theorem dX12_walksOn_111 : decode cX12_walksOn 111 = .ok (.ishl, 1) := by decide +kernel
theorem dX12_walksOn_112 : decode cX12_walksOn 112 = .ok (.ior, 1) := by decide +kernel
theorem dX12_walksOn_113 : decode cX12_walksOn 113 = .ok (.invokestatic 421, 3) := by decide +kernel
theorem dX12_walksOn_116 : decode cX12_walksOn 116 = .ok (.dup2, 1) := by decide +kernel
theorem dX12_walksOn_117 : decode cX12_walksOn 117 = .ok (.iaload, 1) := by decide +kernel
theorem dX12_walksOn_118 : decode cX12_walksOn 118 = .ok (.iload_n 2, 1) := by decide +kernel
theorem dX12_walksOn_119 : decode cX12_walksOn 119 = .ok (.ifCond .eq 12, 3) := by decide +kernel
theorem dX12_walksOn_122 : decode cX12_walksOn 122 = .ok (.iconst 1, 1) := by decide +kernel
theorem dX12_walksOn_123 : decode cX12_walksOn 123 = .ok (.iload 6, 2) := by decide +kernel
theorem dX12_walksOn_125 : decode cX12_walksOn 125 = .ok (.iconst 1, 1) := by decide +kernel
theorem dX12_walksOn_126 : decode cX12_walksOn 126 = .ok (.iadd, 1) := by decide +kernel
theorem dX12_walksOn_127 : decode cX12_walksOn 127 = .ok (.ishl, 1) := by decide +kernel
theorem dX12_walksOn_128 : decode cX12_walksOn 128 = .ok (.goto 5, 3) := by decide +kernel
theorem dX12_walksOn_131 : decode cX12_walksOn 131 = .ok (.iload 5, 2) := by decide +kernel
theorem dX12_walksOn_133 : decode cX12_walksOn 133 = .ok (.ior, 1) := by decide +kernel
theorem dX12_walksOn_134 : decode cX12_walksOn 134 = .ok (.iastore, 1) := by decide +kernel
theorem dX12_walksOn_135 : decode cX12_walksOn 135 = .ok (.iinc 6 1, 3) := by decide +kernel
theorem dX12_walksOn_138 : decode cX12_walksOn 138 = .ok (.goto (-69), 3) := by decide +kernel
theorem dX12_walksOn_141 : decode cX12_walksOn 141 = .ok (.iinc 4 1, 3) := by decide +kernel
theorem dX12_walksOn_144 : decode cX12_walksOn 144 = .ok (.goto (-107), 3) := by decide +kernel
theorem dX12_walksOn_147 : decode cX12_walksOn 147 = .ok (.iinc 3 1, 3) := by decide +kernel
theorem dX12_walksOn_150 : decode cX12_walksOn 150 = .ok (.goto (-126), 3) := by decide +kernel
theorem dX12_walksOn_153 : decode cX12_walksOn 153 = .ok (.iconst 0, 1) := by decide +kernel
theorem dX12_walksOn_154 : decode cX12_walksOn 154 = .ok (.istore_n 3, 1) := by decide +kernel
theorem dX12_walksOn_155 : decode cX12_walksOn 155 = .ok (.iload_n 3, 1) := by decide +kernel
theorem dX12_walksOn_156 : decode cX12_walksOn 156 = .ok (.sipush 2048, 3) := by decide +kernel
theorem dX12_walksOn_159 : decode cX12_walksOn 159 = .ok (.if_icmp .ge 21, 3) := by decide +kernel
theorem dX12_walksOn_162 : decode cX12_walksOn 162 = .ok (.aload_n 0, 1) := by decide +kernel
theorem dX12_walksOn_163 : decode cX12_walksOn 163 = .ok (.getfield 51, 3) := by decide +kernel
theorem dX12_walksOn_166 : decode cX12_walksOn 166 = .ok (.iload_n 3, 1) := by decide +kernel
theorem dX12_walksOn_167 : decode cX12_walksOn 167 = .ok (.aload_n 0, 1) := by decide +kernel
theorem dX12_walksOn_168 : decode cX12_walksOn 168 = .ok (.getfield 54, 3) := by decide +kernel
theorem dX12_walksOn_171 : decode cX12_walksOn 171 = .ok (.iload_n 3, 1) := by decide +kernel
theorem dX12_walksOn_172 : decode cX12_walksOn 172 = .ok (.iaload, 1) := by decide +kernel
theorem dX12_walksOn_173 : decode cX12_walksOn 173 = .ok (.iastore, 1) := by decide +kernel
theorem dX12_walksOn_174 : decode cX12_walksOn 174 = .ok (.iinc 3 1, 3) := by decide +kernel
theorem dX12_walksOn_177 : decode cX12_walksOn 177 = .ok (.goto (-22), 3) := by decide +kernel
theorem dX12_walksOn_180 : decode cX12_walksOn 180 = .ok (.return_, 1) := by decide +kernel
set_option maxHeartbeats 4000000 in
set_option maxRecDepth 100000 in
theorem c_X12_walksOn (l : Launch) (D : va_G) (cs : Nat → ClassId) (kK kV : Nat → Nat) (a : Nat) (p0 : Int32) (p1 : Int32) (a_said : Nat) (a_said_c : Nat → Int32) (a_tape : Nat) (a__taped : Int32) (a__rules : Int32) (a_sign : Nat) (a_length : Nat) (a_clause : Nat) (a_clauses : Nat) (a_read : Nat) (a__next : Int32) (a__wrong : Int32) (a__number : Int32) (a__text : Int32) (a__made : Int32) (a__deep : Int32) (a__lines : Int32) (a_open : Nat) (a__opened : Int32) (a_stack : Nat) (a__top : Int32) (a_word : Nat) (a__x : Int32) (a_worth : Nat) (a_mate : Nat) (a_wasSaid : Nat) (a__undone : Int32) (a__boughtNow : Int32) (a_wayBy : Nat) (a_wayThen : Nat) (a__walkMost : Int32) (a__walkGoing : Int32) (a__walkSet : Int32) (a_kept : Nat) (a__drawX : Int64) (a_images : Nat) (a_imageX : Nat) (a_isMade : Nat) (a_wayThen_c : Nat → Int32) (a_wayBy_c : Nat → Int32) (h_p0 : IV 0 300 p0) (h_p1 : IV 0 1 p1) (h_a__taped : IV 0 400 a__taped) (h_a__rules : IV 0 6 a__rules) (h_a__next : IV 0 400 a__next) (h_a__text : IV 0 6 a__text) (h_a__made : IV 0 60 a__made) (h_a__lines : IV 0 40 a__lines) (h_a__opened : IV 0 400 a__opened) (h_a__top : IV 0 64 a__top) (h_a__x : IV 0 2147483647 a__x) (h_a__undone : IV 0 20 a__undone) (hf0 : BS a_said_c 200) (hf1 : 2 ≤ (a_said_c 0).toInt) (sz : Nat) : Met l yX12_walksOn (hz_w yX12_walksOn cX12_walksOn 8 none) ({ frames := 2, cells := 0, slots := 0, locals := 45 }) (va_Pc [.ref a, .int p0, .int p1] (hz_C D cs kK kV sz [(a_said, .inl (cs 0, 123, .inl a_said_c)), (a, .inr (12, [.ref a_tape, .int a__taped, .int a__rules, .ref a_sign, .ref a_length, .ref a_clause, .ref a_clauses, .ref a_read, .int a__next, .int a__wrong, .int a__number, .int a__text, .int a__made, .int a__deep, .int a__lines, .ref a_open, .int a__opened, .ref a_stack, .int a__top, .ref a_word, .ref a_said, .int a__x, .ref a_worth, .ref a_mate, .ref a_wasSaid, .int a__undone, .int a__boughtNow, .ref a_wayBy, .ref a_wayThen, .int a__walkMost, .int a__walkGoing, .int a__walkSet, .ref a_kept, .long a__drawX, .ref a_images, .ref a_imageX, .ref a_isMade])), (a_wayThen, .inl (cs 0, 2048, .inl a_wayThen_c)), (a_wayBy, .inl (cs 0, 2048, .inl a_wayBy_c))])) (va_Qv (fun (u : (Nat → Int32) × (Nat → Nat → Int32)) => True) (fun u t => va_P D classes [(a_said, .inl (cs 0, 123, .inl a_said_c)), (a, .inr (12, [.ref a_tape, .int a__taped, .int a__rules, .ref a_sign, .ref a_length, .ref a_clause, .ref a_clauses, .ref a_read, .int a__next, .int a__wrong, .int a__number, .int a__text, .int a__made, .int a__deep, .int a__lines, .ref a_open, .int a__opened, .ref a_stack, .int a__top, .ref a_word, .ref a_said, .int a__x, .ref a_worth, .ref a_mate, .ref a_wasSaid, .int a__undone, .int a__boughtNow, .ref a_wayBy, .ref a_wayThen, .int a__walkMost, .int a__walkGoing, .int a__walkSet, .ref a_kept, .long a__drawX, .ref a_images, .ref a_imageX, .ref a_isMade])), (a_wayThen, .inl (cs 0, 2048, .inl (u.2 1))), (a_wayBy, .inl (cs 0, 2048, .inl (u.2 0)))] t.heap ∧ va_D (va_A [(a_said, .inl (cs 0, 123, .inl a_said_c)), (a, .inr (12, [.ref a_tape, .int a__taped, .int a__rules, .ref a_sign, .ref a_length, .ref a_clause, .ref a_clauses, .ref a_read, .int a__next, .int a__wrong, .int a__number, .int a__text, .int a__made, .int a__deep, .int a__lines, .ref a_open, .int a__opened, .ref a_stack, .int a__top, .ref a_word, .ref a_said, .int a__x, .ref a_worth, .ref a_mate, .ref a_wasSaid, .int a__undone, .int a__boughtNow, .ref a_wayBy, .ref a_wayThen, .int a__walkMost, .int a__walkGoing, .int a__walkSet, .ref a_kept, .long a__drawX, .ref a_images, .ref a_imageX, .ref a_isMade])), (a_wayThen, .inl (cs 0, 2048, .inl a_wayThen_c)), (a_wayBy, .inl (cs 0, 2048, .inl a_wayBy_c))] sz) [(a_said, .inl (cs 0, 123, .inl a_said_c)), (a, .inr (12, [.ref a_tape, .int a__taped, .int a__rules, .ref a_sign, .ref a_length, .ref a_clause, .ref a_clauses, .ref a_read, .int a__next, .int a__wrong, .int a__number, .int a__text, .int a__made, .int a__deep, .int a__lines, .ref a_open, .int a__opened, .ref a_stack, .int a__top, .ref a_word, .ref a_said, .int a__x, .ref a_worth, .ref a_mate, .ref a_wasSaid, .int a__undone, .int a__boughtNow, .ref a_wayBy, .ref a_wayThen, .int a__walkMost, .int a__walkGoing, .int a__walkSet, .ref a_kept, .long a__drawX, .ref a_images, .ref a_imageX, .ref a_isMade])), (a_wayThen, .inl (cs 0, 2048, .inl (u.2 1))), (a_wayBy, .inl (cs 0, 2048, .inl (u.2 0)))]) (va_A [(a_said, .inl (cs 0, 123, .inl a_said_c)), (a, .inr (12, [.ref a_tape, .int a__taped, .int a__rules, .ref a_sign, .ref a_length, .ref a_clause, .ref a_clauses, .ref a_read, .int a__next, .int a__wrong, .int a__number, .int a__text, .int a__made, .int a__deep, .int a__lines, .ref a_open, .int a__opened, .ref a_stack, .int a__top, .ref a_word, .ref a_said, .int a__x, .ref a_worth, .ref a_mate, .ref a_wasSaid, .int a__undone, .int a__boughtNow, .ref a_wayBy, .ref a_wayThen, .int a__walkMost, .int a__walkGoing, .int a__walkSet, .ref a_kept, .long a__drawX, .ref a_images, .ref a_imageX, .ref a_isMade])), (a_wayThen, .inl (cs 0, 2048, .inl a_wayThen_c)), (a_wayBy, .inl (cs 0, 2048, .inl a_wayBy_c))] sz)) 0 0 (va_A [(a_said, .inl (cs 0, 123, .inl a_said_c)), (a, .inr (12, [.ref a_tape, .int a__taped, .int a__rules, .ref a_sign, .ref a_length, .ref a_clause, .ref a_clauses, .ref a_read, .int a__next, .int a__wrong, .int a__number, .int a__text, .int a__made, .int a__deep, .int a__lines, .ref a_open, .int a__opened, .ref a_stack, .int a__top, .ref a_word, .ref a_said, .int a__x, .ref a_worth, .ref a_mate, .ref a_wasSaid, .int a__undone, .int a__boughtNow, .ref a_wayBy, .ref a_wayThen, .int a__walkMost, .int a__walkGoing, .int a__walkSet, .ref a_kept, .long a__drawX, .ref a_images, .ref a_imageX, .ref a_isMade])), (a_wayThen, .inl (cs 0, 2048, .inl a_wayThen_c)), (a_wayBy, .inl (cs 0, 2048, .inl a_wayBy_c))] sz) := by
  refine Met.ofW (cc := cX12_walksOn) (maxL := 8) (ret := none) (by decide) rfl ?_
  intro p e s m args below meth c s₁ B hml hv
  obtain ⟨rfl, hsz, hP, hD0, hE⟩ := hv
  have hx := B.exec
  have hb := B.bytes
  have hr := B.returns
  have hT : ∀ w ∈ TB, w.before _ s = true := fun w h => atoms_spec (ws := hz_w yX12_walksOn cX12_walksOn 8 none) B.pre w (List.mem_cons_of_mem _ h)
  have hown : s.vm.findClass RX12 = some m.cls := findClass_of_methodNamed B.named
  have hlocks := B.notSynchronized
  clear B
  subst hsz
  have hD := hD0.self (sz := s.heap.size)
  generalize hAe : va_A [(a_said, .inl (cs 0, 123, .inl a_said_c)), (a, .inr (12, [.ref a_tape, .int a__taped, .int a__rules, .ref a_sign, .ref a_length, .ref a_clause, .ref a_clauses, .ref a_read, .int a__next, .int a__wrong, .int a__number, .int a__text, .int a__made, .int a__deep, .int a__lines, .ref a_open, .int a__opened, .ref a_stack, .int a__top, .ref a_word, .ref a_said, .int a__x, .ref a_worth, .ref a_mate, .ref a_wasSaid, .int a__undone, .int a__boughtNow, .ref a_wayBy, .ref a_wayThen, .int a__walkMost, .int a__walkGoing, .int a__walkSet, .ref a_kept, .long a__drawX, .ref a_images, .ref a_imageX, .ref a_isMade])), (a_wayThen, .inl (cs 0, 2048, .inl a_wayThen_c)), (a_wayBy, .inl (cs 0, 2048, .inl a_wayBy_c))] s.heap.size = A at hD hE ⊢
  have hA : ∀ q : Nat, s.heap.size ≤ q → A q := fun q h => by rw [← hAe]; exact Or.inr h
  clear hAe hD0
  have hS : va_S A s.heap s.heap [] := va_S.rf
  have hK := hE.1
  have hl := lv_entry ([.ref a, .int p0, .int p1]) (n := 8) (Nat.le_of_ble_eq_true rfl)
  rw [lg_entry_eq]
  generalize (lg_sl ([.ref a, .int p0, .int p1]) ++ List.replicate (8 - (lg_sl ([.ref a, .int p0, .int p1])).length) Slot.unset).toArray = ls at hl ⊢
  have hl : lv_has ls 8 [(0, .ref a), (1, .int p0), (2, .int p1)] := hl
  obtain ⟨H, eH⟩ : ∃ z, z = s.heap := ⟨_, rfl⟩
  have hP : va_P D classes [(a_said, .inl (cs 0, 123, .inl a_said_c)), (a, .inr (12, [.ref a_tape, .int a__taped, .int a__rules, .ref a_sign, .ref a_length, .ref a_clause, .ref a_clauses, .ref a_read, .int a__next, .int a__wrong, .int a__number, .int a__text, .int a__made, .int a__deep, .int a__lines, .ref a_open, .int a__opened, .ref a_stack, .int a__top, .ref a_word, .ref a_said, .int a__x, .ref a_worth, .ref a_mate, .ref a_wasSaid, .int a__undone, .int a__boughtNow, .ref a_wayBy, .ref a_wayThen, .int a__walkMost, .int a__walkGoing, .int a__walkSet, .ref a_kept, .long a__drawX, .ref a_images, .ref a_imageX, .ref a_isMade])), (a_wayThen, .inl (cs 0, 2048, .inl a_wayThen_c)), (a_wayBy, .inl (cs 0, 2048, .inl a_wayBy_c))] H := by rw [eH]; exact hP
  have hS : va_S A s.heap H [] := by rw [eH]; exact hS
  rw [← eH]
  clear eH
  obtain ⟨locs, el⟩ : ∃ z : List Loc, z = [] := ⟨_, rfl⟩
  rw [← el] at hS ⊢
  clear el
  have z0 : (0 : Int32).toInt = 0 := by decide
  have z1 : (1 : Int32).toInt = 1 := by decide
  have zm1 : (-1 : Int32).toInt = -1 := by decide
  have i_a__lines : 0 ≤ a__lines.toInt ∧ a__lines.toInt ≤ 40 := h_a__lines
  have i_a__made : 0 ≤ a__made.toInt ∧ a__made.toInt ≤ 60 := h_a__made
  have i_a__next : 0 ≤ a__next.toInt ∧ a__next.toInt ≤ 400 := h_a__next
  have i_a__opened : 0 ≤ a__opened.toInt ∧ a__opened.toInt ≤ 400 := h_a__opened
  have i_a__rules : 0 ≤ a__rules.toInt ∧ a__rules.toInt ≤ 6 := h_a__rules
  have i_a__taped : 0 ≤ a__taped.toInt ∧ a__taped.toInt ≤ 400 := h_a__taped
  have i_a__text : 0 ≤ a__text.toInt ∧ a__text.toInt ≤ 6 := h_a__text
  have i_a__top : 0 ≤ a__top.toInt ∧ a__top.toInt ≤ 64 := h_a__top
  have i_a__undone : 0 ≤ a__undone.toInt ∧ a__undone.toInt ≤ 20 := h_a__undone
  have i_a__x : 0 ≤ a__x.toInt ∧ a__x.toInt ≤ 2147483647 := h_a__x
  have i_p0 : 0 ≤ p0.toInt ∧ p0.toInt ≤ 300 := h_p0
  have i_p1 : 0 ≤ p1.toInt ∧ p1.toInt ≤ 1 := h_p1
  have K155 : ∀ (n : Nat) (k155_L_3 : Int32) (k155_C_a_wayThen : Nat → Int32) (k155_C_a_wayBy : Nat → Int32), (2048 - k155_L_3.toInt + 1).toNat ≤ n → IV 0 2048 k155_L_3 → ∀ (H : Heap) (locs : List Loc), va_P D classes [(a_said, .inl (cs 0, 123, .inl a_said_c)), (a, .inr (12, [.ref a_tape, .int a__taped, .int a__rules, .ref a_sign, .ref a_length, .ref a_clause, .ref a_clauses, .ref a_read, .int a__next, .int a__wrong, .int a__number, .int a__text, .int a__made, .int a__deep, .int a__lines, .ref a_open, .int a__opened, .ref a_stack, .int a__top, .ref a_word, .ref a_said, .int a__x, .ref a_worth, .ref a_mate, .ref a_wasSaid, .int a__undone, .int a__boughtNow, .ref a_wayBy, .ref a_wayThen, .int a__walkMost, .int a__walkGoing, .int a__walkSet, .ref a_kept, .long a__drawX, .ref a_images, .ref a_imageX, .ref a_isMade])), (a_wayThen, .inl (cs 0, 2048, .inl k155_C_a_wayThen)), (a_wayBy, .inl (cs 0, 2048, .inl k155_C_a_wayBy))] H → va_D A [(a_said, .inl (cs 0, 123, .inl a_said_c)), (a, .inr (12, [.ref a_tape, .int a__taped, .int a__rules, .ref a_sign, .ref a_length, .ref a_clause, .ref a_clauses, .ref a_read, .int a__next, .int a__wrong, .int a__number, .int a__text, .int a__made, .int a__deep, .int a__lines, .ref a_open, .int a__opened, .ref a_stack, .int a__top, .ref a_word, .ref a_said, .int a__x, .ref a_worth, .ref a_mate, .ref a_wasSaid, .int a__undone, .int a__boughtNow, .ref a_wayBy, .ref a_wayThen, .int a__walkMost, .int a__walkGoing, .int a__walkSet, .ref a_kept, .long a__drawX, .ref a_images, .ref a_imageX, .ref a_isMade])), (a_wayThen, .inl (cs 0, 2048, .inl k155_C_a_wayThen)), (a_wayBy, .inl (cs 0, 2048, .inl k155_C_a_wayBy))] → va_S A s.heap H locs → ∀ ls : Array Slot, lv_has ls 8 [(3, .int k155_L_3), (0, .ref a), (1, .int p0), (2, .int p1)] → W p l e (headSpec (hz_w yX12_walksOn cX12_walksOn 8 none) ({ frames := 2, cells := 0, slots := 0, locals := 45 })).room s m [.ref a, .int p0, .int p1].toArray below meth c H locs 0 0 (MQ below (va_Qv (fun (u : (Nat → Int32) × (Nat → Nat → Int32)) => True) (fun u t => va_P D classes [(a_said, .inl (cs 0, 123, .inl a_said_c)), (a, .inr (12, [.ref a_tape, .int a__taped, .int a__rules, .ref a_sign, .ref a_length, .ref a_clause, .ref a_clauses, .ref a_read, .int a__next, .int a__wrong, .int a__number, .int a__text, .int a__made, .int a__deep, .int a__lines, .ref a_open, .int a__opened, .ref a_stack, .int a__top, .ref a_word, .ref a_said, .int a__x, .ref a_worth, .ref a_mate, .ref a_wasSaid, .int a__undone, .int a__boughtNow, .ref a_wayBy, .ref a_wayThen, .int a__walkMost, .int a__walkGoing, .int a__walkSet, .ref a_kept, .long a__drawX, .ref a_images, .ref a_imageX, .ref a_isMade])), (a_wayThen, .inl (cs 0, 2048, .inl (u.2 1))), (a_wayBy, .inl (cs 0, 2048, .inl (u.2 0)))] t.heap ∧ va_D A [(a_said, .inl (cs 0, 123, .inl a_said_c)), (a, .inr (12, [.ref a_tape, .int a__taped, .int a__rules, .ref a_sign, .ref a_length, .ref a_clause, .ref a_clauses, .ref a_read, .int a__next, .int a__wrong, .int a__number, .int a__text, .int a__made, .int a__deep, .int a__lines, .ref a_open, .int a__opened, .ref a_stack, .int a__top, .ref a_word, .ref a_said, .int a__x, .ref a_worth, .ref a_mate, .ref a_wasSaid, .int a__undone, .int a__boughtNow, .ref a_wayBy, .ref a_wayThen, .int a__walkMost, .int a__walkGoing, .int a__walkSet, .ref a_kept, .long a__drawX, .ref a_images, .ref a_imageX, .ref a_isMade])), (a_wayThen, .inl (cs 0, 2048, .inl (u.2 1))), (a_wayBy, .inl (cs 0, 2048, .inl (u.2 0)))]) A) [.ref a, .int p0, .int p1].toArray s 0 0 A) (F0 m 155 ls []) := by
    intro n
    induction n with
    | zero =>
      intro k155_L_3 k155_C_a_wayThen k155_C_a_wayBy hn q155_10 H locs hP hD hS ls hl
      exact absurd hn (by unfold IV at q155_10; omega)
    | succ n ih155 =>
      intro k155_L_3 k155_C_a_wayThen k155_C_a_wayBy hn q155_10 H locs hP hD hS ls hl
      have i_a__lines : 0 ≤ a__lines.toInt ∧ a__lines.toInt ≤ 40 := h_a__lines
      have i_a__made : 0 ≤ a__made.toInt ∧ a__made.toInt ≤ 60 := h_a__made
      have i_a__next : 0 ≤ a__next.toInt ∧ a__next.toInt ≤ 400 := h_a__next
      have i_a__opened : 0 ≤ a__opened.toInt ∧ a__opened.toInt ≤ 400 := h_a__opened
      have i_a__rules : 0 ≤ a__rules.toInt ∧ a__rules.toInt ≤ 6 := h_a__rules
      have i_a__taped : 0 ≤ a__taped.toInt ∧ a__taped.toInt ≤ 400 := h_a__taped
      have i_a__text : 0 ≤ a__text.toInt ∧ a__text.toInt ≤ 6 := h_a__text
      have i_a__top : 0 ≤ a__top.toInt ∧ a__top.toInt ≤ 64 := h_a__top
      have i_a__undone : 0 ≤ a__undone.toInt ∧ a__undone.toInt ≤ 20 := h_a__undone
      have i_a__x : 0 ≤ a__x.toInt ∧ a__x.toInt ≤ 2147483647 := h_a__x
      have i_k155_L_3 : 0 ≤ k155_L_3.toInt ∧ k155_L_3.toInt ≤ 2048 := q155_10
      have i_p0 : 0 ≤ p0.toInt ∧ p0.toInt ≤ 300 := h_p0
      have i_p1 : 0 ≤ p1.toInt ∧ p1.toInt ≤ 1 := h_p1
      refine lv_iload_n hx hb dX12_walksOn_155 rfl (lv_at hl 0 rfl) ?_
      refine lv_sipush (v := 2048) hx hb dX12_walksOn_156 (by decide) ?_
      refine lv_icmp_ge (tgt := 180) hx hb dX12_walksOn_159 (by decide) (fun c1 => ?_) (fun c1 => ?_)
      · have t2 : k155_L_3.toInt ≥ 2048 := lin_ge c1 rfl (by decide)
        have h3 : IV 2048 2048 k155_L_3 := iv_le2 c1 (iv_c (a := 2048) (b := 2048) (by decide)) q155_10 (by decide)
        have ii4 : 2048 ≤ k155_L_3.toInt ∧ k155_L_3.toInt ≤ 2048 := h3
        refine W.widen (k := 0) (n := 0) (Nat.le_of_ble_eq_true rfl) (Nat.le_of_ble_eq_true rfl) ?_
        exact W.vret hx hb hr (fun t ht hW => ⟨⟨(fun k => match k with | 0 => 0 | _ => 0, fun k => match k with | 0 => k155_C_a_wayBy | 1 => k155_C_a_wayThen | _ => fun _ => 0), rfl, (trivial), by rw [ht]; exact hP.sub [0, 1, 2, 3] rfl, hD.sub [0, 1, 2, 3] (by decide) rfl⟩, hS.F ht⟩) hS.2.2 dX12_walksOn_180
      · have t5 : k155_L_3.toInt < 2048 := lin_geN c1 rfl (by decide)
        have h6 : IV 0 2047 k155_L_3 := iv_lt1 (Int32.not_le.mp c1) q155_10 (iv_c (a := 2048) (b := 2048) (by decide)) (by decide)
        have ii7 : 0 ≤ k155_L_3.toInt ∧ k155_L_3.toInt ≤ 2047 := h6
        refine lv_aload_n hx hb dX12_walksOn_162 rfl (lv_at hl 1 rfl) ?_
        refine va_get (D := D) (ci := 12) (v := .ref a_wayBy) (C := RX12) (T := TX12) (N := 37) hx hb hT i_X12 hown hK hP 1 rfl rfl 27 (by decide) (hT _ q_189) (fun _ h9 => h9) rfl dX12_walksOn_163 ?_
        refine lv_iload_n hx hb dX12_walksOn_166 rfl (lv_at hl 0 rfl) ?_
        refine lv_aload_n hx hb dX12_walksOn_167 rfl (lv_at hl 1 rfl) ?_
        refine va_get (D := D) (ci := 12) (v := .ref a_wayThen) (C := RX12) (T := TX12) (N := 37) hx hb hT i_X12 hown hK hP 1 rfl rfl 28 (by decide) (hT _ q_190) (fun _ h9 => h9) rfl dX12_walksOn_168 ?_
        refine lv_iload_n hx hb dX12_walksOn_171 rfl (lv_at hl 0 rfl) ?_
        refine va_iald hx hb hK hP 2 0 rfl rfl (iv_v h6 (by decide) (by decide)) dX12_walksOn_172 ?_
        refine lv_topi (fun v8 ev8 => ?_)
        have lv8 : v8.toInt = (k155_C_a_wayThen (Int32.toNatClampNeg k155_L_3)).toInt := by rw [ev8]
        refine va_iast hx hb hK hP hD hS 3 0 rfl rfl (iv_v h6 (by decide) (by decide)) dX12_walksOn_173 (fun H locs hP hD hS => ?_)
        have hP : va_P D classes [(a_said, .inl (cs 0, 123, .inl a_said_c)), (a, .inr (12, [.ref a_tape, .int a__taped, .int a__rules, .ref a_sign, .ref a_length, .ref a_clause, .ref a_clauses, .ref a_read, .int a__next, .int a__wrong, .int a__number, .int a__text, .int a__made, .int a__deep, .int a__lines, .ref a_open, .int a__opened, .ref a_stack, .int a__top, .ref a_word, .ref a_said, .int a__x, .ref a_worth, .ref a_mate, .ref a_wasSaid, .int a__undone, .int a__boughtNow, .ref a_wayBy, .ref a_wayThen, .int a__walkMost, .int a__walkGoing, .int a__walkSet, .ref a_kept, .long a__drawX, .ref a_images, .ref a_imageX, .ref a_isMade])), (a_wayThen, .inl (cs 0, 2048, .inl k155_C_a_wayThen)), (a_wayBy, .inl (cs 0, 2048, .inl (upd k155_C_a_wayBy (Int32.toNatClampNeg k155_L_3) v8)))] H := hP
        have hD : va_D A [(a_said, .inl (cs 0, 123, .inl a_said_c)), (a, .inr (12, [.ref a_tape, .int a__taped, .int a__rules, .ref a_sign, .ref a_length, .ref a_clause, .ref a_clauses, .ref a_read, .int a__next, .int a__wrong, .int a__number, .int a__text, .int a__made, .int a__deep, .int a__lines, .ref a_open, .int a__opened, .ref a_stack, .int a__top, .ref a_word, .ref a_said, .int a__x, .ref a_worth, .ref a_mate, .ref a_wasSaid, .int a__undone, .int a__boughtNow, .ref a_wayBy, .ref a_wayThen, .int a__walkMost, .int a__walkGoing, .int a__walkSet, .ref a_kept, .long a__drawX, .ref a_images, .ref a_imageX, .ref a_isMade])), (a_wayThen, .inl (cs 0, 2048, .inl k155_C_a_wayThen)), (a_wayBy, .inl (cs 0, 2048, .inl (upd k155_C_a_wayBy (Int32.toNatClampNeg k155_L_3) v8)))] := hD
        obtain ⟨f9, uf9⟩ : ∃ z, z = upd k155_C_a_wayBy (Int32.toNatClampNeg k155_L_3) v8 := ⟨_, rfl⟩
        rw [← uf9] at hP hD
        have wf9 : (f9 (Int32.toNatClampNeg k155_L_3)).toInt = v8.toInt := lin_us uf9 rfl
        obtain ⟨v10, ev10⟩ : ∃ z : Int32, z = k155_L_3 + 1 := ⟨_, rfl⟩
        have hv10 : IV 1 2048 v10 := iv_add ev10 h6 (iv_c (a := 1) (b := 1) (by decide)) (by decide) (by decide)
        have dv10 : v10.toInt = k155_L_3.toInt + 1 := iv_addE ev10 h6 (iv_c (a := 1) (b := 1) (by decide)) (by decide) (by decide) (by decide)
        refine lv_iinc (v := v10) (lv' := [(3, .int v10), (0, .ref a), (1, .int p0), (2, .int p1)]) hx hb dX12_walksOn_174 hl (k := 0) rfl (by rw [ev10]; rfl) (by decide) rfl (fun ls hl => ?_)
        refine lv_goto (tgt := 155) hx hb dX12_walksOn_177 (by decide) ?_
        exact ih155 v10 k155_C_a_wayThen f9 (by have h9 := h6; unfold IV at h9; have := dv10; omega) (iv_w hv10 (by decide) (by decide)) H locs (hP.sub (ws' := [(a_said, .inl (cs 0, 123, .inl a_said_c)), (a, .inr (12, [.ref a_tape, .int a__taped, .int a__rules, .ref a_sign, .ref a_length, .ref a_clause, .ref a_clauses, .ref a_read, .int a__next, .int a__wrong, .int a__number, .int a__text, .int a__made, .int a__deep, .int a__lines, .ref a_open, .int a__opened, .ref a_stack, .int a__top, .ref a_word, .ref a_said, .int a__x, .ref a_worth, .ref a_mate, .ref a_wasSaid, .int a__undone, .int a__boughtNow, .ref a_wayBy, .ref a_wayThen, .int a__walkMost, .int a__walkGoing, .int a__walkSet, .ref a_kept, .long a__drawX, .ref a_images, .ref a_imageX, .ref a_isMade])), (a_wayThen, .inl (cs 0, 2048, .inl k155_C_a_wayThen)), (a_wayBy, .inl (cs 0, 2048, .inl f9))]) [0, 1, 2, 3] rfl) (hD.sub (ws' := [(a_said, .inl (cs 0, 123, .inl a_said_c)), (a, .inr (12, [.ref a_tape, .int a__taped, .int a__rules, .ref a_sign, .ref a_length, .ref a_clause, .ref a_clauses, .ref a_read, .int a__next, .int a__wrong, .int a__number, .int a__text, .int a__made, .int a__deep, .int a__lines, .ref a_open, .int a__opened, .ref a_stack, .int a__top, .ref a_word, .ref a_said, .int a__x, .ref a_worth, .ref a_mate, .ref a_wasSaid, .int a__undone, .int a__boughtNow, .ref a_wayBy, .ref a_wayThen, .int a__walkMost, .int a__walkGoing, .int a__walkSet, .ref a_kept, .long a__drawX, .ref a_images, .ref a_imageX, .ref a_isMade])), (a_wayThen, .inl (cs 0, 2048, .inl k155_C_a_wayThen)), (a_wayBy, .inl (cs 0, 2048, .inl f9))]) [0, 1, 2, 3] (by decide) rfl) hS ls (lv_sub hl [0, 1, 2, 3] rfl)
  have K24 : ∀ (n : Nat) (k24_L_3 : Int32) (k24_C_a_wayThen : Nat → Int32), (8 - k24_L_3.toInt + 1).toNat ≤ n → IV 0 8 k24_L_3 → ∀ (H : Heap) (locs : List Loc), va_P D classes [(a_said, .inl (cs 0, 123, .inl a_said_c)), (a, .inr (12, [.ref a_tape, .int a__taped, .int a__rules, .ref a_sign, .ref a_length, .ref a_clause, .ref a_clauses, .ref a_read, .int a__next, .int a__wrong, .int a__number, .int a__text, .int a__made, .int a__deep, .int a__lines, .ref a_open, .int a__opened, .ref a_stack, .int a__top, .ref a_word, .ref a_said, .int a__x, .ref a_worth, .ref a_mate, .ref a_wasSaid, .int a__undone, .int a__boughtNow, .ref a_wayBy, .ref a_wayThen, .int a__walkMost, .int a__walkGoing, .int a__walkSet, .ref a_kept, .long a__drawX, .ref a_images, .ref a_imageX, .ref a_isMade])), (a_wayThen, .inl (cs 0, 2048, .inl k24_C_a_wayThen)), (a_wayBy, .inl (cs 0, 2048, .inl a_wayBy_c))] H → va_D A [(a_said, .inl (cs 0, 123, .inl a_said_c)), (a, .inr (12, [.ref a_tape, .int a__taped, .int a__rules, .ref a_sign, .ref a_length, .ref a_clause, .ref a_clauses, .ref a_read, .int a__next, .int a__wrong, .int a__number, .int a__text, .int a__made, .int a__deep, .int a__lines, .ref a_open, .int a__opened, .ref a_stack, .int a__top, .ref a_word, .ref a_said, .int a__x, .ref a_worth, .ref a_mate, .ref a_wasSaid, .int a__undone, .int a__boughtNow, .ref a_wayBy, .ref a_wayThen, .int a__walkMost, .int a__walkGoing, .int a__walkSet, .ref a_kept, .long a__drawX, .ref a_images, .ref a_imageX, .ref a_isMade])), (a_wayThen, .inl (cs 0, 2048, .inl k24_C_a_wayThen)), (a_wayBy, .inl (cs 0, 2048, .inl a_wayBy_c))] → va_S A s.heap H locs → ∀ ls : Array Slot, lv_has ls 8 [(3, .int k24_L_3), (0, .ref a), (1, .int p0), (2, .int p1)] → W p l e (headSpec (hz_w yX12_walksOn cX12_walksOn 8 none) ({ frames := 2, cells := 0, slots := 0, locals := 45 })).room s m [.ref a, .int p0, .int p1].toArray below meth c H locs 0 0 (MQ below (va_Qv (fun (u : (Nat → Int32) × (Nat → Nat → Int32)) => True) (fun u t => va_P D classes [(a_said, .inl (cs 0, 123, .inl a_said_c)), (a, .inr (12, [.ref a_tape, .int a__taped, .int a__rules, .ref a_sign, .ref a_length, .ref a_clause, .ref a_clauses, .ref a_read, .int a__next, .int a__wrong, .int a__number, .int a__text, .int a__made, .int a__deep, .int a__lines, .ref a_open, .int a__opened, .ref a_stack, .int a__top, .ref a_word, .ref a_said, .int a__x, .ref a_worth, .ref a_mate, .ref a_wasSaid, .int a__undone, .int a__boughtNow, .ref a_wayBy, .ref a_wayThen, .int a__walkMost, .int a__walkGoing, .int a__walkSet, .ref a_kept, .long a__drawX, .ref a_images, .ref a_imageX, .ref a_isMade])), (a_wayThen, .inl (cs 0, 2048, .inl (u.2 1))), (a_wayBy, .inl (cs 0, 2048, .inl (u.2 0)))] t.heap ∧ va_D A [(a_said, .inl (cs 0, 123, .inl a_said_c)), (a, .inr (12, [.ref a_tape, .int a__taped, .int a__rules, .ref a_sign, .ref a_length, .ref a_clause, .ref a_clauses, .ref a_read, .int a__next, .int a__wrong, .int a__number, .int a__text, .int a__made, .int a__deep, .int a__lines, .ref a_open, .int a__opened, .ref a_stack, .int a__top, .ref a_word, .ref a_said, .int a__x, .ref a_worth, .ref a_mate, .ref a_wasSaid, .int a__undone, .int a__boughtNow, .ref a_wayBy, .ref a_wayThen, .int a__walkMost, .int a__walkGoing, .int a__walkSet, .ref a_kept, .long a__drawX, .ref a_images, .ref a_imageX, .ref a_isMade])), (a_wayThen, .inl (cs 0, 2048, .inl (u.2 1))), (a_wayBy, .inl (cs 0, 2048, .inl (u.2 0)))]) A) [.ref a, .int p0, .int p1].toArray s 0 0 A) (F0 m 24 ls []) := by
    intro n
    induction n with
    | zero =>
      intro k24_L_3 k24_C_a_wayThen hn q24_10 H locs hP hD hS ls hl
      exact absurd hn (by unfold IV at q24_10; omega)
    | succ n ih24 =>
      intro k24_L_3 k24_C_a_wayThen hn q24_10 H locs hP hD hS ls hl
      have i_a__lines : 0 ≤ a__lines.toInt ∧ a__lines.toInt ≤ 40 := h_a__lines
      have i_a__made : 0 ≤ a__made.toInt ∧ a__made.toInt ≤ 60 := h_a__made
      have i_a__next : 0 ≤ a__next.toInt ∧ a__next.toInt ≤ 400 := h_a__next
      have i_a__opened : 0 ≤ a__opened.toInt ∧ a__opened.toInt ≤ 400 := h_a__opened
      have i_a__rules : 0 ≤ a__rules.toInt ∧ a__rules.toInt ≤ 6 := h_a__rules
      have i_a__taped : 0 ≤ a__taped.toInt ∧ a__taped.toInt ≤ 400 := h_a__taped
      have i_a__text : 0 ≤ a__text.toInt ∧ a__text.toInt ≤ 6 := h_a__text
      have i_a__top : 0 ≤ a__top.toInt ∧ a__top.toInt ≤ 64 := h_a__top
      have i_a__undone : 0 ≤ a__undone.toInt ∧ a__undone.toInt ≤ 20 := h_a__undone
      have i_a__x : 0 ≤ a__x.toInt ∧ a__x.toInt ≤ 2147483647 := h_a__x
      have i_k24_L_3 : 0 ≤ k24_L_3.toInt ∧ k24_L_3.toInt ≤ 8 := q24_10
      have i_p0 : 0 ≤ p0.toInt ∧ p0.toInt ≤ 300 := h_p0
      have i_p1 : 0 ≤ p1.toInt ∧ p1.toInt ≤ 1 := h_p1
      have K37 : ∀ (n : Nat) (k37_L_4 : Int32) (k37_C_a_wayThen : Nat → Int32), (256 - k37_L_4.toInt + 1).toNat ≤ n → IV 0 7 k24_L_3 → IV 0 256 k37_L_4 → ∀ (H : Heap) (locs : List Loc), va_P D classes [(a_said, .inl (cs 0, 123, .inl a_said_c)), (a, .inr (12, [.ref a_tape, .int a__taped, .int a__rules, .ref a_sign, .ref a_length, .ref a_clause, .ref a_clauses, .ref a_read, .int a__next, .int a__wrong, .int a__number, .int a__text, .int a__made, .int a__deep, .int a__lines, .ref a_open, .int a__opened, .ref a_stack, .int a__top, .ref a_word, .ref a_said, .int a__x, .ref a_worth, .ref a_mate, .ref a_wasSaid, .int a__undone, .int a__boughtNow, .ref a_wayBy, .ref a_wayThen, .int a__walkMost, .int a__walkGoing, .int a__walkSet, .ref a_kept, .long a__drawX, .ref a_images, .ref a_imageX, .ref a_isMade])), (a_wayThen, .inl (cs 0, 2048, .inl k37_C_a_wayThen)), (a_wayBy, .inl (cs 0, 2048, .inl a_wayBy_c))] H → va_D A [(a_said, .inl (cs 0, 123, .inl a_said_c)), (a, .inr (12, [.ref a_tape, .int a__taped, .int a__rules, .ref a_sign, .ref a_length, .ref a_clause, .ref a_clauses, .ref a_read, .int a__next, .int a__wrong, .int a__number, .int a__text, .int a__made, .int a__deep, .int a__lines, .ref a_open, .int a__opened, .ref a_stack, .int a__top, .ref a_word, .ref a_said, .int a__x, .ref a_worth, .ref a_mate, .ref a_wasSaid, .int a__undone, .int a__boughtNow, .ref a_wayBy, .ref a_wayThen, .int a__walkMost, .int a__walkGoing, .int a__walkSet, .ref a_kept, .long a__drawX, .ref a_images, .ref a_imageX, .ref a_isMade])), (a_wayThen, .inl (cs 0, 2048, .inl k37_C_a_wayThen)), (a_wayBy, .inl (cs 0, 2048, .inl a_wayBy_c))] → va_S A s.heap H locs → ∀ ls : Array Slot, lv_has ls 8 [(4, .int k37_L_4), (3, .int k24_L_3), (0, .ref a), (1, .int p0), (2, .int p1)] → W p l e (headSpec (hz_w yX12_walksOn cX12_walksOn 8 none) ({ frames := 2, cells := 0, slots := 0, locals := 45 })).room s m [.ref a, .int p0, .int p1].toArray below meth c H locs 0 0 (MQ below (va_Qv (fun (u : (Nat → Int32) × (Nat → Nat → Int32)) => True) (fun u t => va_P D classes [(a_said, .inl (cs 0, 123, .inl a_said_c)), (a, .inr (12, [.ref a_tape, .int a__taped, .int a__rules, .ref a_sign, .ref a_length, .ref a_clause, .ref a_clauses, .ref a_read, .int a__next, .int a__wrong, .int a__number, .int a__text, .int a__made, .int a__deep, .int a__lines, .ref a_open, .int a__opened, .ref a_stack, .int a__top, .ref a_word, .ref a_said, .int a__x, .ref a_worth, .ref a_mate, .ref a_wasSaid, .int a__undone, .int a__boughtNow, .ref a_wayBy, .ref a_wayThen, .int a__walkMost, .int a__walkGoing, .int a__walkSet, .ref a_kept, .long a__drawX, .ref a_images, .ref a_imageX, .ref a_isMade])), (a_wayThen, .inl (cs 0, 2048, .inl (u.2 1))), (a_wayBy, .inl (cs 0, 2048, .inl (u.2 0)))] t.heap ∧ va_D A [(a_said, .inl (cs 0, 123, .inl a_said_c)), (a, .inr (12, [.ref a_tape, .int a__taped, .int a__rules, .ref a_sign, .ref a_length, .ref a_clause, .ref a_clauses, .ref a_read, .int a__next, .int a__wrong, .int a__number, .int a__text, .int a__made, .int a__deep, .int a__lines, .ref a_open, .int a__opened, .ref a_stack, .int a__top, .ref a_word, .ref a_said, .int a__x, .ref a_worth, .ref a_mate, .ref a_wasSaid, .int a__undone, .int a__boughtNow, .ref a_wayBy, .ref a_wayThen, .int a__walkMost, .int a__walkGoing, .int a__walkSet, .ref a_kept, .long a__drawX, .ref a_images, .ref a_imageX, .ref a_isMade])), (a_wayThen, .inl (cs 0, 2048, .inl (u.2 1))), (a_wayBy, .inl (cs 0, 2048, .inl (u.2 0)))]) A) [.ref a, .int p0, .int p1].toArray s 0 0 A) (F0 m 37 ls []) := by
        intro n
        induction n with
        | zero =>
          intro k37_L_4 k37_C_a_wayThen hn q37_10 q37_11 H locs hP hD hS ls hl
          exact absurd hn (by unfold IV at q37_11; omega)
        | succ n ih37 =>
          intro k37_L_4 k37_C_a_wayThen hn q37_10 q37_11 H locs hP hD hS ls hl
          have i_a__lines : 0 ≤ a__lines.toInt ∧ a__lines.toInt ≤ 40 := h_a__lines
          have i_a__made : 0 ≤ a__made.toInt ∧ a__made.toInt ≤ 60 := h_a__made
          have i_a__next : 0 ≤ a__next.toInt ∧ a__next.toInt ≤ 400 := h_a__next
          have i_a__opened : 0 ≤ a__opened.toInt ∧ a__opened.toInt ≤ 400 := h_a__opened
          have i_a__rules : 0 ≤ a__rules.toInt ∧ a__rules.toInt ≤ 6 := h_a__rules
          have i_a__taped : 0 ≤ a__taped.toInt ∧ a__taped.toInt ≤ 400 := h_a__taped
          have i_a__text : 0 ≤ a__text.toInt ∧ a__text.toInt ≤ 6 := h_a__text
          have i_a__top : 0 ≤ a__top.toInt ∧ a__top.toInt ≤ 64 := h_a__top
          have i_a__undone : 0 ≤ a__undone.toInt ∧ a__undone.toInt ≤ 20 := h_a__undone
          have i_a__x : 0 ≤ a__x.toInt ∧ a__x.toInt ≤ 2147483647 := h_a__x
          have i_k24_L_3 : 0 ≤ k24_L_3.toInt ∧ k24_L_3.toInt ≤ 7 := q37_10
          have i_k37_L_4 : 0 ≤ k37_L_4.toInt ∧ k37_L_4.toInt ≤ 256 := q37_11
          have i_p0 : 0 ≤ p0.toInt ∧ p0.toInt ≤ 300 := h_p0
          have i_p1 : 0 ≤ p1.toInt ∧ p1.toInt ≤ 1 := h_p1
          have K69 : ∀ (n : Nat) (k69_L_6 : Int32) (k69_L_5 : Int32) (k69_C_a_wayThen : Nat → Int32), (2 - k69_L_6.toInt + 1).toNat ≤ n → IV 0 7 k24_L_3 → IV 0 255 k37_L_4 → IV (-1) 2 k69_L_6 → ∀ (H : Heap) (locs : List Loc), va_P D classes [(a_said, .inl (cs 0, 123, .inl a_said_c)), (a, .inr (12, [.ref a_tape, .int a__taped, .int a__rules, .ref a_sign, .ref a_length, .ref a_clause, .ref a_clauses, .ref a_read, .int a__next, .int a__wrong, .int a__number, .int a__text, .int a__made, .int a__deep, .int a__lines, .ref a_open, .int a__opened, .ref a_stack, .int a__top, .ref a_word, .ref a_said, .int a__x, .ref a_worth, .ref a_mate, .ref a_wasSaid, .int a__undone, .int a__boughtNow, .ref a_wayBy, .ref a_wayThen, .int a__walkMost, .int a__walkGoing, .int a__walkSet, .ref a_kept, .long a__drawX, .ref a_images, .ref a_imageX, .ref a_isMade])), (a_wayThen, .inl (cs 0, 2048, .inl k69_C_a_wayThen)), (a_wayBy, .inl (cs 0, 2048, .inl a_wayBy_c))] H → va_D A [(a_said, .inl (cs 0, 123, .inl a_said_c)), (a, .inr (12, [.ref a_tape, .int a__taped, .int a__rules, .ref a_sign, .ref a_length, .ref a_clause, .ref a_clauses, .ref a_read, .int a__next, .int a__wrong, .int a__number, .int a__text, .int a__made, .int a__deep, .int a__lines, .ref a_open, .int a__opened, .ref a_stack, .int a__top, .ref a_word, .ref a_said, .int a__x, .ref a_worth, .ref a_mate, .ref a_wasSaid, .int a__undone, .int a__boughtNow, .ref a_wayBy, .ref a_wayThen, .int a__walkMost, .int a__walkGoing, .int a__walkSet, .ref a_kept, .long a__drawX, .ref a_images, .ref a_imageX, .ref a_isMade])), (a_wayThen, .inl (cs 0, 2048, .inl k69_C_a_wayThen)), (a_wayBy, .inl (cs 0, 2048, .inl a_wayBy_c))] → va_S A s.heap H locs → ∀ ls : Array Slot, lv_has ls 8 [(6, .int k69_L_6), (5, .int k69_L_5), (4, .int k37_L_4), (3, .int k24_L_3), (0, .ref a), (1, .int p0), (2, .int p1)] → W p l e (headSpec (hz_w yX12_walksOn cX12_walksOn 8 none) ({ frames := 2, cells := 0, slots := 0, locals := 45 })).room s m [.ref a, .int p0, .int p1].toArray below meth c H locs 0 0 (MQ below (va_Qv (fun (u : (Nat → Int32) × (Nat → Nat → Int32)) => True) (fun u t => va_P D classes [(a_said, .inl (cs 0, 123, .inl a_said_c)), (a, .inr (12, [.ref a_tape, .int a__taped, .int a__rules, .ref a_sign, .ref a_length, .ref a_clause, .ref a_clauses, .ref a_read, .int a__next, .int a__wrong, .int a__number, .int a__text, .int a__made, .int a__deep, .int a__lines, .ref a_open, .int a__opened, .ref a_stack, .int a__top, .ref a_word, .ref a_said, .int a__x, .ref a_worth, .ref a_mate, .ref a_wasSaid, .int a__undone, .int a__boughtNow, .ref a_wayBy, .ref a_wayThen, .int a__walkMost, .int a__walkGoing, .int a__walkSet, .ref a_kept, .long a__drawX, .ref a_images, .ref a_imageX, .ref a_isMade])), (a_wayThen, .inl (cs 0, 2048, .inl (u.2 1))), (a_wayBy, .inl (cs 0, 2048, .inl (u.2 0)))] t.heap ∧ va_D A [(a_said, .inl (cs 0, 123, .inl a_said_c)), (a, .inr (12, [.ref a_tape, .int a__taped, .int a__rules, .ref a_sign, .ref a_length, .ref a_clause, .ref a_clauses, .ref a_read, .int a__next, .int a__wrong, .int a__number, .int a__text, .int a__made, .int a__deep, .int a__lines, .ref a_open, .int a__opened, .ref a_stack, .int a__top, .ref a_word, .ref a_said, .int a__x, .ref a_worth, .ref a_mate, .ref a_wasSaid, .int a__undone, .int a__boughtNow, .ref a_wayBy, .ref a_wayThen, .int a__walkMost, .int a__walkGoing, .int a__walkSet, .ref a_kept, .long a__drawX, .ref a_images, .ref a_imageX, .ref a_isMade])), (a_wayThen, .inl (cs 0, 2048, .inl (u.2 1))), (a_wayBy, .inl (cs 0, 2048, .inl (u.2 0)))]) A) [.ref a, .int p0, .int p1].toArray s 0 0 A) (F0 m 69 ls []) := by
            intro n
            induction n with
            | zero =>
              intro k69_L_6 k69_L_5 k69_C_a_wayThen hn q69_10 q69_11 q69_12 H locs hP hD hS ls hl
              exact absurd hn (by unfold IV at q69_12; omega)
            | succ n ih69 =>
              intro k69_L_6 k69_L_5 k69_C_a_wayThen hn q69_10 q69_11 q69_12 H locs hP hD hS ls hl
              have i_a__lines : 0 ≤ a__lines.toInt ∧ a__lines.toInt ≤ 40 := h_a__lines
              have i_a__made : 0 ≤ a__made.toInt ∧ a__made.toInt ≤ 60 := h_a__made
              have i_a__next : 0 ≤ a__next.toInt ∧ a__next.toInt ≤ 400 := h_a__next
              have i_a__opened : 0 ≤ a__opened.toInt ∧ a__opened.toInt ≤ 400 := h_a__opened
              have i_a__rules : 0 ≤ a__rules.toInt ∧ a__rules.toInt ≤ 6 := h_a__rules
              have i_a__taped : 0 ≤ a__taped.toInt ∧ a__taped.toInt ≤ 400 := h_a__taped
              have i_a__text : 0 ≤ a__text.toInt ∧ a__text.toInt ≤ 6 := h_a__text
              have i_a__top : 0 ≤ a__top.toInt ∧ a__top.toInt ≤ 64 := h_a__top
              have i_a__undone : 0 ≤ a__undone.toInt ∧ a__undone.toInt ≤ 20 := h_a__undone
              have i_a__x : 0 ≤ a__x.toInt ∧ a__x.toInt ≤ 2147483647 := h_a__x
              have i_k24_L_3 : 0 ≤ k24_L_3.toInt ∧ k24_L_3.toInt ≤ 7 := q69_10
              have i_k37_L_4 : 0 ≤ k37_L_4.toInt ∧ k37_L_4.toInt ≤ 255 := q69_11
              have i_k69_L_6 : (-1) ≤ k69_L_6.toInt ∧ k69_L_6.toInt ≤ 2 := q69_12
              have i_p0 : 0 ≤ p0.toInt ∧ p0.toInt ≤ 300 := h_p0
              have i_p1 : 0 ≤ p1.toInt ∧ p1.toInt ≤ 1 := h_p1
              refine lv_iload hx hb dX12_walksOn_69 (lv_at hl 0 rfl) ?_
              refine lv_iconst (v := 2) hx hb dX12_walksOn_71 (by decide) ?_
              refine lv_icmp_ge (tgt := 141) hx hb dX12_walksOn_72 (by decide) (fun c11 => ?_) (fun c11 => ?_)
              · have t12 : k69_L_6.toInt ≥ 2 := lin_ge c11 rfl (by decide)
                have h13 : IV 2 2 k69_L_6 := iv_le2 c11 (iv_c (a := 2) (b := 2) (by decide)) q69_12 (by decide)
                have ii14 : 2 ≤ k69_L_6.toInt ∧ k69_L_6.toInt ≤ 2 := h13
                obtain ⟨v15, ev15⟩ : ∃ z : Int32, z = k37_L_4 + 1 := ⟨_, rfl⟩
                have hv15 : IV 1 256 v15 := iv_add ev15 q69_11 (iv_c (a := 1) (b := 1) (by decide)) (by decide) (by decide)
                have dv15 : v15.toInt = k37_L_4.toInt + 1 := iv_addE ev15 q69_11 (iv_c (a := 1) (b := 1) (by decide)) (by decide) (by decide) (by decide)
                refine lv_iinc (v := v15) (lv' := [(4, .int v15), (6, .int k69_L_6), (5, .int k69_L_5), (3, .int k24_L_3), (0, .ref a), (1, .int p0), (2, .int p1)]) hx hb dX12_walksOn_141 hl (k := 2) rfl (by rw [ev15]; rfl) (by decide) rfl (fun ls hl => ?_)
                refine lv_goto (tgt := 37) hx hb dX12_walksOn_144 (by decide) ?_
                exact ih37 v15 k69_C_a_wayThen (by have h9 := q69_11; unfold IV at h9; have := dv15; omega) q69_10 (iv_w hv15 (by decide) (by decide)) H locs (hP.sub (ws' := [(a_said, .inl (cs 0, 123, .inl a_said_c)), (a, .inr (12, [.ref a_tape, .int a__taped, .int a__rules, .ref a_sign, .ref a_length, .ref a_clause, .ref a_clauses, .ref a_read, .int a__next, .int a__wrong, .int a__number, .int a__text, .int a__made, .int a__deep, .int a__lines, .ref a_open, .int a__opened, .ref a_stack, .int a__top, .ref a_word, .ref a_said, .int a__x, .ref a_worth, .ref a_mate, .ref a_wasSaid, .int a__undone, .int a__boughtNow, .ref a_wayBy, .ref a_wayThen, .int a__walkMost, .int a__walkGoing, .int a__walkSet, .ref a_kept, .long a__drawX, .ref a_images, .ref a_imageX, .ref a_isMade])), (a_wayThen, .inl (cs 0, 2048, .inl k69_C_a_wayThen)), (a_wayBy, .inl (cs 0, 2048, .inl a_wayBy_c))]) [0, 1, 2, 3] rfl) (hD.sub (ws' := [(a_said, .inl (cs 0, 123, .inl a_said_c)), (a, .inr (12, [.ref a_tape, .int a__taped, .int a__rules, .ref a_sign, .ref a_length, .ref a_clause, .ref a_clauses, .ref a_read, .int a__next, .int a__wrong, .int a__number, .int a__text, .int a__made, .int a__deep, .int a__lines, .ref a_open, .int a__opened, .ref a_stack, .int a__top, .ref a_word, .ref a_said, .int a__x, .ref a_worth, .ref a_mate, .ref a_wasSaid, .int a__undone, .int a__boughtNow, .ref a_wayBy, .ref a_wayThen, .int a__walkMost, .int a__walkGoing, .int a__walkSet, .ref a_kept, .long a__drawX, .ref a_images, .ref a_imageX, .ref a_isMade])), (a_wayThen, .inl (cs 0, 2048, .inl k69_C_a_wayThen)), (a_wayBy, .inl (cs 0, 2048, .inl a_wayBy_c))]) [0, 1, 2, 3] (by decide) rfl) hS ls (lv_sub hl [0, 3, 4, 5, 6] rfl)
              · have t16 : k69_L_6.toInt < 2 := lin_geN c11 rfl (by decide)
                have h17 : IV (-1) 1 k69_L_6 := iv_lt1 (Int32.not_le.mp c11) q69_12 (iv_c (a := 2) (b := 2) (by decide)) (by decide)
                have ii18 : (-1) ≤ k69_L_6.toInt ∧ k69_L_6.toInt ≤ 1 := h17
                refine lv_iload_n hx hb dX12_walksOn_75 rfl (lv_at hl 3 rfl) ?_
                refine lv_iload hx hb dX12_walksOn_76 (lv_at hl 0 rfl) ?_
                refine lv_iadd hx hb dX12_walksOn_78 ?_
                refine lv_topi (fun v19 ev19 => ?_)
                have hv19 : IV (-1) 8 v19 := iv_add ev19 q69_10 h17 (by decide) (by decide)
                have ii20 : (-1) ≤ v19.toInt ∧ v19.toInt ≤ 8 := hv19
                have lv19 : v19.toInt = k24_L_3.toInt + k69_L_6.toInt := lin_add ev19 q69_10 h17 rfl rfl (by decide) (by decide)
                refine lv_aload_n hx hb dX12_walksOn_79 rfl (lv_at hl 4 rfl) ?_
                refine va_get (D := D) (ci := 12) (v := .ref a_said) (C := RX12) (T := TX12) (N := 37) hx hb hT i_X12 hown hK hP 1 rfl rfl 20 (by decide) (hT _ q_185) (fun _ h9 => h9) rfl dX12_walksOn_80 ?_
                refine lv_iconst (v := 0) hx hb dX12_walksOn_83 (by decide) ?_
                refine va_iald hx hb hK hP 0 0 rfl rfl (iv_vc (by decide)) dX12_walksOn_84 ?_
                refine lv_topi (fun v21 ev21 => ?_)
                have h22 : IV 0 8 v21 := (by rw [ev21]; exact bs_i0 hf0)
                have ii23 : 0 ≤ v21.toInt ∧ v21.toInt ≤ 8 := h22
                have lv21 : v21.toInt = (a_said_c 0).toInt := by rw [ev21]; rfl
                refine lv_iadd hx hb dX12_walksOn_85 ?_
                refine lv_topi (fun v24 ev24 => ?_)
                have hv24 : IV (-1) 16 v24 := iv_add ev24 hv19 h22 (by decide) (by decide)
                have ii25 : (-1) ≤ v24.toInt ∧ v24.toInt ≤ 16 := hv24
                have lv24 : v24.toInt = v19.toInt + v21.toInt := lin_add ev24 hv19 h22 rfl rfl (by decide) (by decide)
                refine lv_aload_n hx hb dX12_walksOn_86 rfl (lv_at hl 4 rfl) ?_
                refine va_get (D := D) (ci := 12) (v := .ref a_said) (C := RX12) (T := TX12) (N := 37) hx hb hT i_X12 hown hK hP 1 rfl rfl 20 (by decide) (hT _ q_185) (fun _ h9 => h9) rfl dX12_walksOn_87 ?_
                refine lv_iconst (v := 0) hx hb dX12_walksOn_90 (by decide) ?_
                refine va_iald hx hb hK hP 0 0 rfl rfl (iv_vc (by decide)) dX12_walksOn_91 ?_
                refine hz_ev v21 ev21.symm ?_
                have h26 : IV 0 16 v24 := ⟨by omega, by omega⟩
                have ii27 : 0 ≤ v24.toInt ∧ v24.toInt ≤ 16 := h26
                have h28 : IV 2 8 v21 := ⟨by omega, by omega⟩
                have ii29 : 2 ≤ v21.toInt ∧ v21.toInt ≤ 8 := h28
                refine lv_irem hx hb dX12_walksOn_92 (iv_ne0 h28 (by decide)) ?_
                refine lv_topi (fun v30 ev30 => ?_)
                have hv30 : IV 0 7 v30 := iv_remP ev30 h26 h28 (by decide) (by decide)
                have ii31 : 0 ≤ v30.toInt ∧ v30.toInt ≤ 7 := hv30
                have lv30 : v30.toInt < v21.toInt := lin_rem ev30 h26 h28 rfl rfl (by decide) (by decide)
                refine lv_istore (lv' := [(7, .int v30), (6, .int k69_L_6), (5, .int k69_L_5), (4, .int k37_L_4), (3, .int k24_L_3), (0, .ref a), (1, .int p0), (2, .int p1)]) hx hb dX12_walksOn_93 hl (by decide) rfl (fun ls hl => ?_)
                refine lv_aload_n hx hb dX12_walksOn_95 rfl (lv_at hl 5 rfl) ?_
                refine va_get (D := D) (ci := 12) (v := .ref a_wayThen) (C := RX12) (T := TX12) (N := 37) hx hb hT i_X12 hown hK hP 1 rfl rfl 28 (by decide) (hT _ q_190) (fun _ h9 => h9) rfl dX12_walksOn_96 ?_
                refine lv_iload hx hb dX12_walksOn_99 (lv_at hl 0 rfl) ?_
                refine lv_iload hx hb dX12_walksOn_101 (lv_at hl 3 rfl) ?_
                refine lv_iconst (v := 1) hx hb dX12_walksOn_103 (by decide) ?_
                refine lv_aload_n hx hb dX12_walksOn_104 rfl (lv_at hl 5 rfl) ?_
                refine lv_iload hx hb dX12_walksOn_105 (lv_at hl 0 rfl) ?_
                refine lv_iload_n hx hb dX12_walksOn_107 rfl (lv_at hl 6 rfl) ?_
                refine va_calli (va_runV (As := [.int v30, .int p0]) (rest := [.int 1, .int k37_L_4, .int v30, .ref a_wayThen]) ⟨hx, hb, hml, hown, hT⟩ (c_X12_stallAt l D cs kK kV a v30 p0 a_said a_said_c a_tape a__taped a__rules a_sign a_length a_clause a_clauses a_read a__next a__wrong a__number a__text a__made a__deep a__lines a_open a__opened a_stack a__top a_word a__x a_worth a_mate a_wasSaid a__undone a__boughtNow a_wayBy a_wayThen a__walkMost a__walkGoing a__walkSet a_kept a__drawX a_images a_imageX a_isMade h_p0 h_a__taped h_a__rules h_a__next h_a__text h_a__made h_a__lines h_a__opened h_a__top h_a__x h_a__undone hf0 ((by omega)) ((by omega))) (cwV 2 hT (hz_gV q_1124 q_1125 q_1126 q_701 q_1127) rfl rfl rfl (by decide +kernel) ⟨(Nat.le_of_ble_eq_true rfl), (Nat.le_of_ble_eq_true rfl)⟩) ⟨hz_P.blind, va_recv hK hP (ci := 12) (q0 := 1) rfl rfl, hz_P.mk (hP.sub (ws' := [(a_said, .inl (cs 0, 123, .inl a_said_c)), (a, .inr (12, [.ref a_tape, .int a__taped, .int a__rules, .ref a_sign, .ref a_length, .ref a_clause, .ref a_clauses, .ref a_read, .int a__next, .int a__wrong, .int a__number, .int a__text, .int a__made, .int a__deep, .int a__lines, .ref a_open, .int a__opened, .ref a_stack, .int a__top, .ref a_word, .ref a_said, .int a__x, .ref a_worth, .ref a_mate, .ref a_wasSaid, .int a__undone, .int a__boughtNow, .ref a_wayBy, .ref a_wayThen, .int a__walkMost, .int a__walkGoing, .int a__walkSet, .ref a_kept, .long a__drawX, .ref a_images, .ref a_imageX, .ref a_isMade]))]) [0,1] rfl) hE hS⟩ rfl rfl hl.1 rfl (lv_room (Nat.le_of_ble_eq_true rfl)) dX12_walksOn_108 ⟨(Nat.le_of_ble_eq_true rfl), (Nat.le_of_ble_eq_true rfl)⟩) hS (fun _ _ h => h.elim) (fun _ h => h.elim) (fun r32 u t H1 locs ht hvm hw hB hz1 hk1 hS => ?_)
                have hP := hz_keep hP hk1
                clear hk1 hB hz1
                generalize H1 = H at hP hS ⊢
                rcases hw with ⟨h33, h34, x35⟩
                have ii36 : 0 ≤ r32.toInt ∧ r32.toInt ≤ 7 := h33
                have ii37 : (-7) ≤ v30.toInt ∧ v30.toInt ≤ 7 := h34
                refine lv_ishl hx hb dX12_walksOn_111 ?_
                refine lv_topi (fun v38 ev38 => ?_)
                have hv38 : IV 1 128 v38 := iv_shl1 ev38 h33 (by decide) (by decide) (by decide)
                have ii39 : 1 ≤ v38.toInt ∧ v38.toInt ≤ 128 := hv38
                refine lv_ior hx hb dX12_walksOn_112 ?_
                refine lv_topi (fun v40 ev40 => ?_)
                have hv40 : IV 0 255 v40 := iv_or (k := 8) ev40 q69_11 hv38 (by decide) (by decide) (by decide) (by decide) (by decide) (by decide)
                have ii41 : 0 ≤ v40.toInt ∧ v40.toInt ≤ 255 := hv40
                refine va_calli (va_runS (As := [.int v30, .int v40]) (rest := [.ref a_wayThen]) ⟨hx, hb, hml, hown, hT⟩ (c_X12_placeOf_W l D cs kK kV v30 v40 hv30 hv40) (va_cwS 2 hT (hz_gS q_1243 q_1244 q_701 q_1245) rfl rfl rfl (by decide +kernel) ⟨(Nat.le_of_ble_eq_true rfl), (Nat.le_of_ble_eq_true rfl)⟩) ⟨hz_P.blind, hz_P.mk (hP.sub (ws' := []) [] rfl) hE hS⟩ rfl rfl hl.1 rfl (lv_room (Nat.le_of_ble_eq_true rfl)) dX12_walksOn_113 ⟨(Nat.le_of_ble_eq_true rfl), (Nat.le_of_ble_eq_true rfl)⟩) hS (fun _ _ h => h.elim) (fun _ h => h.elim) (fun r42 u t H1 locs ht hvm hw hB hz1 hk1 hS => ?_)
                have hP := hz_keep hP hk1
                clear hk1 hB hz1
                generalize H1 = H at hP hS ⊢
                have hw_r42 := hw
                refine lv_dup2_11 hx hb dX12_walksOn_116 rfl rfl ?_
                refine va_iald hx hb hK hP 2 0 rfl rfl (iv_v hw_r42 (by decide) (by decide)) dX12_walksOn_117 ?_
                refine lv_topi (fun v43 ev43 => ?_)
                have lv43 : v43.toInt = (k69_C_a_wayThen (Int32.toNatClampNeg r42)).toInt := by rw [ev43]
                refine lv_iload_n hx hb dX12_walksOn_118 rfl (lv_at hl 7 rfl) ?_
                refine lv_if_eq (tgt := 131) hx hb dX12_walksOn_119 (by decide) (fun c44 => ?_) (fun c44 => ?_)
                · have t45 : p1.toInt = 0 := lin_eq c44 rfl (by decide)
                  have h46 : IV 0 0 p1 := iv_eq1 c44 h_p1 (iv_c (a := 0) (b := 0) (by decide)) (by decide) (by decide)
                  have ii47 : 0 ≤ p1.toInt ∧ p1.toInt ≤ 0 := h46
                  refine lv_iload hx hb dX12_walksOn_131 (lv_at hl 2 rfl) ?_
                  refine lv_ior hx hb dX12_walksOn_133 ?_
                  refine lv_topi (fun v48 ev48 => ?_)
                  refine va_iast hx hb hK hP hD hS 2 0 rfl rfl (iv_v hw_r42 (by decide) (by decide)) dX12_walksOn_134 (fun H locs hP hD hS => ?_)
                  have hP : va_P D classes [(a_said, .inl (cs 0, 123, .inl a_said_c)), (a, .inr (12, [.ref a_tape, .int a__taped, .int a__rules, .ref a_sign, .ref a_length, .ref a_clause, .ref a_clauses, .ref a_read, .int a__next, .int a__wrong, .int a__number, .int a__text, .int a__made, .int a__deep, .int a__lines, .ref a_open, .int a__opened, .ref a_stack, .int a__top, .ref a_word, .ref a_said, .int a__x, .ref a_worth, .ref a_mate, .ref a_wasSaid, .int a__undone, .int a__boughtNow, .ref a_wayBy, .ref a_wayThen, .int a__walkMost, .int a__walkGoing, .int a__walkSet, .ref a_kept, .long a__drawX, .ref a_images, .ref a_imageX, .ref a_isMade])), (a_wayThen, .inl (cs 0, 2048, .inl (upd k69_C_a_wayThen (Int32.toNatClampNeg r42) v48))), (a_wayBy, .inl (cs 0, 2048, .inl a_wayBy_c))] H := hP
                  have hD : va_D A [(a_said, .inl (cs 0, 123, .inl a_said_c)), (a, .inr (12, [.ref a_tape, .int a__taped, .int a__rules, .ref a_sign, .ref a_length, .ref a_clause, .ref a_clauses, .ref a_read, .int a__next, .int a__wrong, .int a__number, .int a__text, .int a__made, .int a__deep, .int a__lines, .ref a_open, .int a__opened, .ref a_stack, .int a__top, .ref a_word, .ref a_said, .int a__x, .ref a_worth, .ref a_mate, .ref a_wasSaid, .int a__undone, .int a__boughtNow, .ref a_wayBy, .ref a_wayThen, .int a__walkMost, .int a__walkGoing, .int a__walkSet, .ref a_kept, .long a__drawX, .ref a_images, .ref a_imageX, .ref a_isMade])), (a_wayThen, .inl (cs 0, 2048, .inl (upd k69_C_a_wayThen (Int32.toNatClampNeg r42) v48))), (a_wayBy, .inl (cs 0, 2048, .inl a_wayBy_c))] := hD
                  obtain ⟨f49, uf49⟩ : ∃ z, z = upd k69_C_a_wayThen (Int32.toNatClampNeg r42) v48 := ⟨_, rfl⟩
                  rw [← uf49] at hP hD
                  have wf49 : (f49 (Int32.toNatClampNeg r42)).toInt = v48.toInt := lin_us uf49 rfl
                  obtain ⟨v50, ev50⟩ : ∃ z : Int32, z = k69_L_6 + 1 := ⟨_, rfl⟩
                  have hv50 : IV 0 2 v50 := iv_add ev50 h17 (iv_c (a := 1) (b := 1) (by decide)) (by decide) (by decide)
                  have dv50 : v50.toInt = k69_L_6.toInt + 1 := iv_addE ev50 h17 (iv_c (a := 1) (b := 1) (by decide)) (by decide) (by decide) (by decide)
                  refine lv_iinc (v := v50) (lv' := [(6, .int v50), (7, .int v30), (5, .int k69_L_5), (4, .int k37_L_4), (3, .int k24_L_3), (0, .ref a), (1, .int p0), (2, .int p1)]) hx hb dX12_walksOn_135 hl (k := 1) rfl (by rw [ev50]; rfl) (by decide) rfl (fun ls hl => ?_)
                  refine lv_goto (tgt := 69) hx hb dX12_walksOn_138 (by decide) ?_
                  exact ih69 v50 k69_L_5 f49 (by have h9 := h17; unfold IV at h9; have := dv50; omega) q69_10 q69_11 (iv_w hv50 (by decide) (by decide)) H locs (hP.sub (ws' := [(a_said, .inl (cs 0, 123, .inl a_said_c)), (a, .inr (12, [.ref a_tape, .int a__taped, .int a__rules, .ref a_sign, .ref a_length, .ref a_clause, .ref a_clauses, .ref a_read, .int a__next, .int a__wrong, .int a__number, .int a__text, .int a__made, .int a__deep, .int a__lines, .ref a_open, .int a__opened, .ref a_stack, .int a__top, .ref a_word, .ref a_said, .int a__x, .ref a_worth, .ref a_mate, .ref a_wasSaid, .int a__undone, .int a__boughtNow, .ref a_wayBy, .ref a_wayThen, .int a__walkMost, .int a__walkGoing, .int a__walkSet, .ref a_kept, .long a__drawX, .ref a_images, .ref a_imageX, .ref a_isMade])), (a_wayThen, .inl (cs 0, 2048, .inl f49)), (a_wayBy, .inl (cs 0, 2048, .inl a_wayBy_c))]) [0, 1, 2, 3] rfl) (hD.sub (ws' := [(a_said, .inl (cs 0, 123, .inl a_said_c)), (a, .inr (12, [.ref a_tape, .int a__taped, .int a__rules, .ref a_sign, .ref a_length, .ref a_clause, .ref a_clauses, .ref a_read, .int a__next, .int a__wrong, .int a__number, .int a__text, .int a__made, .int a__deep, .int a__lines, .ref a_open, .int a__opened, .ref a_stack, .int a__top, .ref a_word, .ref a_said, .int a__x, .ref a_worth, .ref a_mate, .ref a_wasSaid, .int a__undone, .int a__boughtNow, .ref a_wayBy, .ref a_wayThen, .int a__walkMost, .int a__walkGoing, .int a__walkSet, .ref a_kept, .long a__drawX, .ref a_images, .ref a_imageX, .ref a_isMade])), (a_wayThen, .inl (cs 0, 2048, .inl f49)), (a_wayBy, .inl (cs 0, 2048, .inl a_wayBy_c))]) [0, 1, 2, 3] (by decide) rfl) hS ls (lv_sub hl [0, 2, 3, 4, 5, 6, 7] rfl)
                · have t51 : p1.toInt ≠ 0 := lin_ne c44 rfl (by decide)
                  have h52 : IV 1 1 p1 := iv_neL c44 h_p1 (by decide)
                  have ii53 : 1 ≤ p1.toInt ∧ p1.toInt ≤ 1 := h52
                  refine lv_iconst (v := 1) hx hb dX12_walksOn_122 (by decide) ?_
                  refine lv_iload hx hb dX12_walksOn_123 (lv_at hl 1 rfl) ?_
                  refine lv_iconst (v := 1) hx hb dX12_walksOn_125 (by decide) ?_
                  refine lv_iadd hx hb dX12_walksOn_126 ?_
                  refine lv_topi (fun v54 ev54 => ?_)
                  have hv54 : IV 0 2 v54 := iv_add ev54 h17 (iv_c (a := 1) (b := 1) (by decide)) (by decide) (by decide)
                  have ii55 : 0 ≤ v54.toInt ∧ v54.toInt ≤ 2 := hv54
                  have dv54 : v54.toInt = k69_L_6.toInt + 1 := iv_addE ev54 h17 (iv_c (a := 1) (b := 1) (by decide)) (by decide) (by decide) (by decide)
                  have lv54 : v54.toInt = k69_L_6.toInt + 1 := lin_add ev54 h17 (iv_c (a := 1) (b := 1) (by decide)) rfl (by decide) (by decide) (by decide)
                  refine lv_ishl hx hb dX12_walksOn_127 ?_
                  refine lv_topi (fun v56 ev56 => ?_)
                  have hv56 : IV 1 4 v56 := iv_shl1 ev56 hv54 (by decide) (by decide) (by decide)
                  have ii57 : 1 ≤ v56.toInt ∧ v56.toInt ≤ 4 := hv56
                  refine lv_goto (tgt := 133) hx hb dX12_walksOn_128 (by decide) ?_
                  refine lv_ior hx hb dX12_walksOn_133 ?_
                  refine lv_topi (fun v58 ev58 => ?_)
                  refine va_iast hx hb hK hP hD hS 2 0 rfl rfl (iv_v hw_r42 (by decide) (by decide)) dX12_walksOn_134 (fun H locs hP hD hS => ?_)
                  have hP : va_P D classes [(a_said, .inl (cs 0, 123, .inl a_said_c)), (a, .inr (12, [.ref a_tape, .int a__taped, .int a__rules, .ref a_sign, .ref a_length, .ref a_clause, .ref a_clauses, .ref a_read, .int a__next, .int a__wrong, .int a__number, .int a__text, .int a__made, .int a__deep, .int a__lines, .ref a_open, .int a__opened, .ref a_stack, .int a__top, .ref a_word, .ref a_said, .int a__x, .ref a_worth, .ref a_mate, .ref a_wasSaid, .int a__undone, .int a__boughtNow, .ref a_wayBy, .ref a_wayThen, .int a__walkMost, .int a__walkGoing, .int a__walkSet, .ref a_kept, .long a__drawX, .ref a_images, .ref a_imageX, .ref a_isMade])), (a_wayThen, .inl (cs 0, 2048, .inl (upd k69_C_a_wayThen (Int32.toNatClampNeg r42) v58))), (a_wayBy, .inl (cs 0, 2048, .inl a_wayBy_c))] H := hP
                  have hD : va_D A [(a_said, .inl (cs 0, 123, .inl a_said_c)), (a, .inr (12, [.ref a_tape, .int a__taped, .int a__rules, .ref a_sign, .ref a_length, .ref a_clause, .ref a_clauses, .ref a_read, .int a__next, .int a__wrong, .int a__number, .int a__text, .int a__made, .int a__deep, .int a__lines, .ref a_open, .int a__opened, .ref a_stack, .int a__top, .ref a_word, .ref a_said, .int a__x, .ref a_worth, .ref a_mate, .ref a_wasSaid, .int a__undone, .int a__boughtNow, .ref a_wayBy, .ref a_wayThen, .int a__walkMost, .int a__walkGoing, .int a__walkSet, .ref a_kept, .long a__drawX, .ref a_images, .ref a_imageX, .ref a_isMade])), (a_wayThen, .inl (cs 0, 2048, .inl (upd k69_C_a_wayThen (Int32.toNatClampNeg r42) v58))), (a_wayBy, .inl (cs 0, 2048, .inl a_wayBy_c))] := hD
                  obtain ⟨f59, uf59⟩ : ∃ z, z = upd k69_C_a_wayThen (Int32.toNatClampNeg r42) v58 := ⟨_, rfl⟩
                  rw [← uf59] at hP hD
                  have wf59 : (f59 (Int32.toNatClampNeg r42)).toInt = v58.toInt := lin_us uf59 rfl
                  obtain ⟨v60, ev60⟩ : ∃ z : Int32, z = k69_L_6 + 1 := ⟨_, rfl⟩
                  have hv60 : IV 0 2 v60 := iv_add ev60 h17 (iv_c (a := 1) (b := 1) (by decide)) (by decide) (by decide)
                  have dv60 : v60.toInt = k69_L_6.toInt + 1 := iv_addE ev60 h17 (iv_c (a := 1) (b := 1) (by decide)) (by decide) (by decide) (by decide)
                  refine lv_iinc (v := v60) (lv' := [(6, .int v60), (7, .int v30), (5, .int k69_L_5), (4, .int k37_L_4), (3, .int k24_L_3), (0, .ref a), (1, .int p0), (2, .int p1)]) hx hb dX12_walksOn_135 hl (k := 1) rfl (by rw [ev60]; rfl) (by decide) rfl (fun ls hl => ?_)
                  refine lv_goto (tgt := 69) hx hb dX12_walksOn_138 (by decide) ?_
                  exact ih69 v60 k69_L_5 f59 (by have h9 := h17; unfold IV at h9; have := dv60; omega) q69_10 q69_11 (iv_w hv60 (by decide) (by decide)) H locs (hP.sub (ws' := [(a_said, .inl (cs 0, 123, .inl a_said_c)), (a, .inr (12, [.ref a_tape, .int a__taped, .int a__rules, .ref a_sign, .ref a_length, .ref a_clause, .ref a_clauses, .ref a_read, .int a__next, .int a__wrong, .int a__number, .int a__text, .int a__made, .int a__deep, .int a__lines, .ref a_open, .int a__opened, .ref a_stack, .int a__top, .ref a_word, .ref a_said, .int a__x, .ref a_worth, .ref a_mate, .ref a_wasSaid, .int a__undone, .int a__boughtNow, .ref a_wayBy, .ref a_wayThen, .int a__walkMost, .int a__walkGoing, .int a__walkSet, .ref a_kept, .long a__drawX, .ref a_images, .ref a_imageX, .ref a_isMade])), (a_wayThen, .inl (cs 0, 2048, .inl f59)), (a_wayBy, .inl (cs 0, 2048, .inl a_wayBy_c))]) [0, 1, 2, 3] rfl) (hD.sub (ws' := [(a_said, .inl (cs 0, 123, .inl a_said_c)), (a, .inr (12, [.ref a_tape, .int a__taped, .int a__rules, .ref a_sign, .ref a_length, .ref a_clause, .ref a_clauses, .ref a_read, .int a__next, .int a__wrong, .int a__number, .int a__text, .int a__made, .int a__deep, .int a__lines, .ref a_open, .int a__opened, .ref a_stack, .int a__top, .ref a_word, .ref a_said, .int a__x, .ref a_worth, .ref a_mate, .ref a_wasSaid, .int a__undone, .int a__boughtNow, .ref a_wayBy, .ref a_wayThen, .int a__walkMost, .int a__walkGoing, .int a__walkSet, .ref a_kept, .long a__drawX, .ref a_images, .ref a_imageX, .ref a_isMade])), (a_wayThen, .inl (cs 0, 2048, .inl f59)), (a_wayBy, .inl (cs 0, 2048, .inl a_wayBy_c))]) [0, 1, 2, 3] (by decide) rfl) hS ls (lv_sub hl [0, 2, 3, 4, 5, 6, 7] rfl)
          refine lv_iload hx hb dX12_walksOn_37 (lv_at hl 0 rfl) ?_
          refine lv_sipush (v := 256) hx hb dX12_walksOn_39 (by decide) ?_
          refine lv_icmp_ge (tgt := 147) hx hb dX12_walksOn_42 (by decide) (fun c61 => ?_) (fun c61 => ?_)
          · have t62 : k37_L_4.toInt ≥ 256 := lin_ge c61 rfl (by decide)
            have h63 : IV 256 256 k37_L_4 := iv_le2 c61 (iv_c (a := 256) (b := 256) (by decide)) q37_11 (by decide)
            have ii64 : 256 ≤ k37_L_4.toInt ∧ k37_L_4.toInt ≤ 256 := h63
            obtain ⟨v65, ev65⟩ : ∃ z : Int32, z = k24_L_3 + 1 := ⟨_, rfl⟩
            have hv65 : IV 1 8 v65 := iv_add ev65 q37_10 (iv_c (a := 1) (b := 1) (by decide)) (by decide) (by decide)
            have dv65 : v65.toInt = k24_L_3.toInt + 1 := iv_addE ev65 q37_10 (iv_c (a := 1) (b := 1) (by decide)) (by decide) (by decide) (by decide)
            refine lv_iinc (v := v65) (lv' := [(3, .int v65), (4, .int k37_L_4), (0, .ref a), (1, .int p0), (2, .int p1)]) hx hb dX12_walksOn_147 hl (k := 1) rfl (by rw [ev65]; rfl) (by decide) rfl (fun ls hl => ?_)
            refine lv_goto (tgt := 24) hx hb dX12_walksOn_150 (by decide) ?_
            exact ih24 v65 k37_C_a_wayThen (by have h9 := q37_10; unfold IV at h9; have := dv65; omega) (iv_w hv65 (by decide) (by decide)) H locs (hP.sub (ws' := [(a_said, .inl (cs 0, 123, .inl a_said_c)), (a, .inr (12, [.ref a_tape, .int a__taped, .int a__rules, .ref a_sign, .ref a_length, .ref a_clause, .ref a_clauses, .ref a_read, .int a__next, .int a__wrong, .int a__number, .int a__text, .int a__made, .int a__deep, .int a__lines, .ref a_open, .int a__opened, .ref a_stack, .int a__top, .ref a_word, .ref a_said, .int a__x, .ref a_worth, .ref a_mate, .ref a_wasSaid, .int a__undone, .int a__boughtNow, .ref a_wayBy, .ref a_wayThen, .int a__walkMost, .int a__walkGoing, .int a__walkSet, .ref a_kept, .long a__drawX, .ref a_images, .ref a_imageX, .ref a_isMade])), (a_wayThen, .inl (cs 0, 2048, .inl k37_C_a_wayThen)), (a_wayBy, .inl (cs 0, 2048, .inl a_wayBy_c))]) [0, 1, 2, 3] rfl) (hD.sub (ws' := [(a_said, .inl (cs 0, 123, .inl a_said_c)), (a, .inr (12, [.ref a_tape, .int a__taped, .int a__rules, .ref a_sign, .ref a_length, .ref a_clause, .ref a_clauses, .ref a_read, .int a__next, .int a__wrong, .int a__number, .int a__text, .int a__made, .int a__deep, .int a__lines, .ref a_open, .int a__opened, .ref a_stack, .int a__top, .ref a_word, .ref a_said, .int a__x, .ref a_worth, .ref a_mate, .ref a_wasSaid, .int a__undone, .int a__boughtNow, .ref a_wayBy, .ref a_wayThen, .int a__walkMost, .int a__walkGoing, .int a__walkSet, .ref a_kept, .long a__drawX, .ref a_images, .ref a_imageX, .ref a_isMade])), (a_wayThen, .inl (cs 0, 2048, .inl k37_C_a_wayThen)), (a_wayBy, .inl (cs 0, 2048, .inl a_wayBy_c))]) [0, 1, 2, 3] (by decide) rfl) hS ls (lv_sub hl [0, 2, 3, 4] rfl)
          · have t66 : k37_L_4.toInt < 256 := lin_geN c61 rfl (by decide)
            have h67 : IV 0 255 k37_L_4 := iv_lt1 (Int32.not_le.mp c61) q37_11 (iv_c (a := 256) (b := 256) (by decide)) (by decide)
            have ii68 : 0 ≤ k37_L_4.toInt ∧ k37_L_4.toInt ≤ 255 := h67
            refine lv_aload_n hx hb dX12_walksOn_45 rfl (lv_at hl 2 rfl) ?_
            refine va_get (D := D) (ci := 12) (v := .ref a_wayBy) (C := RX12) (T := TX12) (N := 37) hx hb hT i_X12 hown hK hP 1 rfl rfl 27 (by decide) (hT _ q_189) (fun _ h9 => h9) rfl dX12_walksOn_46 ?_
            refine lv_iload_n hx hb dX12_walksOn_49 rfl (lv_at hl 1 rfl) ?_
            refine lv_iload hx hb dX12_walksOn_50 (lv_at hl 0 rfl) ?_
            refine va_calli (va_runS (As := [.int k24_L_3, .int k37_L_4]) (rest := [.ref a_wayBy]) ⟨hx, hb, hml, hown, hT⟩ (c_X12_placeOf_W l D cs kK kV k24_L_3 k37_L_4 q37_10 h67) (va_cwS 2 hT (hz_gS q_1243 q_1244 q_701 q_1245) rfl rfl rfl (by decide +kernel) ⟨(Nat.le_of_ble_eq_true rfl), (Nat.le_of_ble_eq_true rfl)⟩) ⟨hz_P.blind, hz_P.mk (hP.sub (ws' := []) [] rfl) hE hS⟩ rfl rfl hl.1 rfl (lv_room (Nat.le_of_ble_eq_true rfl)) dX12_walksOn_52 ⟨(Nat.le_of_ble_eq_true rfl), (Nat.le_of_ble_eq_true rfl)⟩) hS (fun _ _ h => h.elim) (fun _ h => h.elim) (fun r69 u t H1 locs ht hvm hw hB hz1 hk1 hS => ?_)
            have hP := hz_keep hP hk1
            clear hk1 hB hz1
            generalize H1 = H at hP hS ⊢
            have hw_r69 := hw
            refine va_iald hx hb hK hP 3 0 rfl rfl (iv_v hw_r69 (by decide) (by decide)) dX12_walksOn_55 ?_
            refine lv_topi (fun v70 ev70 => ?_)
            have lv70 : v70.toInt = (a_wayBy_c (Int32.toNatClampNeg r69)).toInt := by rw [ev70]
            refine lv_istore (lv' := [(5, .int v70), (4, .int k37_L_4), (3, .int k24_L_3), (0, .ref a), (1, .int p0), (2, .int p1)]) hx hb dX12_walksOn_56 hl (by decide) rfl (fun ls hl => ?_)
            refine lv_iload hx hb dX12_walksOn_58 (lv_at hl 0 rfl) ?_
            refine lv_if_ne (tgt := 66) hx hb dX12_walksOn_60 (by decide) (fun c71 => ?_) (fun c71 => ?_)
            · have t72 : v70.toInt ≠ 0 := lin_ne c71 rfl (by decide)
              refine lv_iconst (v := (-1)) hx hb dX12_walksOn_66 (by decide) ?_
              refine lv_istore (lv' := [(6, .int (-1)), (5, .int v70), (4, .int k37_L_4), (3, .int k24_L_3), (0, .ref a), (1, .int p0), (2, .int p1)]) hx hb dX12_walksOn_67 hl (by decide) rfl (fun ls hl => ?_)
              exact K69 _ (((-1) : Int32)) v70 k37_C_a_wayThen (Nat.le_refl _) q37_10 h67 (iv_c (by decide)) H locs (hP.sub (ws' := [(a_said, .inl (cs 0, 123, .inl a_said_c)), (a, .inr (12, [.ref a_tape, .int a__taped, .int a__rules, .ref a_sign, .ref a_length, .ref a_clause, .ref a_clauses, .ref a_read, .int a__next, .int a__wrong, .int a__number, .int a__text, .int a__made, .int a__deep, .int a__lines, .ref a_open, .int a__opened, .ref a_stack, .int a__top, .ref a_word, .ref a_said, .int a__x, .ref a_worth, .ref a_mate, .ref a_wasSaid, .int a__undone, .int a__boughtNow, .ref a_wayBy, .ref a_wayThen, .int a__walkMost, .int a__walkGoing, .int a__walkSet, .ref a_kept, .long a__drawX, .ref a_images, .ref a_imageX, .ref a_isMade])), (a_wayThen, .inl (cs 0, 2048, .inl k37_C_a_wayThen)), (a_wayBy, .inl (cs 0, 2048, .inl a_wayBy_c))]) [0, 1, 2, 3] rfl) (hD.sub (ws' := [(a_said, .inl (cs 0, 123, .inl a_said_c)), (a, .inr (12, [.ref a_tape, .int a__taped, .int a__rules, .ref a_sign, .ref a_length, .ref a_clause, .ref a_clauses, .ref a_read, .int a__next, .int a__wrong, .int a__number, .int a__text, .int a__made, .int a__deep, .int a__lines, .ref a_open, .int a__opened, .ref a_stack, .int a__top, .ref a_word, .ref a_said, .int a__x, .ref a_worth, .ref a_mate, .ref a_wasSaid, .int a__undone, .int a__boughtNow, .ref a_wayBy, .ref a_wayThen, .int a__walkMost, .int a__walkGoing, .int a__walkSet, .ref a_kept, .long a__drawX, .ref a_images, .ref a_imageX, .ref a_isMade])), (a_wayThen, .inl (cs 0, 2048, .inl k37_C_a_wayThen)), (a_wayBy, .inl (cs 0, 2048, .inl a_wayBy_c))]) [0, 1, 2, 3] (by decide) rfl) hS ls (lv_sub hl [0, 1, 2, 3, 4, 5, 6] rfl)
            · have t73 : v70.toInt = 0 := lin_eqN c71 rfl (by decide)
              have h74 : IV 0 0 v70 := iv_eq1 c71 iv_top (iv_c (a := 0) (b := 0) (by decide)) (by decide) (by decide)
              have ii75 : 0 ≤ v70.toInt ∧ v70.toInt ≤ 0 := h74
              refine lv_goto (tgt := 141) hx hb dX12_walksOn_63 (by decide) ?_
              obtain ⟨v76, ev76⟩ : ∃ z : Int32, z = k37_L_4 + 1 := ⟨_, rfl⟩
              have hv76 : IV 1 256 v76 := iv_add ev76 h67 (iv_c (a := 1) (b := 1) (by decide)) (by decide) (by decide)
              have dv76 : v76.toInt = k37_L_4.toInt + 1 := iv_addE ev76 h67 (iv_c (a := 1) (b := 1) (by decide)) (by decide) (by decide) (by decide)
              refine lv_iinc (v := v76) (lv' := [(4, .int v76), (5, .int v70), (3, .int k24_L_3), (0, .ref a), (1, .int p0), (2, .int p1)]) hx hb dX12_walksOn_141 hl (k := 1) rfl (by rw [ev76]; rfl) (by decide) rfl (fun ls hl => ?_)
              refine lv_goto (tgt := 37) hx hb dX12_walksOn_144 (by decide) ?_
              exact ih37 v76 k37_C_a_wayThen (by have h9 := h67; unfold IV at h9; have := dv76; omega) q37_10 (iv_w hv76 (by decide) (by decide)) H locs (hP.sub (ws' := [(a_said, .inl (cs 0, 123, .inl a_said_c)), (a, .inr (12, [.ref a_tape, .int a__taped, .int a__rules, .ref a_sign, .ref a_length, .ref a_clause, .ref a_clauses, .ref a_read, .int a__next, .int a__wrong, .int a__number, .int a__text, .int a__made, .int a__deep, .int a__lines, .ref a_open, .int a__opened, .ref a_stack, .int a__top, .ref a_word, .ref a_said, .int a__x, .ref a_worth, .ref a_mate, .ref a_wasSaid, .int a__undone, .int a__boughtNow, .ref a_wayBy, .ref a_wayThen, .int a__walkMost, .int a__walkGoing, .int a__walkSet, .ref a_kept, .long a__drawX, .ref a_images, .ref a_imageX, .ref a_isMade])), (a_wayThen, .inl (cs 0, 2048, .inl k37_C_a_wayThen)), (a_wayBy, .inl (cs 0, 2048, .inl a_wayBy_c))]) [0, 1, 2, 3] rfl) (hD.sub (ws' := [(a_said, .inl (cs 0, 123, .inl a_said_c)), (a, .inr (12, [.ref a_tape, .int a__taped, .int a__rules, .ref a_sign, .ref a_length, .ref a_clause, .ref a_clauses, .ref a_read, .int a__next, .int a__wrong, .int a__number, .int a__text, .int a__made, .int a__deep, .int a__lines, .ref a_open, .int a__opened, .ref a_stack, .int a__top, .ref a_word, .ref a_said, .int a__x, .ref a_worth, .ref a_mate, .ref a_wasSaid, .int a__undone, .int a__boughtNow, .ref a_wayBy, .ref a_wayThen, .int a__walkMost, .int a__walkGoing, .int a__walkSet, .ref a_kept, .long a__drawX, .ref a_images, .ref a_imageX, .ref a_isMade])), (a_wayThen, .inl (cs 0, 2048, .inl k37_C_a_wayThen)), (a_wayBy, .inl (cs 0, 2048, .inl a_wayBy_c))]) [0, 1, 2, 3] (by decide) rfl) hS ls (lv_sub hl [0, 2, 3, 4, 5] rfl)
      refine lv_iload_n hx hb dX12_walksOn_24 rfl (lv_at hl 0 rfl) ?_
      refine lv_aload_n hx hb dX12_walksOn_25 rfl (lv_at hl 1 rfl) ?_
      refine va_get (D := D) (ci := 12) (v := .ref a_said) (C := RX12) (T := TX12) (N := 37) hx hb hT i_X12 hown hK hP 1 rfl rfl 20 (by decide) (hT _ q_185) (fun _ h9 => h9) rfl dX12_walksOn_26 ?_
      refine lv_iconst (v := 0) hx hb dX12_walksOn_29 (by decide) ?_
      refine va_iald hx hb hK hP 0 0 rfl rfl (iv_vc (by decide)) dX12_walksOn_30 ?_
      refine lv_topi (fun v77 ev77 => ?_)
      have h78 : IV 0 8 v77 := (by rw [ev77]; exact bs_i0 hf0)
      have ii79 : 0 ≤ v77.toInt ∧ v77.toInt ≤ 8 := h78
      have lv77 : v77.toInt = (a_said_c 0).toInt := by rw [ev77]; rfl
      refine lv_icmp_ge (tgt := 153) hx hb dX12_walksOn_31 (by decide) (fun c80 => ?_) (fun c80 => ?_)
      · have t81 : k24_L_3.toInt ≥ v77.toInt := lin_ge c80 rfl rfl
        refine lv_iconst (v := 0) hx hb dX12_walksOn_153 (by decide) ?_
        refine lv_istore_n (lv' := [(3, .int 0), (0, .ref a), (1, .int p0), (2, .int p1)]) hx hb dX12_walksOn_154 rfl hl (by decide) rfl (fun ls hl => ?_)
        exact K155 _ ((0 : Int32)) k24_C_a_wayThen a_wayBy_c (Nat.le_refl _) (iv_c (by decide)) H locs (hP.sub (ws' := [(a_said, .inl (cs 0, 123, .inl a_said_c)), (a, .inr (12, [.ref a_tape, .int a__taped, .int a__rules, .ref a_sign, .ref a_length, .ref a_clause, .ref a_clauses, .ref a_read, .int a__next, .int a__wrong, .int a__number, .int a__text, .int a__made, .int a__deep, .int a__lines, .ref a_open, .int a__opened, .ref a_stack, .int a__top, .ref a_word, .ref a_said, .int a__x, .ref a_worth, .ref a_mate, .ref a_wasSaid, .int a__undone, .int a__boughtNow, .ref a_wayBy, .ref a_wayThen, .int a__walkMost, .int a__walkGoing, .int a__walkSet, .ref a_kept, .long a__drawX, .ref a_images, .ref a_imageX, .ref a_isMade])), (a_wayThen, .inl (cs 0, 2048, .inl k24_C_a_wayThen)), (a_wayBy, .inl (cs 0, 2048, .inl a_wayBy_c))]) [0, 1, 2, 3] rfl) (hD.sub (ws' := [(a_said, .inl (cs 0, 123, .inl a_said_c)), (a, .inr (12, [.ref a_tape, .int a__taped, .int a__rules, .ref a_sign, .ref a_length, .ref a_clause, .ref a_clauses, .ref a_read, .int a__next, .int a__wrong, .int a__number, .int a__text, .int a__made, .int a__deep, .int a__lines, .ref a_open, .int a__opened, .ref a_stack, .int a__top, .ref a_word, .ref a_said, .int a__x, .ref a_worth, .ref a_mate, .ref a_wasSaid, .int a__undone, .int a__boughtNow, .ref a_wayBy, .ref a_wayThen, .int a__walkMost, .int a__walkGoing, .int a__walkSet, .ref a_kept, .long a__drawX, .ref a_images, .ref a_imageX, .ref a_isMade])), (a_wayThen, .inl (cs 0, 2048, .inl k24_C_a_wayThen)), (a_wayBy, .inl (cs 0, 2048, .inl a_wayBy_c))]) [0, 1, 2, 3] (by decide) rfl) hS ls (lv_sub hl [0, 1, 2, 3] rfl)
      · have t82 : k24_L_3.toInt < v77.toInt := lin_geN c80 rfl rfl
        have h83 : IV 0 7 k24_L_3 := iv_lt1 (Int32.not_le.mp c80) q24_10 h78 (by decide)
        have ii84 : 0 ≤ k24_L_3.toInt ∧ k24_L_3.toInt ≤ 7 := h83
        have h85 : IV 1 8 v77 := iv_lt2 (Int32.not_le.mp c80) q24_10 h78 (by decide)
        have ii86 : 1 ≤ v77.toInt ∧ v77.toInt ≤ 8 := h85
        refine lv_iconst (v := 0) hx hb dX12_walksOn_34 (by decide) ?_
        refine lv_istore (lv' := [(4, .int 0), (3, .int k24_L_3), (0, .ref a), (1, .int p0), (2, .int p1)]) hx hb dX12_walksOn_35 hl (by decide) rfl (fun ls hl => ?_)
        exact K37 _ ((0 : Int32)) k24_C_a_wayThen (Nat.le_refl _) h83 (iv_c (by decide)) H locs (hP.sub (ws' := [(a_said, .inl (cs 0, 123, .inl a_said_c)), (a, .inr (12, [.ref a_tape, .int a__taped, .int a__rules, .ref a_sign, .ref a_length, .ref a_clause, .ref a_clauses, .ref a_read, .int a__next, .int a__wrong, .int a__number, .int a__text, .int a__made, .int a__deep, .int a__lines, .ref a_open, .int a__opened, .ref a_stack, .int a__top, .ref a_word, .ref a_said, .int a__x, .ref a_worth, .ref a_mate, .ref a_wasSaid, .int a__undone, .int a__boughtNow, .ref a_wayBy, .ref a_wayThen, .int a__walkMost, .int a__walkGoing, .int a__walkSet, .ref a_kept, .long a__drawX, .ref a_images, .ref a_imageX, .ref a_isMade])), (a_wayThen, .inl (cs 0, 2048, .inl k24_C_a_wayThen)), (a_wayBy, .inl (cs 0, 2048, .inl a_wayBy_c))]) [0, 1, 2, 3] rfl) (hD.sub (ws' := [(a_said, .inl (cs 0, 123, .inl a_said_c)), (a, .inr (12, [.ref a_tape, .int a__taped, .int a__rules, .ref a_sign, .ref a_length, .ref a_clause, .ref a_clauses, .ref a_read, .int a__next, .int a__wrong, .int a__number, .int a__text, .int a__made, .int a__deep, .int a__lines, .ref a_open, .int a__opened, .ref a_stack, .int a__top, .ref a_word, .ref a_said, .int a__x, .ref a_worth, .ref a_mate, .ref a_wasSaid, .int a__undone, .int a__boughtNow, .ref a_wayBy, .ref a_wayThen, .int a__walkMost, .int a__walkGoing, .int a__walkSet, .ref a_kept, .long a__drawX, .ref a_images, .ref a_imageX, .ref a_isMade])), (a_wayThen, .inl (cs 0, 2048, .inl k24_C_a_wayThen)), (a_wayBy, .inl (cs 0, 2048, .inl a_wayBy_c))]) [0, 1, 2, 3] (by decide) rfl) hS ls (lv_sub hl [0, 1, 2, 3, 4] rfl)
  have K2 : ∀ (n : Nat) (k2_L_3 : Int32) (k2_C_a_wayThen : Nat → Int32), (2048 - k2_L_3.toInt + 1).toNat ≤ n → IV 0 2048 k2_L_3 → ∀ (H : Heap) (locs : List Loc), va_P D classes [(a_said, .inl (cs 0, 123, .inl a_said_c)), (a, .inr (12, [.ref a_tape, .int a__taped, .int a__rules, .ref a_sign, .ref a_length, .ref a_clause, .ref a_clauses, .ref a_read, .int a__next, .int a__wrong, .int a__number, .int a__text, .int a__made, .int a__deep, .int a__lines, .ref a_open, .int a__opened, .ref a_stack, .int a__top, .ref a_word, .ref a_said, .int a__x, .ref a_worth, .ref a_mate, .ref a_wasSaid, .int a__undone, .int a__boughtNow, .ref a_wayBy, .ref a_wayThen, .int a__walkMost, .int a__walkGoing, .int a__walkSet, .ref a_kept, .long a__drawX, .ref a_images, .ref a_imageX, .ref a_isMade])), (a_wayThen, .inl (cs 0, 2048, .inl k2_C_a_wayThen)), (a_wayBy, .inl (cs 0, 2048, .inl a_wayBy_c))] H → va_D A [(a_said, .inl (cs 0, 123, .inl a_said_c)), (a, .inr (12, [.ref a_tape, .int a__taped, .int a__rules, .ref a_sign, .ref a_length, .ref a_clause, .ref a_clauses, .ref a_read, .int a__next, .int a__wrong, .int a__number, .int a__text, .int a__made, .int a__deep, .int a__lines, .ref a_open, .int a__opened, .ref a_stack, .int a__top, .ref a_word, .ref a_said, .int a__x, .ref a_worth, .ref a_mate, .ref a_wasSaid, .int a__undone, .int a__boughtNow, .ref a_wayBy, .ref a_wayThen, .int a__walkMost, .int a__walkGoing, .int a__walkSet, .ref a_kept, .long a__drawX, .ref a_images, .ref a_imageX, .ref a_isMade])), (a_wayThen, .inl (cs 0, 2048, .inl k2_C_a_wayThen)), (a_wayBy, .inl (cs 0, 2048, .inl a_wayBy_c))] → va_S A s.heap H locs → ∀ ls : Array Slot, lv_has ls 8 [(3, .int k2_L_3), (0, .ref a), (1, .int p0), (2, .int p1)] → W p l e (headSpec (hz_w yX12_walksOn cX12_walksOn 8 none) ({ frames := 2, cells := 0, slots := 0, locals := 45 })).room s m [.ref a, .int p0, .int p1].toArray below meth c H locs 0 0 (MQ below (va_Qv (fun (u : (Nat → Int32) × (Nat → Nat → Int32)) => True) (fun u t => va_P D classes [(a_said, .inl (cs 0, 123, .inl a_said_c)), (a, .inr (12, [.ref a_tape, .int a__taped, .int a__rules, .ref a_sign, .ref a_length, .ref a_clause, .ref a_clauses, .ref a_read, .int a__next, .int a__wrong, .int a__number, .int a__text, .int a__made, .int a__deep, .int a__lines, .ref a_open, .int a__opened, .ref a_stack, .int a__top, .ref a_word, .ref a_said, .int a__x, .ref a_worth, .ref a_mate, .ref a_wasSaid, .int a__undone, .int a__boughtNow, .ref a_wayBy, .ref a_wayThen, .int a__walkMost, .int a__walkGoing, .int a__walkSet, .ref a_kept, .long a__drawX, .ref a_images, .ref a_imageX, .ref a_isMade])), (a_wayThen, .inl (cs 0, 2048, .inl (u.2 1))), (a_wayBy, .inl (cs 0, 2048, .inl (u.2 0)))] t.heap ∧ va_D A [(a_said, .inl (cs 0, 123, .inl a_said_c)), (a, .inr (12, [.ref a_tape, .int a__taped, .int a__rules, .ref a_sign, .ref a_length, .ref a_clause, .ref a_clauses, .ref a_read, .int a__next, .int a__wrong, .int a__number, .int a__text, .int a__made, .int a__deep, .int a__lines, .ref a_open, .int a__opened, .ref a_stack, .int a__top, .ref a_word, .ref a_said, .int a__x, .ref a_worth, .ref a_mate, .ref a_wasSaid, .int a__undone, .int a__boughtNow, .ref a_wayBy, .ref a_wayThen, .int a__walkMost, .int a__walkGoing, .int a__walkSet, .ref a_kept, .long a__drawX, .ref a_images, .ref a_imageX, .ref a_isMade])), (a_wayThen, .inl (cs 0, 2048, .inl (u.2 1))), (a_wayBy, .inl (cs 0, 2048, .inl (u.2 0)))]) A) [.ref a, .int p0, .int p1].toArray s 0 0 A) (F0 m 2 ls []) := by
    intro n
    induction n with
    | zero =>
      intro k2_L_3 k2_C_a_wayThen hn q2_10 H locs hP hD hS ls hl
      exact absurd hn (by unfold IV at q2_10; omega)
    | succ n ih2 =>
      intro k2_L_3 k2_C_a_wayThen hn q2_10 H locs hP hD hS ls hl
      have i_a__lines : 0 ≤ a__lines.toInt ∧ a__lines.toInt ≤ 40 := h_a__lines
      have i_a__made : 0 ≤ a__made.toInt ∧ a__made.toInt ≤ 60 := h_a__made
      have i_a__next : 0 ≤ a__next.toInt ∧ a__next.toInt ≤ 400 := h_a__next
      have i_a__opened : 0 ≤ a__opened.toInt ∧ a__opened.toInt ≤ 400 := h_a__opened
      have i_a__rules : 0 ≤ a__rules.toInt ∧ a__rules.toInt ≤ 6 := h_a__rules
      have i_a__taped : 0 ≤ a__taped.toInt ∧ a__taped.toInt ≤ 400 := h_a__taped
      have i_a__text : 0 ≤ a__text.toInt ∧ a__text.toInt ≤ 6 := h_a__text
      have i_a__top : 0 ≤ a__top.toInt ∧ a__top.toInt ≤ 64 := h_a__top
      have i_a__undone : 0 ≤ a__undone.toInt ∧ a__undone.toInt ≤ 20 := h_a__undone
      have i_a__x : 0 ≤ a__x.toInt ∧ a__x.toInt ≤ 2147483647 := h_a__x
      have i_k2_L_3 : 0 ≤ k2_L_3.toInt ∧ k2_L_3.toInt ≤ 2048 := q2_10
      have i_p0 : 0 ≤ p0.toInt ∧ p0.toInt ≤ 300 := h_p0
      have i_p1 : 0 ≤ p1.toInt ∧ p1.toInt ≤ 1 := h_p1
      refine lv_iload_n hx hb dX12_walksOn_2 rfl (lv_at hl 0 rfl) ?_
      refine lv_sipush (v := 2048) hx hb dX12_walksOn_3 (by decide) ?_
      refine lv_icmp_ge (tgt := 22) hx hb dX12_walksOn_6 (by decide) (fun c87 => ?_) (fun c87 => ?_)
      · have t88 : k2_L_3.toInt ≥ 2048 := lin_ge c87 rfl (by decide)
        have h89 : IV 2048 2048 k2_L_3 := iv_le2 c87 (iv_c (a := 2048) (b := 2048) (by decide)) q2_10 (by decide)
        have ii90 : 2048 ≤ k2_L_3.toInt ∧ k2_L_3.toInt ≤ 2048 := h89
        refine lv_iconst (v := 0) hx hb dX12_walksOn_22 (by decide) ?_
        refine lv_istore_n (lv' := [(3, .int 0), (0, .ref a), (1, .int p0), (2, .int p1)]) hx hb dX12_walksOn_23 rfl hl (by decide) rfl (fun ls hl => ?_)
        exact K24 _ ((0 : Int32)) k2_C_a_wayThen (Nat.le_refl _) (iv_c (by decide)) H locs (hP.sub (ws' := [(a_said, .inl (cs 0, 123, .inl a_said_c)), (a, .inr (12, [.ref a_tape, .int a__taped, .int a__rules, .ref a_sign, .ref a_length, .ref a_clause, .ref a_clauses, .ref a_read, .int a__next, .int a__wrong, .int a__number, .int a__text, .int a__made, .int a__deep, .int a__lines, .ref a_open, .int a__opened, .ref a_stack, .int a__top, .ref a_word, .ref a_said, .int a__x, .ref a_worth, .ref a_mate, .ref a_wasSaid, .int a__undone, .int a__boughtNow, .ref a_wayBy, .ref a_wayThen, .int a__walkMost, .int a__walkGoing, .int a__walkSet, .ref a_kept, .long a__drawX, .ref a_images, .ref a_imageX, .ref a_isMade])), (a_wayThen, .inl (cs 0, 2048, .inl k2_C_a_wayThen)), (a_wayBy, .inl (cs 0, 2048, .inl a_wayBy_c))]) [0, 1, 2, 3] rfl) (hD.sub (ws' := [(a_said, .inl (cs 0, 123, .inl a_said_c)), (a, .inr (12, [.ref a_tape, .int a__taped, .int a__rules, .ref a_sign, .ref a_length, .ref a_clause, .ref a_clauses, .ref a_read, .int a__next, .int a__wrong, .int a__number, .int a__text, .int a__made, .int a__deep, .int a__lines, .ref a_open, .int a__opened, .ref a_stack, .int a__top, .ref a_word, .ref a_said, .int a__x, .ref a_worth, .ref a_mate, .ref a_wasSaid, .int a__undone, .int a__boughtNow, .ref a_wayBy, .ref a_wayThen, .int a__walkMost, .int a__walkGoing, .int a__walkSet, .ref a_kept, .long a__drawX, .ref a_images, .ref a_imageX, .ref a_isMade])), (a_wayThen, .inl (cs 0, 2048, .inl k2_C_a_wayThen)), (a_wayBy, .inl (cs 0, 2048, .inl a_wayBy_c))]) [0, 1, 2, 3] (by decide) rfl) hS ls (lv_sub hl [0, 1, 2, 3] rfl)
      · have t91 : k2_L_3.toInt < 2048 := lin_geN c87 rfl (by decide)
        have h92 : IV 0 2047 k2_L_3 := iv_lt1 (Int32.not_le.mp c87) q2_10 (iv_c (a := 2048) (b := 2048) (by decide)) (by decide)
        have ii93 : 0 ≤ k2_L_3.toInt ∧ k2_L_3.toInt ≤ 2047 := h92
        refine lv_aload_n hx hb dX12_walksOn_9 rfl (lv_at hl 1 rfl) ?_
        refine va_get (D := D) (ci := 12) (v := .ref a_wayThen) (C := RX12) (T := TX12) (N := 37) hx hb hT i_X12 hown hK hP 1 rfl rfl 28 (by decide) (hT _ q_190) (fun _ h9 => h9) rfl dX12_walksOn_10 ?_
        refine lv_iload_n hx hb dX12_walksOn_13 rfl (lv_at hl 0 rfl) ?_
        refine lv_iconst (v := 0) hx hb dX12_walksOn_14 (by decide) ?_
        refine va_iast hx hb hK hP hD hS 2 0 rfl rfl (iv_v h92 (by decide) (by decide)) dX12_walksOn_15 (fun H locs hP hD hS => ?_)
        have hP : va_P D classes [(a_said, .inl (cs 0, 123, .inl a_said_c)), (a, .inr (12, [.ref a_tape, .int a__taped, .int a__rules, .ref a_sign, .ref a_length, .ref a_clause, .ref a_clauses, .ref a_read, .int a__next, .int a__wrong, .int a__number, .int a__text, .int a__made, .int a__deep, .int a__lines, .ref a_open, .int a__opened, .ref a_stack, .int a__top, .ref a_word, .ref a_said, .int a__x, .ref a_worth, .ref a_mate, .ref a_wasSaid, .int a__undone, .int a__boughtNow, .ref a_wayBy, .ref a_wayThen, .int a__walkMost, .int a__walkGoing, .int a__walkSet, .ref a_kept, .long a__drawX, .ref a_images, .ref a_imageX, .ref a_isMade])), (a_wayThen, .inl (cs 0, 2048, .inl (upd k2_C_a_wayThen (Int32.toNatClampNeg k2_L_3) (0 : Int32)))), (a_wayBy, .inl (cs 0, 2048, .inl a_wayBy_c))] H := hP
        have hD : va_D A [(a_said, .inl (cs 0, 123, .inl a_said_c)), (a, .inr (12, [.ref a_tape, .int a__taped, .int a__rules, .ref a_sign, .ref a_length, .ref a_clause, .ref a_clauses, .ref a_read, .int a__next, .int a__wrong, .int a__number, .int a__text, .int a__made, .int a__deep, .int a__lines, .ref a_open, .int a__opened, .ref a_stack, .int a__top, .ref a_word, .ref a_said, .int a__x, .ref a_worth, .ref a_mate, .ref a_wasSaid, .int a__undone, .int a__boughtNow, .ref a_wayBy, .ref a_wayThen, .int a__walkMost, .int a__walkGoing, .int a__walkSet, .ref a_kept, .long a__drawX, .ref a_images, .ref a_imageX, .ref a_isMade])), (a_wayThen, .inl (cs 0, 2048, .inl (upd k2_C_a_wayThen (Int32.toNatClampNeg k2_L_3) (0 : Int32)))), (a_wayBy, .inl (cs 0, 2048, .inl a_wayBy_c))] := hD
        obtain ⟨f94, uf94⟩ : ∃ z, z = upd k2_C_a_wayThen (Int32.toNatClampNeg k2_L_3) (0 : Int32) := ⟨_, rfl⟩
        rw [← uf94] at hP hD
        have wf94 : (f94 (Int32.toNatClampNeg k2_L_3)).toInt = 0 := lin_us uf94 (by decide)
        obtain ⟨v95, ev95⟩ : ∃ z : Int32, z = k2_L_3 + 1 := ⟨_, rfl⟩
        have hv95 : IV 1 2048 v95 := iv_add ev95 h92 (iv_c (a := 1) (b := 1) (by decide)) (by decide) (by decide)
        have dv95 : v95.toInt = k2_L_3.toInt + 1 := iv_addE ev95 h92 (iv_c (a := 1) (b := 1) (by decide)) (by decide) (by decide) (by decide)
        refine lv_iinc (v := v95) (lv' := [(3, .int v95), (0, .ref a), (1, .int p0), (2, .int p1)]) hx hb dX12_walksOn_16 hl (k := 0) rfl (by rw [ev95]; rfl) (by decide) rfl (fun ls hl => ?_)
        refine lv_goto (tgt := 2) hx hb dX12_walksOn_19 (by decide) ?_
        exact ih2 v95 f94 (by have h9 := h92; unfold IV at h9; have := dv95; omega) (iv_w hv95 (by decide) (by decide)) H locs (hP.sub (ws' := [(a_said, .inl (cs 0, 123, .inl a_said_c)), (a, .inr (12, [.ref a_tape, .int a__taped, .int a__rules, .ref a_sign, .ref a_length, .ref a_clause, .ref a_clauses, .ref a_read, .int a__next, .int a__wrong, .int a__number, .int a__text, .int a__made, .int a__deep, .int a__lines, .ref a_open, .int a__opened, .ref a_stack, .int a__top, .ref a_word, .ref a_said, .int a__x, .ref a_worth, .ref a_mate, .ref a_wasSaid, .int a__undone, .int a__boughtNow, .ref a_wayBy, .ref a_wayThen, .int a__walkMost, .int a__walkGoing, .int a__walkSet, .ref a_kept, .long a__drawX, .ref a_images, .ref a_imageX, .ref a_isMade])), (a_wayThen, .inl (cs 0, 2048, .inl f94)), (a_wayBy, .inl (cs 0, 2048, .inl a_wayBy_c))]) [0, 1, 2, 3] rfl) (hD.sub (ws' := [(a_said, .inl (cs 0, 123, .inl a_said_c)), (a, .inr (12, [.ref a_tape, .int a__taped, .int a__rules, .ref a_sign, .ref a_length, .ref a_clause, .ref a_clauses, .ref a_read, .int a__next, .int a__wrong, .int a__number, .int a__text, .int a__made, .int a__deep, .int a__lines, .ref a_open, .int a__opened, .ref a_stack, .int a__top, .ref a_word, .ref a_said, .int a__x, .ref a_worth, .ref a_mate, .ref a_wasSaid, .int a__undone, .int a__boughtNow, .ref a_wayBy, .ref a_wayThen, .int a__walkMost, .int a__walkGoing, .int a__walkSet, .ref a_kept, .long a__drawX, .ref a_images, .ref a_imageX, .ref a_isMade])), (a_wayThen, .inl (cs 0, 2048, .inl f94)), (a_wayBy, .inl (cs 0, 2048, .inl a_wayBy_c))]) [0, 1, 2, 3] (by decide) rfl) hS ls (lv_sub hl [0, 1, 2, 3] rfl)
  refine lv_iconst (v := 0) hx hb dX12_walksOn_0 (by decide) ?_
  refine lv_istore_n (lv' := [(3, .int 0), (0, .ref a), (1, .int p0), (2, .int p1)]) hx hb dX12_walksOn_1 rfl hl (by decide) rfl (fun ls hl => ?_)
  exact K2 _ ((0 : Int32)) a_wayThen_c (Nat.le_refl _) (iv_c (by decide)) H locs (hP.sub (ws' := [(a_said, .inl (cs 0, 123, .inl a_said_c)), (a, .inr (12, [.ref a_tape, .int a__taped, .int a__rules, .ref a_sign, .ref a_length, .ref a_clause, .ref a_clauses, .ref a_read, .int a__next, .int a__wrong, .int a__number, .int a__text, .int a__made, .int a__deep, .int a__lines, .ref a_open, .int a__opened, .ref a_stack, .int a__top, .ref a_word, .ref a_said, .int a__x, .ref a_worth, .ref a_mate, .ref a_wasSaid, .int a__undone, .int a__boughtNow, .ref a_wayBy, .ref a_wayThen, .int a__walkMost, .int a__walkGoing, .int a__walkSet, .ref a_kept, .long a__drawX, .ref a_images, .ref a_imageX, .ref a_isMade])), (a_wayThen, .inl (cs 0, 2048, .inl a_wayThen_c)), (a_wayBy, .inl (cs 0, 2048, .inl a_wayBy_c))]) [0, 1, 2, 3] rfl) (hD.sub (ws' := [(a_said, .inl (cs 0, 123, .inl a_said_c)), (a, .inr (12, [.ref a_tape, .int a__taped, .int a__rules, .ref a_sign, .ref a_length, .ref a_clause, .ref a_clauses, .ref a_read, .int a__next, .int a__wrong, .int a__number, .int a__text, .int a__made, .int a__deep, .int a__lines, .ref a_open, .int a__opened, .ref a_stack, .int a__top, .ref a_word, .ref a_said, .int a__x, .ref a_worth, .ref a_mate, .ref a_wasSaid, .int a__undone, .int a__boughtNow, .ref a_wayBy, .ref a_wayThen, .int a__walkMost, .int a__walkGoing, .int a__walkSet, .ref a_kept, .long a__drawX, .ref a_images, .ref a_imageX, .ref a_isMade])), (a_wayThen, .inl (cs 0, 2048, .inl a_wayThen_c)), (a_wayBy, .inl (cs 0, 2048, .inl a_wayBy_c))]) [0, 1, 2, 3] (by decide) rfl) hS ls (lv_sub hl [0, 1, 2, 3] rfl)
theorem dX12_walksTill_0 : decode cX12_walksTill 0 = .ok (.iconst 0, 1) := by decide +kernel
theorem dX12_walksTill_1 : decode cX12_walksTill 1 = .ok (.istore_n 3, 1) := by decide +kernel
theorem dX12_walksTill_2 : decode cX12_walksTill 2 = .ok (.iload_n 3, 1) := by decide +kernel
theorem dX12_walksTill_3 : decode cX12_walksTill 3 = .ok (.sipush 2048, 3) := by decide +kernel
theorem dX12_walksTill_6 : decode cX12_walksTill 6 = .ok (.if_icmp .ge 16, 3) := by decide +kernel
theorem dX12_walksTill_9 : decode cX12_walksTill 9 = .ok (.aload_n 0, 1) := by decide +kernel
theorem dX12_walksTill_10 : decode cX12_walksTill 10 = .ok (.getfield 51, 3) := by decide +kernel
theorem dX12_walksTill_13 : decode cX12_walksTill 13 = .ok (.iload_n 3, 1) := by decide +kernel
theorem dX12_walksTill_14 : decode cX12_walksTill 14 = .ok (.iconst 0, 1) := by decide +kernel
theorem dX12_walksTill_15 : decode cX12_walksTill 15 = .ok (.iastore, 1) := by decide +kernel
theorem dX12_walksTill_16 : decode cX12_walksTill 16 = .ok (.iinc 3 1, 3) := by decide +kernel
theorem dX12_walksTill_19 : decode cX12_walksTill 19 = .ok (.goto (-17), 3) := by decide +kernel
theorem dX12_walksTill_22 : decode cX12_walksTill 22 = .ok (.aload_n 0, 1) := by decide +kernel
theorem dX12_walksTill_23 : decode cX12_walksTill 23 = .ok (.iload_n 1, 1) := by decide +kernel
theorem dX12_walksTill_24 : decode cX12_walksTill 24 = .ok (.iconst 1, 1) := by decide +kernel
theorem dX12_walksTill_25 : decode cX12_walksTill 25 = .ok (.invokevirtual 314, 3) := by decide +kernel
theorem dX12_walksTill_28 : decode cX12_walksTill 28 = .ok (.istore_n 3, 1) := by decide +kernel
theorem dX12_walksTill_29 : decode cX12_walksTill 29 = .ok (.aload_n 0, 1) := by decide +kernel
theorem dX12_walksTill_30 : decode cX12_walksTill 30 = .ok (.getfield 51, 3) := by decide +kernel
theorem dX12_walksTill_33 : decode cX12_walksTill 33 = .ok (.iload_n 3, 1) := by decide +kernel
theorem dX12_walksTill_34 : decode cX12_walksTill 34 = .ok (.iconst 1, 1) := by decide +kernel
theorem dX12_walksTill_35 : decode cX12_walksTill 35 = .ok (.aload_n 0, 1) := by decide +kernel
theorem dX12_walksTill_36 : decode cX12_walksTill 36 = .ok (.iload_n 3, 1) := by decide +kernel
theorem dX12_walksTill_37 : decode cX12_walksTill 37 = .ok (.aload_n 0, 1) := by decide +kernel
theorem dX12_walksTill_38 : decode cX12_walksTill 38 = .ok (.getfield 39, 3) := by decide +kernel
theorem dX12_walksTill_41 : decode cX12_walksTill 41 = .ok (.iconst 3, 1) := by decide +kernel
theorem dX12_walksTill_42 : decode cX12_walksTill 42 = .ok (.iaload, 1) := by decide +kernel
theorem dX12_walksTill_43 : decode cX12_walksTill 43 = .ok (.invokevirtual 317, 3) := by decide +kernel
theorem dX12_walksTill_46 : decode cX12_walksTill 46 = .ok (.ishl, 1) := by decide +kernel
theorem dX12_walksTill_47 : decode cX12_walksTill 47 = .ok (.invokestatic 421, 3) := by decide +kernel
theorem dX12_walksTill_50 : decode cX12_walksTill 50 = .ok (.bipush 7, 2) := by decide +kernel
theorem dX12_walksTill_52 : decode cX12_walksTill 52 = .ok (.iastore, 1) := by decide +kernel
theorem dX12_walksTill_53 : decode cX12_walksTill 53 = .ok (.iconst 1, 1) := by decide +kernel
theorem dX12_walksTill_54 : decode cX12_walksTill 54 = .ok (.istore 4, 2) := by decide +kernel
theorem dX12_walksTill_56 : decode cX12_walksTill 56 = .ok (.iload 4, 2) := by decide +kernel
theorem dX12_walksTill_58 : decode cX12_walksTill 58 = .ok (.iload_n 2, 1) := by decide +kernel
theorem dX12_walksTill_59 : decode cX12_walksTill 59 = .ok (.if_icmp .ge 33, 3) := by decide +kernel
theorem dX12_walksTill_62 : decode cX12_walksTill 62 = .ok (.aload_n 0, 1) := by decide +kernel
theorem dX12_walksTill_63 : decode cX12_walksTill 63 = .ok (.aload_n 0, 1) := by decide +kernel
theorem dX12_walksTill_64 : decode cX12_walksTill 64 = .ok (.getfield 39, 3) := by decide +kernel
theorem dX12_walksTill_67 : decode cX12_walksTill 67 = .ok (.iconst 3, 1) := by decide +kernel
theorem dX12_walksTill_68 : decode cX12_walksTill 68 = .ok (.iaload, 1) := by decide +kernel
theorem dX12_walksTill_69 : decode cX12_walksTill 69 = .ok (.iload 4, 2) := by decide +kernel
theorem dX12_walksTill_71 : decode cX12_walksTill 71 = .ok (.iadd, 1) := by decide +kernel
theorem dX12_walksTill_72 : decode cX12_walksTill 72 = .ok (.iload 4, 2) := by decide +kernel
theorem dX12_walksTill_74 : decode cX12_walksTill 74 = .ok (.iconst 1, 1) := by decide +kernel
theorem dX12_walksTill_75 : decode cX12_walksTill 75 = .ok (.if_icmp .ne 7, 3) := by decide +kernel
theorem dX12_walksTill_78 : decode cX12_walksTill 78 = .ok (.iconst 1, 1) := by decide +kernel
theorem dX12_walksTill_79 : decode cX12_walksTill 79 = .ok (.goto 4, 3) := by decide +kernel
theorem dX12_walksTill_82 : decode cX12_walksTill 82 = .ok (.iconst 0, 1) := by decide +kernel
theorem dX12_walksTill_83 : decode cX12_walksTill 83 = .ok (.invokevirtual 424, 3) := by decide +kernel
theorem dX12_walksTill_86 : decode cX12_walksTill 86 = .ok (.iinc 4 1, 3) := by decide +kernel
theorem dX12_walksTill_89 : decode cX12_walksTill 89 = .ok (.goto (-33), 3) := by decide +kernel
theorem dX12_walksTill_92 : decode cX12_walksTill 92 = .ok (.return_, 1) := by decide +kernel
set_option maxHeartbeats 4000000 in
set_option maxRecDepth 100000 in
theorem c_X12_walksTill (l : Launch) (D : va_G) (cs : Nat → ClassId) (kK kV : Nat → Nat) (a : Nat) (p0 : Int32) (p1 : Int32) (a_said : Nat) (a_said_c : Nat → Int32) (a_tape : Nat) (a__taped : Int32) (a__rules : Int32) (a_sign : Nat) (a_length : Nat) (a_clause : Nat) (a_clauses : Nat) (a_read : Nat) (a__next : Int32) (a__wrong : Int32) (a__number : Int32) (a__text : Int32) (a__made : Int32) (a__deep : Int32) (a__lines : Int32) (a_open : Nat) (a__opened : Int32) (a_stack : Nat) (a__top : Int32) (a_word : Nat) (a__x : Int32) (a_worth : Nat) (a_mate : Nat) (a_wasSaid : Nat) (a__undone : Int32) (a__boughtNow : Int32) (a_wayBy : Nat) (a_wayThen : Nat) (a__walkMost : Int32) (a__walkGoing : Int32) (a__walkSet : Int32) (a_kept : Nat) (a__drawX : Int64) (a_images : Nat) (a_imageX : Nat) (a_isMade : Nat) (a_wayBy_c : Nat → Int32) (a_wayThen_c : Nat → Int32) (h_p0 : IV 0 3 p0) (h_p1 : IV (-2147483648) 12 p1) (h_a__taped : IV 0 400 a__taped) (h_a__rules : IV 0 6 a__rules) (h_a__next : IV 0 400 a__next) (h_a__text : IV 0 6 a__text) (h_a__made : IV 0 60 a__made) (h_a__lines : IV 0 40 a__lines) (h_a__opened : IV 0 400 a__opened) (h_a__top : IV 0 64 a__top) (h_a__x : IV 0 2147483647 a__x) (h_a__undone : IV 0 20 a__undone) (hf0 : BS a_said_c 200) (hf1 : p0.toInt < (a_said_c 2).toInt) (sz : Nat) : Met l yX12_walksTill (hz_w yX12_walksTill cX12_walksTill 5 none) ({ frames := 3, cells := 0, slots := 0, locals := 72 }) (va_Pc [.ref a, .int p0, .int p1] (hz_C D cs kK kV sz [(a_said, .inl (cs 0, 123, .inl a_said_c)), (a, .inr (12, [.ref a_tape, .int a__taped, .int a__rules, .ref a_sign, .ref a_length, .ref a_clause, .ref a_clauses, .ref a_read, .int a__next, .int a__wrong, .int a__number, .int a__text, .int a__made, .int a__deep, .int a__lines, .ref a_open, .int a__opened, .ref a_stack, .int a__top, .ref a_word, .ref a_said, .int a__x, .ref a_worth, .ref a_mate, .ref a_wasSaid, .int a__undone, .int a__boughtNow, .ref a_wayBy, .ref a_wayThen, .int a__walkMost, .int a__walkGoing, .int a__walkSet, .ref a_kept, .long a__drawX, .ref a_images, .ref a_imageX, .ref a_isMade])), (a_wayBy, .inl (cs 0, 2048, .inl a_wayBy_c)), (a_wayThen, .inl (cs 0, 2048, .inl a_wayThen_c))])) (va_Qv (fun (u : (Nat → Int32) × (Nat → Nat → Int32)) => True) (fun u t => va_P D classes [(a_said, .inl (cs 0, 123, .inl a_said_c)), (a, .inr (12, [.ref a_tape, .int a__taped, .int a__rules, .ref a_sign, .ref a_length, .ref a_clause, .ref a_clauses, .ref a_read, .int a__next, .int a__wrong, .int a__number, .int a__text, .int a__made, .int a__deep, .int a__lines, .ref a_open, .int a__opened, .ref a_stack, .int a__top, .ref a_word, .ref a_said, .int a__x, .ref a_worth, .ref a_mate, .ref a_wasSaid, .int a__undone, .int a__boughtNow, .ref a_wayBy, .ref a_wayThen, .int a__walkMost, .int a__walkGoing, .int a__walkSet, .ref a_kept, .long a__drawX, .ref a_images, .ref a_imageX, .ref a_isMade])), (a_wayBy, .inl (cs 0, 2048, .inl (u.2 0))), (a_wayThen, .inl (cs 0, 2048, .inl (u.2 1)))] t.heap ∧ va_D (va_A [(a_said, .inl (cs 0, 123, .inl a_said_c)), (a, .inr (12, [.ref a_tape, .int a__taped, .int a__rules, .ref a_sign, .ref a_length, .ref a_clause, .ref a_clauses, .ref a_read, .int a__next, .int a__wrong, .int a__number, .int a__text, .int a__made, .int a__deep, .int a__lines, .ref a_open, .int a__opened, .ref a_stack, .int a__top, .ref a_word, .ref a_said, .int a__x, .ref a_worth, .ref a_mate, .ref a_wasSaid, .int a__undone, .int a__boughtNow, .ref a_wayBy, .ref a_wayThen, .int a__walkMost, .int a__walkGoing, .int a__walkSet, .ref a_kept, .long a__drawX, .ref a_images, .ref a_imageX, .ref a_isMade])), (a_wayBy, .inl (cs 0, 2048, .inl a_wayBy_c)), (a_wayThen, .inl (cs 0, 2048, .inl a_wayThen_c))] sz) [(a_said, .inl (cs 0, 123, .inl a_said_c)), (a, .inr (12, [.ref a_tape, .int a__taped, .int a__rules, .ref a_sign, .ref a_length, .ref a_clause, .ref a_clauses, .ref a_read, .int a__next, .int a__wrong, .int a__number, .int a__text, .int a__made, .int a__deep, .int a__lines, .ref a_open, .int a__opened, .ref a_stack, .int a__top, .ref a_word, .ref a_said, .int a__x, .ref a_worth, .ref a_mate, .ref a_wasSaid, .int a__undone, .int a__boughtNow, .ref a_wayBy, .ref a_wayThen, .int a__walkMost, .int a__walkGoing, .int a__walkSet, .ref a_kept, .long a__drawX, .ref a_images, .ref a_imageX, .ref a_isMade])), (a_wayBy, .inl (cs 0, 2048, .inl (u.2 0))), (a_wayThen, .inl (cs 0, 2048, .inl (u.2 1)))]) (va_A [(a_said, .inl (cs 0, 123, .inl a_said_c)), (a, .inr (12, [.ref a_tape, .int a__taped, .int a__rules, .ref a_sign, .ref a_length, .ref a_clause, .ref a_clauses, .ref a_read, .int a__next, .int a__wrong, .int a__number, .int a__text, .int a__made, .int a__deep, .int a__lines, .ref a_open, .int a__opened, .ref a_stack, .int a__top, .ref a_word, .ref a_said, .int a__x, .ref a_worth, .ref a_mate, .ref a_wasSaid, .int a__undone, .int a__boughtNow, .ref a_wayBy, .ref a_wayThen, .int a__walkMost, .int a__walkGoing, .int a__walkSet, .ref a_kept, .long a__drawX, .ref a_images, .ref a_imageX, .ref a_isMade])), (a_wayBy, .inl (cs 0, 2048, .inl a_wayBy_c)), (a_wayThen, .inl (cs 0, 2048, .inl a_wayThen_c))] sz)) 0 0 (va_A [(a_said, .inl (cs 0, 123, .inl a_said_c)), (a, .inr (12, [.ref a_tape, .int a__taped, .int a__rules, .ref a_sign, .ref a_length, .ref a_clause, .ref a_clauses, .ref a_read, .int a__next, .int a__wrong, .int a__number, .int a__text, .int a__made, .int a__deep, .int a__lines, .ref a_open, .int a__opened, .ref a_stack, .int a__top, .ref a_word, .ref a_said, .int a__x, .ref a_worth, .ref a_mate, .ref a_wasSaid, .int a__undone, .int a__boughtNow, .ref a_wayBy, .ref a_wayThen, .int a__walkMost, .int a__walkGoing, .int a__walkSet, .ref a_kept, .long a__drawX, .ref a_images, .ref a_imageX, .ref a_isMade])), (a_wayBy, .inl (cs 0, 2048, .inl a_wayBy_c)), (a_wayThen, .inl (cs 0, 2048, .inl a_wayThen_c))] sz) := by
  refine Met.ofW (cc := cX12_walksTill) (maxL := 5) (ret := none) (by decide) rfl ?_
  intro p e s m args below meth c s₁ B hml hv
  obtain ⟨rfl, hsz, hP, hD0, hE⟩ := hv
  have hx := B.exec
  have hb := B.bytes
  have hr := B.returns
  have hT : ∀ w ∈ TB, w.before _ s = true := fun w h => atoms_spec (ws := hz_w yX12_walksTill cX12_walksTill 5 none) B.pre w (List.mem_cons_of_mem _ h)
  have hown : s.vm.findClass RX12 = some m.cls := findClass_of_methodNamed B.named
  have hlocks := B.notSynchronized
  clear B
  subst hsz
  have hD := hD0.self (sz := s.heap.size)
  generalize hAe : va_A [(a_said, .inl (cs 0, 123, .inl a_said_c)), (a, .inr (12, [.ref a_tape, .int a__taped, .int a__rules, .ref a_sign, .ref a_length, .ref a_clause, .ref a_clauses, .ref a_read, .int a__next, .int a__wrong, .int a__number, .int a__text, .int a__made, .int a__deep, .int a__lines, .ref a_open, .int a__opened, .ref a_stack, .int a__top, .ref a_word, .ref a_said, .int a__x, .ref a_worth, .ref a_mate, .ref a_wasSaid, .int a__undone, .int a__boughtNow, .ref a_wayBy, .ref a_wayThen, .int a__walkMost, .int a__walkGoing, .int a__walkSet, .ref a_kept, .long a__drawX, .ref a_images, .ref a_imageX, .ref a_isMade])), (a_wayBy, .inl (cs 0, 2048, .inl a_wayBy_c)), (a_wayThen, .inl (cs 0, 2048, .inl a_wayThen_c))] s.heap.size = A at hD hE ⊢
  have hA : ∀ q : Nat, s.heap.size ≤ q → A q := fun q h => by rw [← hAe]; exact Or.inr h
  clear hAe hD0
  have hS : va_S A s.heap s.heap [] := va_S.rf
  have hK := hE.1
  have hl := lv_entry ([.ref a, .int p0, .int p1]) (n := 5) (Nat.le_of_ble_eq_true rfl)
  rw [lg_entry_eq]
  generalize (lg_sl ([.ref a, .int p0, .int p1]) ++ List.replicate (5 - (lg_sl ([.ref a, .int p0, .int p1])).length) Slot.unset).toArray = ls at hl ⊢
  have hl : lv_has ls 5 [(0, .ref a), (1, .int p0), (2, .int p1)] := hl
  obtain ⟨H, eH⟩ : ∃ z, z = s.heap := ⟨_, rfl⟩
  have hP : va_P D classes [(a_said, .inl (cs 0, 123, .inl a_said_c)), (a, .inr (12, [.ref a_tape, .int a__taped, .int a__rules, .ref a_sign, .ref a_length, .ref a_clause, .ref a_clauses, .ref a_read, .int a__next, .int a__wrong, .int a__number, .int a__text, .int a__made, .int a__deep, .int a__lines, .ref a_open, .int a__opened, .ref a_stack, .int a__top, .ref a_word, .ref a_said, .int a__x, .ref a_worth, .ref a_mate, .ref a_wasSaid, .int a__undone, .int a__boughtNow, .ref a_wayBy, .ref a_wayThen, .int a__walkMost, .int a__walkGoing, .int a__walkSet, .ref a_kept, .long a__drawX, .ref a_images, .ref a_imageX, .ref a_isMade])), (a_wayBy, .inl (cs 0, 2048, .inl a_wayBy_c)), (a_wayThen, .inl (cs 0, 2048, .inl a_wayThen_c))] H := by rw [eH]; exact hP
  have hS : va_S A s.heap H [] := by rw [eH]; exact hS
  rw [← eH]
  clear eH
  obtain ⟨locs, el⟩ : ∃ z : List Loc, z = [] := ⟨_, rfl⟩
  rw [← el] at hS ⊢
  clear el
  have z0 : (0 : Int32).toInt = 0 := by decide
  have z1 : (1 : Int32).toInt = 1 := by decide
  have zm1 : (-1 : Int32).toInt = -1 := by decide
  have i_a__lines : 0 ≤ a__lines.toInt ∧ a__lines.toInt ≤ 40 := h_a__lines
  have i_a__made : 0 ≤ a__made.toInt ∧ a__made.toInt ≤ 60 := h_a__made
  have i_a__next : 0 ≤ a__next.toInt ∧ a__next.toInt ≤ 400 := h_a__next
  have i_a__opened : 0 ≤ a__opened.toInt ∧ a__opened.toInt ≤ 400 := h_a__opened
  have i_a__rules : 0 ≤ a__rules.toInt ∧ a__rules.toInt ≤ 6 := h_a__rules
  have i_a__taped : 0 ≤ a__taped.toInt ∧ a__taped.toInt ≤ 400 := h_a__taped
  have i_a__text : 0 ≤ a__text.toInt ∧ a__text.toInt ≤ 6 := h_a__text
  have i_a__top : 0 ≤ a__top.toInt ∧ a__top.toInt ≤ 64 := h_a__top
  have i_a__undone : 0 ≤ a__undone.toInt ∧ a__undone.toInt ≤ 20 := h_a__undone
  have i_a__x : 0 ≤ a__x.toInt ∧ a__x.toInt ≤ 2147483647 := h_a__x
  have i_p0 : 0 ≤ p0.toInt ∧ p0.toInt ≤ 3 := h_p0
  have i_p1 : (-2147483648) ≤ p1.toInt ∧ p1.toInt ≤ 12 := h_p1
  have K56 : ∀ (n : Nat) (k56_L_4 : Int32) (k56_L_3 : Int32) (k56_C_a_wayBy : Nat → Int32) (k56_C_a_wayThen : Nat → Int32), (12 - k56_L_4.toInt + 1).toNat ≤ n → IV 0 7 k56_L_3 → IV 1 12 k56_L_4 → (2 ≤ (a_said_c 0).toInt) → ∀ (H : Heap) (locs : List Loc), va_P D classes [(a_said, .inl (cs 0, 123, .inl a_said_c)), (a, .inr (12, [.ref a_tape, .int a__taped, .int a__rules, .ref a_sign, .ref a_length, .ref a_clause, .ref a_clauses, .ref a_read, .int a__next, .int a__wrong, .int a__number, .int a__text, .int a__made, .int a__deep, .int a__lines, .ref a_open, .int a__opened, .ref a_stack, .int a__top, .ref a_word, .ref a_said, .int a__x, .ref a_worth, .ref a_mate, .ref a_wasSaid, .int a__undone, .int a__boughtNow, .ref a_wayBy, .ref a_wayThen, .int a__walkMost, .int a__walkGoing, .int a__walkSet, .ref a_kept, .long a__drawX, .ref a_images, .ref a_imageX, .ref a_isMade])), (a_wayBy, .inl (cs 0, 2048, .inl k56_C_a_wayBy)), (a_wayThen, .inl (cs 0, 2048, .inl k56_C_a_wayThen))] H → va_D A [(a_said, .inl (cs 0, 123, .inl a_said_c)), (a, .inr (12, [.ref a_tape, .int a__taped, .int a__rules, .ref a_sign, .ref a_length, .ref a_clause, .ref a_clauses, .ref a_read, .int a__next, .int a__wrong, .int a__number, .int a__text, .int a__made, .int a__deep, .int a__lines, .ref a_open, .int a__opened, .ref a_stack, .int a__top, .ref a_word, .ref a_said, .int a__x, .ref a_worth, .ref a_mate, .ref a_wasSaid, .int a__undone, .int a__boughtNow, .ref a_wayBy, .ref a_wayThen, .int a__walkMost, .int a__walkGoing, .int a__walkSet, .ref a_kept, .long a__drawX, .ref a_images, .ref a_imageX, .ref a_isMade])), (a_wayBy, .inl (cs 0, 2048, .inl k56_C_a_wayBy)), (a_wayThen, .inl (cs 0, 2048, .inl k56_C_a_wayThen))] → va_S A s.heap H locs → ∀ ls : Array Slot, lv_has ls 5 [(4, .int k56_L_4), (3, .int k56_L_3), (0, .ref a), (1, .int p0), (2, .int p1)] → W p l e (headSpec (hz_w yX12_walksTill cX12_walksTill 5 none) ({ frames := 3, cells := 0, slots := 0, locals := 72 })).room s m [.ref a, .int p0, .int p1].toArray below meth c H locs 0 0 (MQ below (va_Qv (fun (u : (Nat → Int32) × (Nat → Nat → Int32)) => True) (fun u t => va_P D classes [(a_said, .inl (cs 0, 123, .inl a_said_c)), (a, .inr (12, [.ref a_tape, .int a__taped, .int a__rules, .ref a_sign, .ref a_length, .ref a_clause, .ref a_clauses, .ref a_read, .int a__next, .int a__wrong, .int a__number, .int a__text, .int a__made, .int a__deep, .int a__lines, .ref a_open, .int a__opened, .ref a_stack, .int a__top, .ref a_word, .ref a_said, .int a__x, .ref a_worth, .ref a_mate, .ref a_wasSaid, .int a__undone, .int a__boughtNow, .ref a_wayBy, .ref a_wayThen, .int a__walkMost, .int a__walkGoing, .int a__walkSet, .ref a_kept, .long a__drawX, .ref a_images, .ref a_imageX, .ref a_isMade])), (a_wayBy, .inl (cs 0, 2048, .inl (u.2 0))), (a_wayThen, .inl (cs 0, 2048, .inl (u.2 1)))] t.heap ∧ va_D A [(a_said, .inl (cs 0, 123, .inl a_said_c)), (a, .inr (12, [.ref a_tape, .int a__taped, .int a__rules, .ref a_sign, .ref a_length, .ref a_clause, .ref a_clauses, .ref a_read, .int a__next, .int a__wrong, .int a__number, .int a__text, .int a__made, .int a__deep, .int a__lines, .ref a_open, .int a__opened, .ref a_stack, .int a__top, .ref a_word, .ref a_said, .int a__x, .ref a_worth, .ref a_mate, .ref a_wasSaid, .int a__undone, .int a__boughtNow, .ref a_wayBy, .ref a_wayThen, .int a__walkMost, .int a__walkGoing, .int a__walkSet, .ref a_kept, .long a__drawX, .ref a_images, .ref a_imageX, .ref a_isMade])), (a_wayBy, .inl (cs 0, 2048, .inl (u.2 0))), (a_wayThen, .inl (cs 0, 2048, .inl (u.2 1)))]) A) [.ref a, .int p0, .int p1].toArray s 0 0 A) (F0 m 56 ls []) := by
    intro n
    induction n with
    | zero =>
      intro k56_L_4 k56_L_3 k56_C_a_wayBy k56_C_a_wayThen hn q56_10 q56_11 x56_0 H locs hP hD hS ls hl
      exact absurd hn (by unfold IV at q56_11; omega)
    | succ n ih56 =>
      intro k56_L_4 k56_L_3 k56_C_a_wayBy k56_C_a_wayThen hn q56_10 q56_11 x56_0 H locs hP hD hS ls hl
      have i_a__lines : 0 ≤ a__lines.toInt ∧ a__lines.toInt ≤ 40 := h_a__lines
      have i_a__made : 0 ≤ a__made.toInt ∧ a__made.toInt ≤ 60 := h_a__made
      have i_a__next : 0 ≤ a__next.toInt ∧ a__next.toInt ≤ 400 := h_a__next
      have i_a__opened : 0 ≤ a__opened.toInt ∧ a__opened.toInt ≤ 400 := h_a__opened
      have i_a__rules : 0 ≤ a__rules.toInt ∧ a__rules.toInt ≤ 6 := h_a__rules
      have i_a__taped : 0 ≤ a__taped.toInt ∧ a__taped.toInt ≤ 400 := h_a__taped
      have i_a__text : 0 ≤ a__text.toInt ∧ a__text.toInt ≤ 6 := h_a__text
      have i_a__top : 0 ≤ a__top.toInt ∧ a__top.toInt ≤ 64 := h_a__top
      have i_a__undone : 0 ≤ a__undone.toInt ∧ a__undone.toInt ≤ 20 := h_a__undone
      have i_a__x : 0 ≤ a__x.toInt ∧ a__x.toInt ≤ 2147483647 := h_a__x
      have i_k56_L_3 : 0 ≤ k56_L_3.toInt ∧ k56_L_3.toInt ≤ 7 := q56_10
      have i_k56_L_4 : 1 ≤ k56_L_4.toInt ∧ k56_L_4.toInt ≤ 12 := q56_11
      have i_p0 : 0 ≤ p0.toInt ∧ p0.toInt ≤ 3 := h_p0
      have i_p1 : (-2147483648) ≤ p1.toInt ∧ p1.toInt ≤ 12 := h_p1
      refine lv_iload hx hb dX12_walksTill_56 (lv_at hl 0 rfl) ?_
      refine lv_iload_n hx hb dX12_walksTill_58 rfl (lv_at hl 4 rfl) ?_
      refine lv_icmp_ge (tgt := 92) hx hb dX12_walksTill_59 (by decide) (fun c1 => ?_) (fun c1 => ?_)
      · have t2 : k56_L_4.toInt ≥ p1.toInt := lin_ge c1 rfl rfl
        refine W.widen (k := 0) (n := 0) (Nat.le_of_ble_eq_true rfl) (Nat.le_of_ble_eq_true rfl) ?_
        exact W.vret hx hb hr (fun t ht hW => ⟨⟨(fun k => match k with | 0 => 0 | _ => 0, fun k => match k with | 0 => k56_C_a_wayBy | 1 => k56_C_a_wayThen | _ => fun _ => 0), rfl, (trivial), by rw [ht]; exact hP.sub [0, 1, 2, 3] rfl, hD.sub [0, 1, 2, 3] (by decide) rfl⟩, hS.F ht⟩) hS.2.2 dX12_walksTill_92
      · have t3 : k56_L_4.toInt < p1.toInt := lin_geN c1 rfl rfl
        have h4 : IV 1 11 k56_L_4 := iv_lt1 (Int32.not_le.mp c1) q56_11 h_p1 (by decide)
        have ii5 : 1 ≤ k56_L_4.toInt ∧ k56_L_4.toInt ≤ 11 := h4
        have h6 : IV 2 12 p1 := iv_lt2 (Int32.not_le.mp c1) q56_11 h_p1 (by decide)
        have ii7 : 2 ≤ p1.toInt ∧ p1.toInt ≤ 12 := h6
        refine lv_aload_n hx hb dX12_walksTill_62 rfl (lv_at hl 2 rfl) ?_
        refine lv_aload_n hx hb dX12_walksTill_63 rfl (lv_at hl 2 rfl) ?_
        refine va_get (D := D) (ci := 12) (v := .ref a_said) (C := RX12) (T := TX12) (N := 37) hx hb hT i_X12 hown hK hP 1 rfl rfl 20 (by decide) (hT _ q_185) (fun _ h9 => h9) rfl dX12_walksTill_64 ?_
        refine lv_iconst (v := 3) hx hb dX12_walksTill_67 (by decide) ?_
        refine va_iald hx hb hK hP 0 0 rfl rfl (iv_vc (by decide)) dX12_walksTill_68 ?_
        refine lv_topi (fun v8 ev8 => ?_)
        have h9 : IV 0 200 v8 := (by rw [ev8]; exact bs_i3 hf0)
        have ii10 : 0 ≤ v8.toInt ∧ v8.toInt ≤ 200 := h9
        have lv8 : v8.toInt = (a_said_c 3).toInt := by rw [ev8]; rfl
        refine lv_iload hx hb dX12_walksTill_69 (lv_at hl 0 rfl) ?_
        refine lv_iadd hx hb dX12_walksTill_71 ?_
        refine lv_topi (fun v11 ev11 => ?_)
        have hv11 : IV 1 211 v11 := iv_add ev11 h9 h4 (by decide) (by decide)
        have ii12 : 1 ≤ v11.toInt ∧ v11.toInt ≤ 211 := hv11
        have lv11 : v11.toInt = v8.toInt + k56_L_4.toInt := lin_add ev11 h9 h4 rfl rfl (by decide) (by decide)
        refine lv_iload hx hb dX12_walksTill_72 (lv_at hl 0 rfl) ?_
        refine lv_iconst (v := 1) hx hb dX12_walksTill_74 (by decide) ?_
        refine lv_icmp_ne (tgt := 82) hx hb dX12_walksTill_75 (by decide) (fun c13 => ?_) (fun c13 => ?_)
        · have t14 : k56_L_4.toInt ≠ 1 := lin_ne c13 rfl (by decide)
          have h15 : IV 2 11 k56_L_4 := iv_neL c13 h4 (by decide)
          have ii16 : 2 ≤ k56_L_4.toInt ∧ k56_L_4.toInt ≤ 11 := h15
          refine lv_iconst (v := 0) hx hb dX12_walksTill_82 (by decide) ?_
          have hFc := va_free (wc := [(a_said, .inl (cs 0, 123, .inl a_said_c)), (a, .inr (12, [.ref a_tape, .int a__taped, .int a__rules, .ref a_sign, .ref a_length, .ref a_clause, .ref a_clauses, .ref a_read, .int a__next, .int a__wrong, .int a__number, .int a__text, .int a__made, .int a__deep, .int a__lines, .ref a_open, .int a__opened, .ref a_stack, .int a__top, .ref a_word, .ref a_said, .int a__x, .ref a_worth, .ref a_mate, .ref a_wasSaid, .int a__undone, .int a__boughtNow, .ref a_wayBy, .ref a_wayThen, .int a__walkMost, .int a__walkGoing, .int a__walkSet, .ref a_kept, .long a__drawX, .ref a_images, .ref a_imageX, .ref a_isMade])), (a_wayThen, .inl (cs 0, 2048, .inl k56_C_a_wayThen)), (a_wayBy, .inl (cs 0, 2048, .inl k56_C_a_wayBy))]) hD hS hA [0,1,3,2] rfl
          refine va_callv (va_runV (As := [.int v11, .int 0]) (rest := []) ⟨hx, hb, hml, hown, hT⟩ (c_X12_walksOn l D cs kK kV a v11 0 a_said a_said_c a_tape a__taped a__rules a_sign a_length a_clause a_clauses a_read a__next a__wrong a__number a__text a__made a__deep a__lines a_open a__opened a_stack a__top a_word a__x a_worth a_mate a_wasSaid a__undone a__boughtNow a_wayBy a_wayThen a__walkMost a__walkGoing a__walkSet a_kept a__drawX a_images a_imageX a_isMade k56_C_a_wayThen k56_C_a_wayBy ((iv_w hv11 (by decide) (by decide))) ((iv_c (by decide))) h_a__taped h_a__rules h_a__next h_a__text h_a__made h_a__lines h_a__opened h_a__top h_a__x h_a__undone hf0 x56_0 H.size) (cwV 2 hT (hz_gV q_1246 q_1247 q_1248 q_701 q_1249) rfl rfl rfl (by decide +kernel) ⟨(Nat.le_of_ble_eq_true rfl), (Nat.le_of_ble_eq_true rfl)⟩) ⟨hz_C.blind, va_recv hK hP (ci := 12) (q0 := 1) rfl rfl, hz_C.mk (hP.sub (ws' := [(a_said, .inl (cs 0, 123, .inl a_said_c)), (a, .inr (12, [.ref a_tape, .int a__taped, .int a__rules, .ref a_sign, .ref a_length, .ref a_clause, .ref a_clauses, .ref a_read, .int a__next, .int a__wrong, .int a__number, .int a__text, .int a__made, .int a__deep, .int a__lines, .ref a_open, .int a__opened, .ref a_stack, .int a__top, .ref a_word, .ref a_said, .int a__x, .ref a_worth, .ref a_mate, .ref a_wasSaid, .int a__undone, .int a__boughtNow, .ref a_wayBy, .ref a_wayThen, .int a__walkMost, .int a__walkGoing, .int a__walkSet, .ref a_kept, .long a__drawX, .ref a_images, .ref a_imageX, .ref a_isMade])), (a_wayThen, .inl (cs 0, 2048, .inl k56_C_a_wayThen)), (a_wayBy, .inl (cs 0, 2048, .inl k56_C_a_wayBy))]) [0,1,3,2] rfl) (hD.sub (ws' := [(a_said, .inl (cs 0, 123, .inl a_said_c)), (a, .inr (12, [.ref a_tape, .int a__taped, .int a__rules, .ref a_sign, .ref a_length, .ref a_clause, .ref a_clauses, .ref a_read, .int a__next, .int a__wrong, .int a__number, .int a__text, .int a__made, .int a__deep, .int a__lines, .ref a_open, .int a__opened, .ref a_stack, .int a__top, .ref a_word, .ref a_said, .int a__x, .ref a_worth, .ref a_mate, .ref a_wasSaid, .int a__undone, .int a__boughtNow, .ref a_wayBy, .ref a_wayThen, .int a__walkMost, .int a__walkGoing, .int a__walkSet, .ref a_kept, .long a__drawX, .ref a_images, .ref a_imageX, .ref a_isMade])), (a_wayThen, .inl (cs 0, 2048, .inl k56_C_a_wayThen)), (a_wayBy, .inl (cs 0, 2048, .inl k56_C_a_wayBy))]) [0,1,3,2] (by decide) rfl) hE hS hFc⟩ rfl rfl hl.1 rfl (lv_room (Nat.le_of_ble_eq_true rfl)) dX12_walksTill_83 ⟨(Nat.le_of_ble_eq_true rfl), (Nat.le_of_ble_eq_true rfl)⟩) hS (fun q _ h => hFc q h) hFc (fun o18 t H1 locs ht hvm hw hB hz1 hk1 hS => ?_)
          obtain ⟨hP1, hD1⟩ := hB
          rw [ht] at hP1
          obtain ⟨hP, hD⟩ := va_join (wr := []) (w1 := [(a_said, .inl (cs 0, 123, .inl a_said_c)), (a, .inr (12, [.ref a_tape, .int a__taped, .int a__rules, .ref a_sign, .ref a_length, .ref a_clause, .ref a_clauses, .ref a_read, .int a__next, .int a__wrong, .int a__number, .int a__text, .int a__made, .int a__deep, .int a__lines, .ref a_open, .int a__opened, .ref a_stack, .int a__top, .ref a_word, .ref a_said, .int a__x, .ref a_worth, .ref a_mate, .ref a_wasSaid, .int a__undone, .int a__boughtNow, .ref a_wayBy, .ref a_wayThen, .int a__walkMost, .int a__walkGoing, .int a__walkSet, .ref a_kept, .long a__drawX, .ref a_images, .ref a_imageX, .ref a_isMade])), (a_wayThen, .inl (cs 0, 2048, .inl (o18.2 1))), (a_wayBy, .inl (cs 0, 2048, .inl (o18.2 0)))]) hP hD [0, 1, 3, 2] [] rfl rfl (by decide) (by decide) hk1 hFc hP1 hD1
          generalize H1 = H at hP hS ⊢
          have hP : va_P D classes [(a_said, .inl (cs 0, 123, .inl a_said_c)), (a, .inr (12, [.ref a_tape, .int a__taped, .int a__rules, .ref a_sign, .ref a_length, .ref a_clause, .ref a_clauses, .ref a_read, .int a__next, .int a__wrong, .int a__number, .int a__text, .int a__made, .int a__deep, .int a__lines, .ref a_open, .int a__opened, .ref a_stack, .int a__top, .ref a_word, .ref a_said, .int a__x, .ref a_worth, .ref a_mate, .ref a_wasSaid, .int a__undone, .int a__boughtNow, .ref a_wayBy, .ref a_wayThen, .int a__walkMost, .int a__walkGoing, .int a__walkSet, .ref a_kept, .long a__drawX, .ref a_images, .ref a_imageX, .ref a_isMade])), (a_wayThen, .inl (cs 0, 2048, .inl (o18.2 1))), (a_wayBy, .inl (cs 0, 2048, .inl (o18.2 0)))] H := hP
          have hD : va_D A [(a_said, .inl (cs 0, 123, .inl a_said_c)), (a, .inr (12, [.ref a_tape, .int a__taped, .int a__rules, .ref a_sign, .ref a_length, .ref a_clause, .ref a_clauses, .ref a_read, .int a__next, .int a__wrong, .int a__number, .int a__text, .int a__made, .int a__deep, .int a__lines, .ref a_open, .int a__opened, .ref a_stack, .int a__top, .ref a_word, .ref a_said, .int a__x, .ref a_worth, .ref a_mate, .ref a_wasSaid, .int a__undone, .int a__boughtNow, .ref a_wayBy, .ref a_wayThen, .int a__walkMost, .int a__walkGoing, .int a__walkSet, .ref a_kept, .long a__drawX, .ref a_images, .ref a_imageX, .ref a_isMade])), (a_wayThen, .inl (cs 0, 2048, .inl (o18.2 1))), (a_wayBy, .inl (cs 0, 2048, .inl (o18.2 0)))] := hD
          clear hk1 hFc hP1 hD1 hz1
          obtain ⟨v19, ev19⟩ : ∃ z : Int32, z = k56_L_4 + 1 := ⟨_, rfl⟩
          have hv19 : IV 3 12 v19 := iv_add ev19 h15 (iv_c (a := 1) (b := 1) (by decide)) (by decide) (by decide)
          have dv19 : v19.toInt = k56_L_4.toInt + 1 := iv_addE ev19 h15 (iv_c (a := 1) (b := 1) (by decide)) (by decide) (by decide) (by decide)
          refine lv_iinc (v := v19) (lv' := [(4, .int v19), (3, .int k56_L_3), (0, .ref a), (1, .int p0), (2, .int p1)]) hx hb dX12_walksTill_86 hl (k := 0) rfl (by rw [ev19]; rfl) (by decide) rfl (fun ls hl => ?_)
          refine lv_goto (tgt := 56) hx hb dX12_walksTill_89 (by decide) ?_
          exact ih56 v19 k56_L_3 (o18.2 0) (o18.2 1) (by have h9 := h15; unfold IV at h9; have := dv19; omega) q56_10 (iv_w hv19 (by decide) (by decide)) x56_0 H locs (hP.sub (ws' := [(a_said, .inl (cs 0, 123, .inl a_said_c)), (a, .inr (12, [.ref a_tape, .int a__taped, .int a__rules, .ref a_sign, .ref a_length, .ref a_clause, .ref a_clauses, .ref a_read, .int a__next, .int a__wrong, .int a__number, .int a__text, .int a__made, .int a__deep, .int a__lines, .ref a_open, .int a__opened, .ref a_stack, .int a__top, .ref a_word, .ref a_said, .int a__x, .ref a_worth, .ref a_mate, .ref a_wasSaid, .int a__undone, .int a__boughtNow, .ref a_wayBy, .ref a_wayThen, .int a__walkMost, .int a__walkGoing, .int a__walkSet, .ref a_kept, .long a__drawX, .ref a_images, .ref a_imageX, .ref a_isMade])), (a_wayBy, .inl (cs 0, 2048, .inl (o18.2 0))), (a_wayThen, .inl (cs 0, 2048, .inl (o18.2 1)))]) [0, 1, 3, 2] rfl) (hD.sub (ws' := [(a_said, .inl (cs 0, 123, .inl a_said_c)), (a, .inr (12, [.ref a_tape, .int a__taped, .int a__rules, .ref a_sign, .ref a_length, .ref a_clause, .ref a_clauses, .ref a_read, .int a__next, .int a__wrong, .int a__number, .int a__text, .int a__made, .int a__deep, .int a__lines, .ref a_open, .int a__opened, .ref a_stack, .int a__top, .ref a_word, .ref a_said, .int a__x, .ref a_worth, .ref a_mate, .ref a_wasSaid, .int a__undone, .int a__boughtNow, .ref a_wayBy, .ref a_wayThen, .int a__walkMost, .int a__walkGoing, .int a__walkSet, .ref a_kept, .long a__drawX, .ref a_images, .ref a_imageX, .ref a_isMade])), (a_wayBy, .inl (cs 0, 2048, .inl (o18.2 0))), (a_wayThen, .inl (cs 0, 2048, .inl (o18.2 1)))]) [0, 1, 3, 2] (by decide) rfl) hS ls (lv_sub hl [0, 1, 2, 3, 4] rfl)
        · have t20 : k56_L_4.toInt = 1 := lin_eqN c13 rfl (by decide)
          have h21 : IV 1 1 k56_L_4 := iv_eq1 c13 h4 (iv_c (a := 1) (b := 1) (by decide)) (by decide) (by decide)
          have ii22 : 1 ≤ k56_L_4.toInt ∧ k56_L_4.toInt ≤ 1 := h21
          refine lv_iconst (v := 1) hx hb dX12_walksTill_78 (by decide) ?_
          refine lv_goto (tgt := 83) hx hb dX12_walksTill_79 (by decide) ?_
          have hFc := va_free (wc := [(a_said, .inl (cs 0, 123, .inl a_said_c)), (a, .inr (12, [.ref a_tape, .int a__taped, .int a__rules, .ref a_sign, .ref a_length, .ref a_clause, .ref a_clauses, .ref a_read, .int a__next, .int a__wrong, .int a__number, .int a__text, .int a__made, .int a__deep, .int a__lines, .ref a_open, .int a__opened, .ref a_stack, .int a__top, .ref a_word, .ref a_said, .int a__x, .ref a_worth, .ref a_mate, .ref a_wasSaid, .int a__undone, .int a__boughtNow, .ref a_wayBy, .ref a_wayThen, .int a__walkMost, .int a__walkGoing, .int a__walkSet, .ref a_kept, .long a__drawX, .ref a_images, .ref a_imageX, .ref a_isMade])), (a_wayThen, .inl (cs 0, 2048, .inl k56_C_a_wayThen)), (a_wayBy, .inl (cs 0, 2048, .inl k56_C_a_wayBy))]) hD hS hA [0,1,3,2] rfl
          refine va_callv (va_runV (As := [.int v11, .int 1]) (rest := []) ⟨hx, hb, hml, hown, hT⟩ (c_X12_walksOn l D cs kK kV a v11 1 a_said a_said_c a_tape a__taped a__rules a_sign a_length a_clause a_clauses a_read a__next a__wrong a__number a__text a__made a__deep a__lines a_open a__opened a_stack a__top a_word a__x a_worth a_mate a_wasSaid a__undone a__boughtNow a_wayBy a_wayThen a__walkMost a__walkGoing a__walkSet a_kept a__drawX a_images a_imageX a_isMade k56_C_a_wayThen k56_C_a_wayBy ((iv_w hv11 (by decide) (by decide))) ((iv_c (by decide))) h_a__taped h_a__rules h_a__next h_a__text h_a__made h_a__lines h_a__opened h_a__top h_a__x h_a__undone hf0 x56_0 H.size) (cwV 2 hT (hz_gV q_1246 q_1247 q_1248 q_701 q_1249) rfl rfl rfl (by decide +kernel) ⟨(Nat.le_of_ble_eq_true rfl), (Nat.le_of_ble_eq_true rfl)⟩) ⟨hz_C.blind, va_recv hK hP (ci := 12) (q0 := 1) rfl rfl, hz_C.mk (hP.sub (ws' := [(a_said, .inl (cs 0, 123, .inl a_said_c)), (a, .inr (12, [.ref a_tape, .int a__taped, .int a__rules, .ref a_sign, .ref a_length, .ref a_clause, .ref a_clauses, .ref a_read, .int a__next, .int a__wrong, .int a__number, .int a__text, .int a__made, .int a__deep, .int a__lines, .ref a_open, .int a__opened, .ref a_stack, .int a__top, .ref a_word, .ref a_said, .int a__x, .ref a_worth, .ref a_mate, .ref a_wasSaid, .int a__undone, .int a__boughtNow, .ref a_wayBy, .ref a_wayThen, .int a__walkMost, .int a__walkGoing, .int a__walkSet, .ref a_kept, .long a__drawX, .ref a_images, .ref a_imageX, .ref a_isMade])), (a_wayThen, .inl (cs 0, 2048, .inl k56_C_a_wayThen)), (a_wayBy, .inl (cs 0, 2048, .inl k56_C_a_wayBy))]) [0,1,3,2] rfl) (hD.sub (ws' := [(a_said, .inl (cs 0, 123, .inl a_said_c)), (a, .inr (12, [.ref a_tape, .int a__taped, .int a__rules, .ref a_sign, .ref a_length, .ref a_clause, .ref a_clauses, .ref a_read, .int a__next, .int a__wrong, .int a__number, .int a__text, .int a__made, .int a__deep, .int a__lines, .ref a_open, .int a__opened, .ref a_stack, .int a__top, .ref a_word, .ref a_said, .int a__x, .ref a_worth, .ref a_mate, .ref a_wasSaid, .int a__undone, .int a__boughtNow, .ref a_wayBy, .ref a_wayThen, .int a__walkMost, .int a__walkGoing, .int a__walkSet, .ref a_kept, .long a__drawX, .ref a_images, .ref a_imageX, .ref a_isMade])), (a_wayThen, .inl (cs 0, 2048, .inl k56_C_a_wayThen)), (a_wayBy, .inl (cs 0, 2048, .inl k56_C_a_wayBy))]) [0,1,3,2] (by decide) rfl) hE hS hFc⟩ rfl rfl hl.1 rfl (lv_room (Nat.le_of_ble_eq_true rfl)) dX12_walksTill_83 ⟨(Nat.le_of_ble_eq_true rfl), (Nat.le_of_ble_eq_true rfl)⟩) hS (fun q _ h => hFc q h) hFc (fun o24 t H1 locs ht hvm hw hB hz1 hk1 hS => ?_)
          obtain ⟨hP1, hD1⟩ := hB
          rw [ht] at hP1
          obtain ⟨hP, hD⟩ := va_join (wr := []) (w1 := [(a_said, .inl (cs 0, 123, .inl a_said_c)), (a, .inr (12, [.ref a_tape, .int a__taped, .int a__rules, .ref a_sign, .ref a_length, .ref a_clause, .ref a_clauses, .ref a_read, .int a__next, .int a__wrong, .int a__number, .int a__text, .int a__made, .int a__deep, .int a__lines, .ref a_open, .int a__opened, .ref a_stack, .int a__top, .ref a_word, .ref a_said, .int a__x, .ref a_worth, .ref a_mate, .ref a_wasSaid, .int a__undone, .int a__boughtNow, .ref a_wayBy, .ref a_wayThen, .int a__walkMost, .int a__walkGoing, .int a__walkSet, .ref a_kept, .long a__drawX, .ref a_images, .ref a_imageX, .ref a_isMade])), (a_wayThen, .inl (cs 0, 2048, .inl (o24.2 1))), (a_wayBy, .inl (cs 0, 2048, .inl (o24.2 0)))]) hP hD [0, 1, 3, 2] [] rfl rfl (by decide) (by decide) hk1 hFc hP1 hD1
          generalize H1 = H at hP hS ⊢
          have hP : va_P D classes [(a_said, .inl (cs 0, 123, .inl a_said_c)), (a, .inr (12, [.ref a_tape, .int a__taped, .int a__rules, .ref a_sign, .ref a_length, .ref a_clause, .ref a_clauses, .ref a_read, .int a__next, .int a__wrong, .int a__number, .int a__text, .int a__made, .int a__deep, .int a__lines, .ref a_open, .int a__opened, .ref a_stack, .int a__top, .ref a_word, .ref a_said, .int a__x, .ref a_worth, .ref a_mate, .ref a_wasSaid, .int a__undone, .int a__boughtNow, .ref a_wayBy, .ref a_wayThen, .int a__walkMost, .int a__walkGoing, .int a__walkSet, .ref a_kept, .long a__drawX, .ref a_images, .ref a_imageX, .ref a_isMade])), (a_wayThen, .inl (cs 0, 2048, .inl (o24.2 1))), (a_wayBy, .inl (cs 0, 2048, .inl (o24.2 0)))] H := hP
          have hD : va_D A [(a_said, .inl (cs 0, 123, .inl a_said_c)), (a, .inr (12, [.ref a_tape, .int a__taped, .int a__rules, .ref a_sign, .ref a_length, .ref a_clause, .ref a_clauses, .ref a_read, .int a__next, .int a__wrong, .int a__number, .int a__text, .int a__made, .int a__deep, .int a__lines, .ref a_open, .int a__opened, .ref a_stack, .int a__top, .ref a_word, .ref a_said, .int a__x, .ref a_worth, .ref a_mate, .ref a_wasSaid, .int a__undone, .int a__boughtNow, .ref a_wayBy, .ref a_wayThen, .int a__walkMost, .int a__walkGoing, .int a__walkSet, .ref a_kept, .long a__drawX, .ref a_images, .ref a_imageX, .ref a_isMade])), (a_wayThen, .inl (cs 0, 2048, .inl (o24.2 1))), (a_wayBy, .inl (cs 0, 2048, .inl (o24.2 0)))] := hD
          clear hk1 hFc hP1 hD1 hz1
          obtain ⟨v25, ev25⟩ : ∃ z : Int32, z = k56_L_4 + 1 := ⟨_, rfl⟩
          have hv25 : IV 2 2 v25 := iv_add ev25 h21 (iv_c (a := 1) (b := 1) (by decide)) (by decide) (by decide)
          have dv25 : v25.toInt = k56_L_4.toInt + 1 := iv_addE ev25 h21 (iv_c (a := 1) (b := 1) (by decide)) (by decide) (by decide) (by decide)
          refine lv_iinc (v := v25) (lv' := [(4, .int v25), (3, .int k56_L_3), (0, .ref a), (1, .int p0), (2, .int p1)]) hx hb dX12_walksTill_86 hl (k := 0) rfl (by rw [ev25]; rfl) (by decide) rfl (fun ls hl => ?_)
          refine lv_goto (tgt := 56) hx hb dX12_walksTill_89 (by decide) ?_
          exact ih56 v25 k56_L_3 (o24.2 0) (o24.2 1) (by have h9 := h21; unfold IV at h9; have := dv25; omega) q56_10 (iv_w hv25 (by decide) (by decide)) x56_0 H locs (hP.sub (ws' := [(a_said, .inl (cs 0, 123, .inl a_said_c)), (a, .inr (12, [.ref a_tape, .int a__taped, .int a__rules, .ref a_sign, .ref a_length, .ref a_clause, .ref a_clauses, .ref a_read, .int a__next, .int a__wrong, .int a__number, .int a__text, .int a__made, .int a__deep, .int a__lines, .ref a_open, .int a__opened, .ref a_stack, .int a__top, .ref a_word, .ref a_said, .int a__x, .ref a_worth, .ref a_mate, .ref a_wasSaid, .int a__undone, .int a__boughtNow, .ref a_wayBy, .ref a_wayThen, .int a__walkMost, .int a__walkGoing, .int a__walkSet, .ref a_kept, .long a__drawX, .ref a_images, .ref a_imageX, .ref a_isMade])), (a_wayBy, .inl (cs 0, 2048, .inl (o24.2 0))), (a_wayThen, .inl (cs 0, 2048, .inl (o24.2 1)))]) [0, 1, 3, 2] rfl) (hD.sub (ws' := [(a_said, .inl (cs 0, 123, .inl a_said_c)), (a, .inr (12, [.ref a_tape, .int a__taped, .int a__rules, .ref a_sign, .ref a_length, .ref a_clause, .ref a_clauses, .ref a_read, .int a__next, .int a__wrong, .int a__number, .int a__text, .int a__made, .int a__deep, .int a__lines, .ref a_open, .int a__opened, .ref a_stack, .int a__top, .ref a_word, .ref a_said, .int a__x, .ref a_worth, .ref a_mate, .ref a_wasSaid, .int a__undone, .int a__boughtNow, .ref a_wayBy, .ref a_wayThen, .int a__walkMost, .int a__walkGoing, .int a__walkSet, .ref a_kept, .long a__drawX, .ref a_images, .ref a_imageX, .ref a_isMade])), (a_wayBy, .inl (cs 0, 2048, .inl (o24.2 0))), (a_wayThen, .inl (cs 0, 2048, .inl (o24.2 1)))]) [0, 1, 3, 2] (by decide) rfl) hS ls (lv_sub hl [0, 1, 2, 3, 4] rfl)
  have K2 : ∀ (n : Nat) (k2_L_3 : Int32) (k2_C_a_wayBy : Nat → Int32), (2048 - k2_L_3.toInt + 1).toNat ≤ n → IV 0 2048 k2_L_3 → ∀ (H : Heap) (locs : List Loc), va_P D classes [(a_said, .inl (cs 0, 123, .inl a_said_c)), (a, .inr (12, [.ref a_tape, .int a__taped, .int a__rules, .ref a_sign, .ref a_length, .ref a_clause, .ref a_clauses, .ref a_read, .int a__next, .int a__wrong, .int a__number, .int a__text, .int a__made, .int a__deep, .int a__lines, .ref a_open, .int a__opened, .ref a_stack, .int a__top, .ref a_word, .ref a_said, .int a__x, .ref a_worth, .ref a_mate, .ref a_wasSaid, .int a__undone, .int a__boughtNow, .ref a_wayBy, .ref a_wayThen, .int a__walkMost, .int a__walkGoing, .int a__walkSet, .ref a_kept, .long a__drawX, .ref a_images, .ref a_imageX, .ref a_isMade])), (a_wayBy, .inl (cs 0, 2048, .inl k2_C_a_wayBy)), (a_wayThen, .inl (cs 0, 2048, .inl a_wayThen_c))] H → va_D A [(a_said, .inl (cs 0, 123, .inl a_said_c)), (a, .inr (12, [.ref a_tape, .int a__taped, .int a__rules, .ref a_sign, .ref a_length, .ref a_clause, .ref a_clauses, .ref a_read, .int a__next, .int a__wrong, .int a__number, .int a__text, .int a__made, .int a__deep, .int a__lines, .ref a_open, .int a__opened, .ref a_stack, .int a__top, .ref a_word, .ref a_said, .int a__x, .ref a_worth, .ref a_mate, .ref a_wasSaid, .int a__undone, .int a__boughtNow, .ref a_wayBy, .ref a_wayThen, .int a__walkMost, .int a__walkGoing, .int a__walkSet, .ref a_kept, .long a__drawX, .ref a_images, .ref a_imageX, .ref a_isMade])), (a_wayBy, .inl (cs 0, 2048, .inl k2_C_a_wayBy)), (a_wayThen, .inl (cs 0, 2048, .inl a_wayThen_c))] → va_S A s.heap H locs → ∀ ls : Array Slot, lv_has ls 5 [(3, .int k2_L_3), (0, .ref a), (1, .int p0), (2, .int p1)] → W p l e (headSpec (hz_w yX12_walksTill cX12_walksTill 5 none) ({ frames := 3, cells := 0, slots := 0, locals := 72 })).room s m [.ref a, .int p0, .int p1].toArray below meth c H locs 0 0 (MQ below (va_Qv (fun (u : (Nat → Int32) × (Nat → Nat → Int32)) => True) (fun u t => va_P D classes [(a_said, .inl (cs 0, 123, .inl a_said_c)), (a, .inr (12, [.ref a_tape, .int a__taped, .int a__rules, .ref a_sign, .ref a_length, .ref a_clause, .ref a_clauses, .ref a_read, .int a__next, .int a__wrong, .int a__number, .int a__text, .int a__made, .int a__deep, .int a__lines, .ref a_open, .int a__opened, .ref a_stack, .int a__top, .ref a_word, .ref a_said, .int a__x, .ref a_worth, .ref a_mate, .ref a_wasSaid, .int a__undone, .int a__boughtNow, .ref a_wayBy, .ref a_wayThen, .int a__walkMost, .int a__walkGoing, .int a__walkSet, .ref a_kept, .long a__drawX, .ref a_images, .ref a_imageX, .ref a_isMade])), (a_wayBy, .inl (cs 0, 2048, .inl (u.2 0))), (a_wayThen, .inl (cs 0, 2048, .inl (u.2 1)))] t.heap ∧ va_D A [(a_said, .inl (cs 0, 123, .inl a_said_c)), (a, .inr (12, [.ref a_tape, .int a__taped, .int a__rules, .ref a_sign, .ref a_length, .ref a_clause, .ref a_clauses, .ref a_read, .int a__next, .int a__wrong, .int a__number, .int a__text, .int a__made, .int a__deep, .int a__lines, .ref a_open, .int a__opened, .ref a_stack, .int a__top, .ref a_word, .ref a_said, .int a__x, .ref a_worth, .ref a_mate, .ref a_wasSaid, .int a__undone, .int a__boughtNow, .ref a_wayBy, .ref a_wayThen, .int a__walkMost, .int a__walkGoing, .int a__walkSet, .ref a_kept, .long a__drawX, .ref a_images, .ref a_imageX, .ref a_isMade])), (a_wayBy, .inl (cs 0, 2048, .inl (u.2 0))), (a_wayThen, .inl (cs 0, 2048, .inl (u.2 1)))]) A) [.ref a, .int p0, .int p1].toArray s 0 0 A) (F0 m 2 ls []) := by
    intro n
    induction n with
    | zero =>
      intro k2_L_3 k2_C_a_wayBy hn q2_10 H locs hP hD hS ls hl
      exact absurd hn (by unfold IV at q2_10; omega)
    | succ n ih2 =>
      intro k2_L_3 k2_C_a_wayBy hn q2_10 H locs hP hD hS ls hl
      have i_a__lines : 0 ≤ a__lines.toInt ∧ a__lines.toInt ≤ 40 := h_a__lines
      have i_a__made : 0 ≤ a__made.toInt ∧ a__made.toInt ≤ 60 := h_a__made
      have i_a__next : 0 ≤ a__next.toInt ∧ a__next.toInt ≤ 400 := h_a__next
      have i_a__opened : 0 ≤ a__opened.toInt ∧ a__opened.toInt ≤ 400 := h_a__opened
      have i_a__rules : 0 ≤ a__rules.toInt ∧ a__rules.toInt ≤ 6 := h_a__rules
      have i_a__taped : 0 ≤ a__taped.toInt ∧ a__taped.toInt ≤ 400 := h_a__taped
      have i_a__text : 0 ≤ a__text.toInt ∧ a__text.toInt ≤ 6 := h_a__text
      have i_a__top : 0 ≤ a__top.toInt ∧ a__top.toInt ≤ 64 := h_a__top
      have i_a__undone : 0 ≤ a__undone.toInt ∧ a__undone.toInt ≤ 20 := h_a__undone
      have i_a__x : 0 ≤ a__x.toInt ∧ a__x.toInt ≤ 2147483647 := h_a__x
      have i_k2_L_3 : 0 ≤ k2_L_3.toInt ∧ k2_L_3.toInt ≤ 2048 := q2_10
      have i_p0 : 0 ≤ p0.toInt ∧ p0.toInt ≤ 3 := h_p0
      have i_p1 : (-2147483648) ≤ p1.toInt ∧ p1.toInt ≤ 12 := h_p1
      refine lv_iload_n hx hb dX12_walksTill_2 rfl (lv_at hl 0 rfl) ?_
      refine lv_sipush (v := 2048) hx hb dX12_walksTill_3 (by decide) ?_
      refine lv_icmp_ge (tgt := 22) hx hb dX12_walksTill_6 (by decide) (fun c26 => ?_) (fun c26 => ?_)
      · have t27 : k2_L_3.toInt ≥ 2048 := lin_ge c26 rfl (by decide)
        have h28 : IV 2048 2048 k2_L_3 := iv_le2 c26 (iv_c (a := 2048) (b := 2048) (by decide)) q2_10 (by decide)
        have ii29 : 2048 ≤ k2_L_3.toInt ∧ k2_L_3.toInt ≤ 2048 := h28
        refine lv_aload_n hx hb dX12_walksTill_22 rfl (lv_at hl 1 rfl) ?_
        refine lv_iload_n hx hb dX12_walksTill_23 rfl (lv_at hl 2 rfl) ?_
        refine lv_iconst (v := 1) hx hb dX12_walksTill_24 (by decide) ?_
        refine va_calli (va_runV (As := [.int p0, .int 1]) (rest := []) ⟨hx, hb, hml, hown, hT⟩ (c_X12_buyerOf l D cs kK kV a p0 1 a_said a_said_c a_tape a__taped a__rules a_sign a_length a_clause a_clauses a_read a__next a__wrong a__number a__text a__made a__deep a__lines a_open a__opened a_stack a__top a_word a__x a_worth a_mate a_wasSaid a__undone a__boughtNow a_wayBy a_wayThen a__walkMost a__walkGoing a__walkSet a_kept a__drawX a_images a_imageX a_isMade h_p0 ((iv_c (by decide))) h_a__taped h_a__rules h_a__next h_a__text h_a__made h_a__lines h_a__opened h_a__top h_a__x h_a__undone hf0) (cwV 2 hT (hz_gV q_1120 q_1121 q_1122 q_701 q_1123) rfl rfl rfl (by decide +kernel) ⟨(Nat.le_of_ble_eq_true rfl), (Nat.le_of_ble_eq_true rfl)⟩) ⟨hz_P.blind, va_recv hK hP (ci := 12) (q0 := 1) rfl rfl, hz_P.mk (hP.sub (ws' := [(a_said, .inl (cs 0, 123, .inl a_said_c)), (a, .inr (12, [.ref a_tape, .int a__taped, .int a__rules, .ref a_sign, .ref a_length, .ref a_clause, .ref a_clauses, .ref a_read, .int a__next, .int a__wrong, .int a__number, .int a__text, .int a__made, .int a__deep, .int a__lines, .ref a_open, .int a__opened, .ref a_stack, .int a__top, .ref a_word, .ref a_said, .int a__x, .ref a_worth, .ref a_mate, .ref a_wasSaid, .int a__undone, .int a__boughtNow, .ref a_wayBy, .ref a_wayThen, .int a__walkMost, .int a__walkGoing, .int a__walkSet, .ref a_kept, .long a__drawX, .ref a_images, .ref a_imageX, .ref a_isMade]))]) [0,1] rfl) hE hS⟩ rfl rfl hl.1 rfl (lv_room (Nat.le_of_ble_eq_true rfl)) dX12_walksTill_25 ⟨(Nat.le_of_ble_eq_true rfl), (Nat.le_of_ble_eq_true rfl)⟩) hS (fun _ _ h => h.elim) (fun _ h => h.elim) (fun r30 u t H1 locs ht hvm hw hB hz1 hk1 hS => ?_)
        have hP := hz_keep hP hk1
        clear hk1 hB hz1
        generalize H1 = H at hP hS ⊢
        rcases hw with ⟨x31, x32⟩
        refine lv_istore_n (lv' := [(3, .int r30), (0, .ref a), (1, .int p0), (2, .int p1)]) hx hb dX12_walksTill_28 rfl hl (by decide) rfl (fun ls hl => ?_)
        have sp := x32 (by decide) (by omega)
        have q9 := bs_b hf0 (by omega)
        have q0 := bs_i0 hf0
        unfold IV at q0
        have h33 : IV 0 7 r30 := ⟨by omega, by omega⟩
        have ii34 : 0 ≤ r30.toInt ∧ r30.toInt ≤ 7 := h33
        refine lv_aload_n hx hb dX12_walksTill_29 rfl (lv_at hl 1 rfl) ?_
        refine va_get (D := D) (ci := 12) (v := .ref a_wayBy) (C := RX12) (T := TX12) (N := 37) hx hb hT i_X12 hown hK hP 1 rfl rfl 27 (by decide) (hT _ q_189) (fun _ h9 => h9) rfl dX12_walksTill_30 ?_
        refine lv_iload_n hx hb dX12_walksTill_33 rfl (lv_at hl 0 rfl) ?_
        refine lv_iconst (v := 1) hx hb dX12_walksTill_34 (by decide) ?_
        refine lv_aload_n hx hb dX12_walksTill_35 rfl (lv_at hl 1 rfl) ?_
        refine lv_iload_n hx hb dX12_walksTill_36 rfl (lv_at hl 0 rfl) ?_
        refine lv_aload_n hx hb dX12_walksTill_37 rfl (lv_at hl 1 rfl) ?_
        refine va_get (D := D) (ci := 12) (v := .ref a_said) (C := RX12) (T := TX12) (N := 37) hx hb hT i_X12 hown hK hP 1 rfl rfl 20 (by decide) (hT _ q_185) (fun _ h9 => h9) rfl dX12_walksTill_38 ?_
        refine lv_iconst (v := 3) hx hb dX12_walksTill_41 (by decide) ?_
        refine va_iald hx hb hK hP 0 0 rfl rfl (iv_vc (by decide)) dX12_walksTill_42 ?_
        refine lv_topi (fun v35 ev35 => ?_)
        have h36 : IV 0 200 v35 := (by rw [ev35]; exact bs_i3 hf0)
        have ii37 : 0 ≤ v35.toInt ∧ v35.toInt ≤ 200 := h36
        have lv35 : v35.toInt = (a_said_c 3).toInt := by rw [ev35]; rfl
        refine va_calli (va_runV (As := [.int r30, .int v35]) (rest := [.int 1, .int r30, .ref a_wayBy]) ⟨hx, hb, hml, hown, hT⟩ (c_X12_stallAt l D cs kK kV a r30 v35 a_said a_said_c a_tape a__taped a__rules a_sign a_length a_clause a_clauses a_read a__next a__wrong a__number a__text a__made a__deep a__lines a_open a__opened a_stack a__top a_word a__x a_worth a_mate a_wasSaid a__undone a__boughtNow a_wayBy a_wayThen a__walkMost a__walkGoing a__walkSet a_kept a__drawX a_images a_imageX a_isMade ((iv_w h36 (by decide) (by decide))) h_a__taped h_a__rules h_a__next h_a__text h_a__made h_a__lines h_a__opened h_a__top h_a__x h_a__undone hf0 ((by omega)) ((by omega))) (cwV 2 hT (hz_gV q_1124 q_1125 q_1126 q_701 q_1127) rfl rfl rfl (by decide +kernel) ⟨(Nat.le_of_ble_eq_true rfl), (Nat.le_of_ble_eq_true rfl)⟩) ⟨hz_P.blind, va_recv hK hP (ci := 12) (q0 := 1) rfl rfl, hz_P.mk (hP.sub (ws' := [(a_said, .inl (cs 0, 123, .inl a_said_c)), (a, .inr (12, [.ref a_tape, .int a__taped, .int a__rules, .ref a_sign, .ref a_length, .ref a_clause, .ref a_clauses, .ref a_read, .int a__next, .int a__wrong, .int a__number, .int a__text, .int a__made, .int a__deep, .int a__lines, .ref a_open, .int a__opened, .ref a_stack, .int a__top, .ref a_word, .ref a_said, .int a__x, .ref a_worth, .ref a_mate, .ref a_wasSaid, .int a__undone, .int a__boughtNow, .ref a_wayBy, .ref a_wayThen, .int a__walkMost, .int a__walkGoing, .int a__walkSet, .ref a_kept, .long a__drawX, .ref a_images, .ref a_imageX, .ref a_isMade]))]) [0,1] rfl) hE hS⟩ rfl rfl hl.1 rfl (lv_room (Nat.le_of_ble_eq_true rfl)) dX12_walksTill_43 ⟨(Nat.le_of_ble_eq_true rfl), (Nat.le_of_ble_eq_true rfl)⟩) hS (fun _ _ h => h.elim) (fun _ h => h.elim) (fun r38 u t H1 locs ht hvm hw hB hz1 hk1 hS => ?_)
        have hP := hz_keep hP hk1
        clear hk1 hB hz1
        generalize H1 = H at hP hS ⊢
        rcases hw with ⟨h39, h40, x41⟩
        have ii42 : 0 ≤ r38.toInt ∧ r38.toInt ≤ 7 := h39
        have ii43 : (-7) ≤ r30.toInt ∧ r30.toInt ≤ 7 := h40
        refine lv_ishl hx hb dX12_walksTill_46 ?_
        refine lv_topi (fun v44 ev44 => ?_)
        have hv44 : IV 1 128 v44 := iv_shl1 ev44 h39 (by decide) (by decide) (by decide)
        have ii45 : 1 ≤ v44.toInt ∧ v44.toInt ≤ 128 := hv44
        refine va_calli (va_runS (As := [.int r30, .int v44]) (rest := [.ref a_wayBy]) ⟨hx, hb, hml, hown, hT⟩ (c_X12_placeOf_W l D cs kK kV r30 v44 h33 ((iv_w hv44 (by decide) (by decide)))) (va_cwS 2 hT (hz_gS q_1243 q_1244 q_701 q_1245) rfl rfl rfl (by decide +kernel) ⟨(Nat.le_of_ble_eq_true rfl), (Nat.le_of_ble_eq_true rfl)⟩) ⟨hz_P.blind, hz_P.mk (hP.sub (ws' := []) [] rfl) hE hS⟩ rfl rfl hl.1 rfl (lv_room (Nat.le_of_ble_eq_true rfl)) dX12_walksTill_47 ⟨(Nat.le_of_ble_eq_true rfl), (Nat.le_of_ble_eq_true rfl)⟩) hS (fun _ _ h => h.elim) (fun _ h => h.elim) (fun r46 u t H1 locs ht hvm hw hB hz1 hk1 hS => ?_)
        have hP := hz_keep hP hk1
        clear hk1 hB hz1
        generalize H1 = H at hP hS ⊢
        have hw_r46 := hw
        refine lv_bipush (v := 7) hx hb dX12_walksTill_50 (by decide) ?_
        refine va_iast hx hb hK hP hD hS 2 0 rfl rfl (iv_v hw_r46 (by decide) (by decide)) dX12_walksTill_52 (fun H locs hP hD hS => ?_)
        have hP : va_P D classes [(a_said, .inl (cs 0, 123, .inl a_said_c)), (a, .inr (12, [.ref a_tape, .int a__taped, .int a__rules, .ref a_sign, .ref a_length, .ref a_clause, .ref a_clauses, .ref a_read, .int a__next, .int a__wrong, .int a__number, .int a__text, .int a__made, .int a__deep, .int a__lines, .ref a_open, .int a__opened, .ref a_stack, .int a__top, .ref a_word, .ref a_said, .int a__x, .ref a_worth, .ref a_mate, .ref a_wasSaid, .int a__undone, .int a__boughtNow, .ref a_wayBy, .ref a_wayThen, .int a__walkMost, .int a__walkGoing, .int a__walkSet, .ref a_kept, .long a__drawX, .ref a_images, .ref a_imageX, .ref a_isMade])), (a_wayBy, .inl (cs 0, 2048, .inl (upd k2_C_a_wayBy (Int32.toNatClampNeg r46) (7 : Int32)))), (a_wayThen, .inl (cs 0, 2048, .inl a_wayThen_c))] H := hP
        have hD : va_D A [(a_said, .inl (cs 0, 123, .inl a_said_c)), (a, .inr (12, [.ref a_tape, .int a__taped, .int a__rules, .ref a_sign, .ref a_length, .ref a_clause, .ref a_clauses, .ref a_read, .int a__next, .int a__wrong, .int a__number, .int a__text, .int a__made, .int a__deep, .int a__lines, .ref a_open, .int a__opened, .ref a_stack, .int a__top, .ref a_word, .ref a_said, .int a__x, .ref a_worth, .ref a_mate, .ref a_wasSaid, .int a__undone, .int a__boughtNow, .ref a_wayBy, .ref a_wayThen, .int a__walkMost, .int a__walkGoing, .int a__walkSet, .ref a_kept, .long a__drawX, .ref a_images, .ref a_imageX, .ref a_isMade])), (a_wayBy, .inl (cs 0, 2048, .inl (upd k2_C_a_wayBy (Int32.toNatClampNeg r46) (7 : Int32)))), (a_wayThen, .inl (cs 0, 2048, .inl a_wayThen_c))] := hD
        obtain ⟨f47, uf47⟩ : ∃ z, z = upd k2_C_a_wayBy (Int32.toNatClampNeg r46) (7 : Int32) := ⟨_, rfl⟩
        rw [← uf47] at hP hD
        have wf47 : (f47 (Int32.toNatClampNeg r46)).toInt = 7 := lin_us uf47 (by decide)
        refine lv_iconst (v := 1) hx hb dX12_walksTill_53 (by decide) ?_
        refine lv_istore (lv' := [(4, .int 1), (3, .int r30), (0, .ref a), (1, .int p0), (2, .int p1)]) hx hb dX12_walksTill_54 hl (by decide) rfl (fun ls hl => ?_)
        exact K56 _ ((1 : Int32)) r30 f47 a_wayThen_c (Nat.le_refl _) h33 (iv_c (by decide)) (by omega) H locs (hP.sub (ws' := [(a_said, .inl (cs 0, 123, .inl a_said_c)), (a, .inr (12, [.ref a_tape, .int a__taped, .int a__rules, .ref a_sign, .ref a_length, .ref a_clause, .ref a_clauses, .ref a_read, .int a__next, .int a__wrong, .int a__number, .int a__text, .int a__made, .int a__deep, .int a__lines, .ref a_open, .int a__opened, .ref a_stack, .int a__top, .ref a_word, .ref a_said, .int a__x, .ref a_worth, .ref a_mate, .ref a_wasSaid, .int a__undone, .int a__boughtNow, .ref a_wayBy, .ref a_wayThen, .int a__walkMost, .int a__walkGoing, .int a__walkSet, .ref a_kept, .long a__drawX, .ref a_images, .ref a_imageX, .ref a_isMade])), (a_wayBy, .inl (cs 0, 2048, .inl f47)), (a_wayThen, .inl (cs 0, 2048, .inl a_wayThen_c))]) [0, 1, 2, 3] rfl) (hD.sub (ws' := [(a_said, .inl (cs 0, 123, .inl a_said_c)), (a, .inr (12, [.ref a_tape, .int a__taped, .int a__rules, .ref a_sign, .ref a_length, .ref a_clause, .ref a_clauses, .ref a_read, .int a__next, .int a__wrong, .int a__number, .int a__text, .int a__made, .int a__deep, .int a__lines, .ref a_open, .int a__opened, .ref a_stack, .int a__top, .ref a_word, .ref a_said, .int a__x, .ref a_worth, .ref a_mate, .ref a_wasSaid, .int a__undone, .int a__boughtNow, .ref a_wayBy, .ref a_wayThen, .int a__walkMost, .int a__walkGoing, .int a__walkSet, .ref a_kept, .long a__drawX, .ref a_images, .ref a_imageX, .ref a_isMade])), (a_wayBy, .inl (cs 0, 2048, .inl f47)), (a_wayThen, .inl (cs 0, 2048, .inl a_wayThen_c))]) [0, 1, 2, 3] (by decide) rfl) hS ls (lv_sub hl [0, 1, 2, 3, 4] rfl)
      · have t48 : k2_L_3.toInt < 2048 := lin_geN c26 rfl (by decide)
        have h49 : IV 0 2047 k2_L_3 := iv_lt1 (Int32.not_le.mp c26) q2_10 (iv_c (a := 2048) (b := 2048) (by decide)) (by decide)
        have ii50 : 0 ≤ k2_L_3.toInt ∧ k2_L_3.toInt ≤ 2047 := h49
        refine lv_aload_n hx hb dX12_walksTill_9 rfl (lv_at hl 1 rfl) ?_
        refine va_get (D := D) (ci := 12) (v := .ref a_wayBy) (C := RX12) (T := TX12) (N := 37) hx hb hT i_X12 hown hK hP 1 rfl rfl 27 (by decide) (hT _ q_189) (fun _ h9 => h9) rfl dX12_walksTill_10 ?_
        refine lv_iload_n hx hb dX12_walksTill_13 rfl (lv_at hl 0 rfl) ?_
        refine lv_iconst (v := 0) hx hb dX12_walksTill_14 (by decide) ?_
        refine va_iast hx hb hK hP hD hS 2 0 rfl rfl (iv_v h49 (by decide) (by decide)) dX12_walksTill_15 (fun H locs hP hD hS => ?_)
        have hP : va_P D classes [(a_said, .inl (cs 0, 123, .inl a_said_c)), (a, .inr (12, [.ref a_tape, .int a__taped, .int a__rules, .ref a_sign, .ref a_length, .ref a_clause, .ref a_clauses, .ref a_read, .int a__next, .int a__wrong, .int a__number, .int a__text, .int a__made, .int a__deep, .int a__lines, .ref a_open, .int a__opened, .ref a_stack, .int a__top, .ref a_word, .ref a_said, .int a__x, .ref a_worth, .ref a_mate, .ref a_wasSaid, .int a__undone, .int a__boughtNow, .ref a_wayBy, .ref a_wayThen, .int a__walkMost, .int a__walkGoing, .int a__walkSet, .ref a_kept, .long a__drawX, .ref a_images, .ref a_imageX, .ref a_isMade])), (a_wayBy, .inl (cs 0, 2048, .inl (upd k2_C_a_wayBy (Int32.toNatClampNeg k2_L_3) (0 : Int32)))), (a_wayThen, .inl (cs 0, 2048, .inl a_wayThen_c))] H := hP
        have hD : va_D A [(a_said, .inl (cs 0, 123, .inl a_said_c)), (a, .inr (12, [.ref a_tape, .int a__taped, .int a__rules, .ref a_sign, .ref a_length, .ref a_clause, .ref a_clauses, .ref a_read, .int a__next, .int a__wrong, .int a__number, .int a__text, .int a__made, .int a__deep, .int a__lines, .ref a_open, .int a__opened, .ref a_stack, .int a__top, .ref a_word, .ref a_said, .int a__x, .ref a_worth, .ref a_mate, .ref a_wasSaid, .int a__undone, .int a__boughtNow, .ref a_wayBy, .ref a_wayThen, .int a__walkMost, .int a__walkGoing, .int a__walkSet, .ref a_kept, .long a__drawX, .ref a_images, .ref a_imageX, .ref a_isMade])), (a_wayBy, .inl (cs 0, 2048, .inl (upd k2_C_a_wayBy (Int32.toNatClampNeg k2_L_3) (0 : Int32)))), (a_wayThen, .inl (cs 0, 2048, .inl a_wayThen_c))] := hD
        obtain ⟨f51, uf51⟩ : ∃ z, z = upd k2_C_a_wayBy (Int32.toNatClampNeg k2_L_3) (0 : Int32) := ⟨_, rfl⟩
        rw [← uf51] at hP hD
        have wf51 : (f51 (Int32.toNatClampNeg k2_L_3)).toInt = 0 := lin_us uf51 (by decide)
        obtain ⟨v52, ev52⟩ : ∃ z : Int32, z = k2_L_3 + 1 := ⟨_, rfl⟩
        have hv52 : IV 1 2048 v52 := iv_add ev52 h49 (iv_c (a := 1) (b := 1) (by decide)) (by decide) (by decide)
        have dv52 : v52.toInt = k2_L_3.toInt + 1 := iv_addE ev52 h49 (iv_c (a := 1) (b := 1) (by decide)) (by decide) (by decide) (by decide)
        refine lv_iinc (v := v52) (lv' := [(3, .int v52), (0, .ref a), (1, .int p0), (2, .int p1)]) hx hb dX12_walksTill_16 hl (k := 0) rfl (by rw [ev52]; rfl) (by decide) rfl (fun ls hl => ?_)
        refine lv_goto (tgt := 2) hx hb dX12_walksTill_19 (by decide) ?_
        exact ih2 v52 f51 (by have h9 := h49; unfold IV at h9; have := dv52; omega) (iv_w hv52 (by decide) (by decide)) H locs (hP.sub (ws' := [(a_said, .inl (cs 0, 123, .inl a_said_c)), (a, .inr (12, [.ref a_tape, .int a__taped, .int a__rules, .ref a_sign, .ref a_length, .ref a_clause, .ref a_clauses, .ref a_read, .int a__next, .int a__wrong, .int a__number, .int a__text, .int a__made, .int a__deep, .int a__lines, .ref a_open, .int a__opened, .ref a_stack, .int a__top, .ref a_word, .ref a_said, .int a__x, .ref a_worth, .ref a_mate, .ref a_wasSaid, .int a__undone, .int a__boughtNow, .ref a_wayBy, .ref a_wayThen, .int a__walkMost, .int a__walkGoing, .int a__walkSet, .ref a_kept, .long a__drawX, .ref a_images, .ref a_imageX, .ref a_isMade])), (a_wayBy, .inl (cs 0, 2048, .inl f51)), (a_wayThen, .inl (cs 0, 2048, .inl a_wayThen_c))]) [0, 1, 2, 3] rfl) (hD.sub (ws' := [(a_said, .inl (cs 0, 123, .inl a_said_c)), (a, .inr (12, [.ref a_tape, .int a__taped, .int a__rules, .ref a_sign, .ref a_length, .ref a_clause, .ref a_clauses, .ref a_read, .int a__next, .int a__wrong, .int a__number, .int a__text, .int a__made, .int a__deep, .int a__lines, .ref a_open, .int a__opened, .ref a_stack, .int a__top, .ref a_word, .ref a_said, .int a__x, .ref a_worth, .ref a_mate, .ref a_wasSaid, .int a__undone, .int a__boughtNow, .ref a_wayBy, .ref a_wayThen, .int a__walkMost, .int a__walkGoing, .int a__walkSet, .ref a_kept, .long a__drawX, .ref a_images, .ref a_imageX, .ref a_isMade])), (a_wayBy, .inl (cs 0, 2048, .inl f51)), (a_wayThen, .inl (cs 0, 2048, .inl a_wayThen_c))]) [0, 1, 2, 3] (by decide) rfl) hS ls (lv_sub hl [0, 1, 2, 3] rfl)
  refine lv_iconst (v := 0) hx hb dX12_walksTill_0 (by decide) ?_
  refine lv_istore_n (lv' := [(3, .int 0), (0, .ref a), (1, .int p0), (2, .int p1)]) hx hb dX12_walksTill_1 rfl hl (by decide) rfl (fun ls hl => ?_)
  exact K2 _ ((0 : Int32)) a_wayBy_c (Nat.le_refl _) (iv_c (by decide)) H locs (hP.sub (ws' := [(a_said, .inl (cs 0, 123, .inl a_said_c)), (a, .inr (12, [.ref a_tape, .int a__taped, .int a__rules, .ref a_sign, .ref a_length, .ref a_clause, .ref a_clauses, .ref a_read, .int a__next, .int a__wrong, .int a__number, .int a__text, .int a__made, .int a__deep, .int a__lines, .ref a_open, .int a__opened, .ref a_stack, .int a__top, .ref a_word, .ref a_said, .int a__x, .ref a_worth, .ref a_mate, .ref a_wasSaid, .int a__undone, .int a__boughtNow, .ref a_wayBy, .ref a_wayThen, .int a__walkMost, .int a__walkGoing, .int a__walkSet, .ref a_kept, .long a__drawX, .ref a_images, .ref a_imageX, .ref a_isMade])), (a_wayBy, .inl (cs 0, 2048, .inl a_wayBy_c)), (a_wayThen, .inl (cs 0, 2048, .inl a_wayThen_c))]) [0, 1, 2, 3] rfl) (hD.sub (ws' := [(a_said, .inl (cs 0, 123, .inl a_said_c)), (a, .inr (12, [.ref a_tape, .int a__taped, .int a__rules, .ref a_sign, .ref a_length, .ref a_clause, .ref a_clauses, .ref a_read, .int a__next, .int a__wrong, .int a__number, .int a__text, .int a__made, .int a__deep, .int a__lines, .ref a_open, .int a__opened, .ref a_stack, .int a__top, .ref a_word, .ref a_said, .int a__x, .ref a_worth, .ref a_mate, .ref a_wasSaid, .int a__undone, .int a__boughtNow, .ref a_wayBy, .ref a_wayThen, .int a__walkMost, .int a__walkGoing, .int a__walkSet, .ref a_kept, .long a__drawX, .ref a_images, .ref a_imageX, .ref a_isMade])), (a_wayBy, .inl (cs 0, 2048, .inl a_wayBy_c)), (a_wayThen, .inl (cs 0, 2048, .inl a_wayThen_c))]) [0, 1, 2, 3] (by decide) rfl) hS ls (lv_sub hl [0, 1, 2, 3] rfl)
theorem dX12_goingsFor_0 : decode cX12_goingsFor 0 = .ok (.iconst 0, 1) := by decide +kernel
theorem dX12_goingsFor_1 : decode cX12_goingsFor 1 = .ok (.istore_n 2, 1) := by decide +kernel
theorem dX12_goingsFor_2 : decode cX12_goingsFor 2 = .ok (.iconst 0, 1) := by decide +kernel
theorem dX12_goingsFor_3 : decode cX12_goingsFor 3 = .ok (.istore_n 3, 1) := by decide +kernel
theorem dX12_goingsFor_4 : decode cX12_goingsFor 4 = .ok (.iload_n 3, 1) := by decide +kernel
theorem dX12_goingsFor_5 : decode cX12_goingsFor 5 = .ok (.sipush 2048, 3) := by decide +kernel
theorem dX12_goingsFor_8 : decode cX12_goingsFor 8 = .ok (.if_icmp .ge 29, 3) := by decide +kernel
theorem dX12_goingsFor_11 : decode cX12_goingsFor 11 = .ok (.iload_n 3, 1) := by decide +kernel
theorem dX12_goingsFor_12 : decode cX12_goingsFor 12 = .ok (.sipush 256, 3) := by decide +kernel
theorem dX12_goingsFor_15 : decode cX12_goingsFor 15 = .ok (.irem, 1) := by decide +kernel
theorem dX12_goingsFor_16 : decode cX12_goingsFor 16 = .ok (.iload_n 1, 1) := by decide +kernel
theorem dX12_goingsFor_17 : decode cX12_goingsFor 17 = .ok (.iand, 1) := by decide +kernel
theorem dX12_goingsFor_18 : decode cX12_goingsFor 18 = .ok (.iload_n 1, 1) := by decide +kernel
theorem dX12_goingsFor_19 : decode cX12_goingsFor 19 = .ok (.if_icmp .ne 12, 3) := by decide +kernel
theorem dX12_goingsFor_22 : decode cX12_goingsFor 22 = .ok (.iload_n 2, 1) := by decide +kernel
theorem dX12_goingsFor_23 : decode cX12_goingsFor 23 = .ok (.aload_n 0, 1) := by decide +kernel
theorem dX12_goingsFor_24 : decode cX12_goingsFor 24 = .ok (.getfield 51, 3) := by decide +kernel
theorem dX12_goingsFor_27 : decode cX12_goingsFor 27 = .ok (.iload_n 3, 1) := by decide +kernel
theorem dX12_goingsFor_28 : decode cX12_goingsFor 28 = .ok (.iaload, 1) := by decide +kernel
theorem dX12_goingsFor_29 : decode cX12_goingsFor 29 = .ok (.ior, 1) := by decide +kernel
theorem dX12_goingsFor_30 : decode cX12_goingsFor 30 = .ok (.istore_n 2, 1) := by decide +kernel
theorem dX12_goingsFor_31 : decode cX12_goingsFor 31 = .ok (.iinc 3 1, 3) := by decide +kernel
theorem dX12_goingsFor_34 : decode cX12_goingsFor 34 = .ok (.goto (-30), 3) := by decide +kernel
theorem dX12_goingsFor_37 : decode cX12_goingsFor 37 = .ok (.iload_n 2, 1) := by decide +kernel
theorem dX12_goingsFor_38 : decode cX12_goingsFor 38 = .ok (.ireturn, 1) := by decide +kernel
set_option maxHeartbeats 4000000 in
set_option maxRecDepth 100000 in
theorem c_X12_goingsFor (l : Launch) (D : va_G) (cs : Nat → ClassId) (kK kV : Nat → Nat) (a : Nat) (p0 : Int32) (a_tape : Nat) (a__taped : Int32) (a__rules : Int32) (a_sign : Nat) (a_length : Nat) (a_clause : Nat) (a_clauses : Nat) (a_read : Nat) (a__next : Int32) (a__wrong : Int32) (a__number : Int32) (a__text : Int32) (a__made : Int32) (a__deep : Int32) (a__lines : Int32) (a_open : Nat) (a__opened : Int32) (a_stack : Nat) (a__top : Int32) (a_word : Nat) (a_said : Nat) (a__x : Int32) (a_worth : Nat) (a_mate : Nat) (a_wasSaid : Nat) (a__undone : Int32) (a__boughtNow : Int32) (a_wayBy : Nat) (a_wayThen : Nat) (a__walkMost : Int32) (a__walkGoing : Int32) (a__walkSet : Int32) (a_kept : Nat) (a__drawX : Int64) (a_images : Nat) (a_imageX : Nat) (a_isMade : Nat) (a_wayBy_c : Nat → Int32) (h_a__taped : IV 0 400 a__taped) (h_a__rules : IV 0 6 a__rules) (h_a__next : IV 0 400 a__next) (h_a__text : IV 0 6 a__text) (h_a__made : IV 0 60 a__made) (h_a__lines : IV 0 40 a__lines) (h_a__opened : IV 0 400 a__opened) (h_a__top : IV 0 64 a__top) (h_a__x : IV 0 2147483647 a__x) (h_a__undone : IV 0 20 a__undone) : Met l yX12_goingsFor (hz_w yX12_goingsFor cX12_goingsFor 4 (some .int)) ({ frames := 0, cells := 0, slots := 0, locals := 0 }) (va_Pc [.ref a, .int p0] (hz_P D cs kK kV [(a, .inr (12, [.ref a_tape, .int a__taped, .int a__rules, .ref a_sign, .ref a_length, .ref a_clause, .ref a_clauses, .ref a_read, .int a__next, .int a__wrong, .int a__number, .int a__text, .int a__made, .int a__deep, .int a__lines, .ref a_open, .int a__opened, .ref a_stack, .int a__top, .ref a_word, .ref a_said, .int a__x, .ref a_worth, .ref a_mate, .ref a_wasSaid, .int a__undone, .int a__boughtNow, .ref a_wayBy, .ref a_wayThen, .int a__walkMost, .int a__walkGoing, .int a__walkSet, .ref a_kept, .long a__drawX, .ref a_images, .ref a_imageX, .ref a_isMade])), (a_wayBy, .inl (cs 0, 2048, .inl a_wayBy_c))])) (va_Qi (fun (r : Int32) (_ : Unit) => True) (fun _ t => True) (fun _ => False)) 0 0 (fun _ => False) := by
  refine Met.ofW (cc := cX12_goingsFor) (maxL := 4) (ret := (some .int)) (by decide) rfl ?_
  intro p e s m args below meth c s₁ B hml hv
  obtain ⟨rfl, hP, hE⟩ := hv
  have hx := B.exec
  have hb := B.bytes
  have hr := B.returns
  have hT : ∀ w ∈ TB, w.before _ s = true := fun w h => atoms_spec (ws := hz_w yX12_goingsFor cX12_goingsFor 4 (some .int)) B.pre w (List.mem_cons_of_mem _ h)
  have hown : s.vm.findClass RX12 = some m.cls := findClass_of_methodNamed B.named
  have hlocks := B.notSynchronized
  clear B
  have hS : va_S (fun _ => False) s.heap s.heap [] := va_S.rf
  have hK := hE.1
  have hl := lv_entry ([.ref a, .int p0]) (n := 4) (Nat.le_of_ble_eq_true rfl)
  rw [lg_entry_eq]
  generalize (lg_sl ([.ref a, .int p0]) ++ List.replicate (4 - (lg_sl ([.ref a, .int p0])).length) Slot.unset).toArray = ls at hl ⊢
  have hl : lv_has ls 4 [(0, .ref a), (1, .int p0)] := hl
  obtain ⟨H, eH⟩ : ∃ z, z = s.heap := ⟨_, rfl⟩
  have hP : va_P D classes [(a, .inr (12, [.ref a_tape, .int a__taped, .int a__rules, .ref a_sign, .ref a_length, .ref a_clause, .ref a_clauses, .ref a_read, .int a__next, .int a__wrong, .int a__number, .int a__text, .int a__made, .int a__deep, .int a__lines, .ref a_open, .int a__opened, .ref a_stack, .int a__top, .ref a_word, .ref a_said, .int a__x, .ref a_worth, .ref a_mate, .ref a_wasSaid, .int a__undone, .int a__boughtNow, .ref a_wayBy, .ref a_wayThen, .int a__walkMost, .int a__walkGoing, .int a__walkSet, .ref a_kept, .long a__drawX, .ref a_images, .ref a_imageX, .ref a_isMade])), (a_wayBy, .inl (cs 0, 2048, .inl a_wayBy_c))] H := by rw [eH]; exact hP
  have hS : va_S (fun _ => False) s.heap H [] := by rw [eH]; exact hS
  rw [← eH]
  clear eH
  obtain ⟨locs, el⟩ : ∃ z : List Loc, z = [] := ⟨_, rfl⟩
  rw [← el] at hS ⊢
  clear el
  have z0 : (0 : Int32).toInt = 0 := by decide
  have z1 : (1 : Int32).toInt = 1 := by decide
  have zm1 : (-1 : Int32).toInt = -1 := by decide
  have i_a__lines : 0 ≤ a__lines.toInt ∧ a__lines.toInt ≤ 40 := h_a__lines
  have i_a__made : 0 ≤ a__made.toInt ∧ a__made.toInt ≤ 60 := h_a__made
  have i_a__next : 0 ≤ a__next.toInt ∧ a__next.toInt ≤ 400 := h_a__next
  have i_a__opened : 0 ≤ a__opened.toInt ∧ a__opened.toInt ≤ 400 := h_a__opened
  have i_a__rules : 0 ≤ a__rules.toInt ∧ a__rules.toInt ≤ 6 := h_a__rules
  have i_a__taped : 0 ≤ a__taped.toInt ∧ a__taped.toInt ≤ 400 := h_a__taped
  have i_a__text : 0 ≤ a__text.toInt ∧ a__text.toInt ≤ 6 := h_a__text
  have i_a__top : 0 ≤ a__top.toInt ∧ a__top.toInt ≤ 64 := h_a__top
  have i_a__undone : 0 ≤ a__undone.toInt ∧ a__undone.toInt ≤ 20 := h_a__undone
  have i_a__x : 0 ≤ a__x.toInt ∧ a__x.toInt ≤ 2147483647 := h_a__x
  have K4 : ∀ (n : Nat) (k4_L_3 : Int32) (k4_L_2 : Int32), (2048 - k4_L_3.toInt + 1).toNat ≤ n → IV 0 2048 k4_L_3 → ∀ (H : Heap) (locs : List Loc), va_P D classes [(a, .inr (12, [.ref a_tape, .int a__taped, .int a__rules, .ref a_sign, .ref a_length, .ref a_clause, .ref a_clauses, .ref a_read, .int a__next, .int a__wrong, .int a__number, .int a__text, .int a__made, .int a__deep, .int a__lines, .ref a_open, .int a__opened, .ref a_stack, .int a__top, .ref a_word, .ref a_said, .int a__x, .ref a_worth, .ref a_mate, .ref a_wasSaid, .int a__undone, .int a__boughtNow, .ref a_wayBy, .ref a_wayThen, .int a__walkMost, .int a__walkGoing, .int a__walkSet, .ref a_kept, .long a__drawX, .ref a_images, .ref a_imageX, .ref a_isMade])), (a_wayBy, .inl (cs 0, 2048, .inl a_wayBy_c))] H → va_S (fun _ => False) s.heap H locs → ∀ ls : Array Slot, lv_has ls 4 [(3, .int k4_L_3), (2, .int k4_L_2), (0, .ref a), (1, .int p0)] → W p l e (headSpec (hz_w yX12_goingsFor cX12_goingsFor 4 (some .int)) ({ frames := 0, cells := 0, slots := 0, locals := 0 })).room s m [.ref a, .int p0].toArray below meth c H locs 0 0 (MQ below (va_Qi (fun (r : Int32) (_ : Unit) => True) (fun _ t => True) (fun _ => False)) [.ref a, .int p0].toArray s 0 0 (fun _ => False)) (F0 m 4 ls []) := by
    intro n
    induction n with
    | zero =>
      intro k4_L_3 k4_L_2 hn q4_10 H locs hP hS ls hl
      exact absurd hn (by unfold IV at q4_10; omega)
    | succ n ih4 =>
      intro k4_L_3 k4_L_2 hn q4_10 H locs hP hS ls hl
      have i_a__lines : 0 ≤ a__lines.toInt ∧ a__lines.toInt ≤ 40 := h_a__lines
      have i_a__made : 0 ≤ a__made.toInt ∧ a__made.toInt ≤ 60 := h_a__made
      have i_a__next : 0 ≤ a__next.toInt ∧ a__next.toInt ≤ 400 := h_a__next
      have i_a__opened : 0 ≤ a__opened.toInt ∧ a__opened.toInt ≤ 400 := h_a__opened
      have i_a__rules : 0 ≤ a__rules.toInt ∧ a__rules.toInt ≤ 6 := h_a__rules
      have i_a__taped : 0 ≤ a__taped.toInt ∧ a__taped.toInt ≤ 400 := h_a__taped
      have i_a__text : 0 ≤ a__text.toInt ∧ a__text.toInt ≤ 6 := h_a__text
      have i_a__top : 0 ≤ a__top.toInt ∧ a__top.toInt ≤ 64 := h_a__top
      have i_a__undone : 0 ≤ a__undone.toInt ∧ a__undone.toInt ≤ 20 := h_a__undone
      have i_a__x : 0 ≤ a__x.toInt ∧ a__x.toInt ≤ 2147483647 := h_a__x
      have i_k4_L_3 : 0 ≤ k4_L_3.toInt ∧ k4_L_3.toInt ≤ 2048 := q4_10
      refine lv_iload_n hx hb dX12_goingsFor_4 rfl (lv_at hl 0 rfl) ?_
      refine lv_sipush (v := 2048) hx hb dX12_goingsFor_5 (by decide) ?_
      refine lv_icmp_ge (tgt := 37) hx hb dX12_goingsFor_8 (by decide) (fun c1 => ?_) (fun c1 => ?_)
      · have t2 : k4_L_3.toInt ≥ 2048 := lin_ge c1 rfl (by decide)
        have h3 : IV 2048 2048 k4_L_3 := iv_le2 c1 (iv_c (a := 2048) (b := 2048) (by decide)) q4_10 (by decide)
        have ii4 : 2048 ≤ k4_L_3.toInt ∧ k4_L_3.toInt ≤ 2048 := h3
        refine lv_iload_n hx hb dX12_goingsFor_37 rfl (lv_at hl 1 rfl) ?_
        exact W.iret (v := k4_L_2) hx hb hr (fun t ht hW => ⟨⟨k4_L_2, (), rfl, trivial, trivial⟩, hS.F ht⟩) hS.2.2 dX12_goingsFor_38
      · have t5 : k4_L_3.toInt < 2048 := lin_geN c1 rfl (by decide)
        have h6 : IV 0 2047 k4_L_3 := iv_lt1 (Int32.not_le.mp c1) q4_10 (iv_c (a := 2048) (b := 2048) (by decide)) (by decide)
        have ii7 : 0 ≤ k4_L_3.toInt ∧ k4_L_3.toInt ≤ 2047 := h6
        refine lv_iload_n hx hb dX12_goingsFor_11 rfl (lv_at hl 0 rfl) ?_
        refine lv_sipush (v := 256) hx hb dX12_goingsFor_12 (by decide) ?_
        refine lv_irem hx hb dX12_goingsFor_15 (by decide) ?_
        refine lv_topi (fun v8 ev8 => ?_)
        have hv8 : IV 0 255 v8 := iv_remP ev8 h6 (iv_c (a := 256) (b := 256) (by decide)) (by decide) (by decide)
        have ii9 : 0 ≤ v8.toInt ∧ v8.toInt ≤ 255 := hv8
        have lv8 : v8.toInt < 256 := lin_rem ev8 h6 (iv_c (a := 256) (b := 256) (by decide)) rfl (by decide) (by decide) (by decide)
        refine lv_iload_n hx hb dX12_goingsFor_16 rfl (lv_at hl 3 rfl) ?_
        refine lv_iand hx hb dX12_goingsFor_17 ?_
        refine lv_topi (fun v10 ev10 => ?_)
        have hv10 : IV 0 255 v10 := iv_and1 ev10 hv8
        have ii11 : 0 ≤ v10.toInt ∧ v10.toInt ≤ 255 := hv10
        refine lv_iload_n hx hb dX12_goingsFor_18 rfl (lv_at hl 3 rfl) ?_
        refine lv_icmp_ne (tgt := 31) hx hb dX12_goingsFor_19 (by decide) (fun c12 => ?_) (fun c12 => ?_)
        · have t13 : v10.toInt ≠ p0.toInt := lin_ne c12 rfl rfl
          obtain ⟨v14, ev14⟩ : ∃ z : Int32, z = k4_L_3 + 1 := ⟨_, rfl⟩
          have hv14 : IV 1 2048 v14 := iv_add ev14 h6 (iv_c (a := 1) (b := 1) (by decide)) (by decide) (by decide)
          have dv14 : v14.toInt = k4_L_3.toInt + 1 := iv_addE ev14 h6 (iv_c (a := 1) (b := 1) (by decide)) (by decide) (by decide) (by decide)
          refine lv_iinc (v := v14) (lv' := [(3, .int v14), (2, .int k4_L_2), (0, .ref a), (1, .int p0)]) hx hb dX12_goingsFor_31 hl (k := 0) rfl (by rw [ev14]; rfl) (by decide) rfl (fun ls hl => ?_)
          refine lv_goto (tgt := 4) hx hb dX12_goingsFor_34 (by decide) ?_
          exact ih4 v14 k4_L_2 (by have h9 := h6; unfold IV at h9; have := dv14; omega) (iv_w hv14 (by decide) (by decide)) H locs (hP.sub (ws' := [(a, .inr (12, [.ref a_tape, .int a__taped, .int a__rules, .ref a_sign, .ref a_length, .ref a_clause, .ref a_clauses, .ref a_read, .int a__next, .int a__wrong, .int a__number, .int a__text, .int a__made, .int a__deep, .int a__lines, .ref a_open, .int a__opened, .ref a_stack, .int a__top, .ref a_word, .ref a_said, .int a__x, .ref a_worth, .ref a_mate, .ref a_wasSaid, .int a__undone, .int a__boughtNow, .ref a_wayBy, .ref a_wayThen, .int a__walkMost, .int a__walkGoing, .int a__walkSet, .ref a_kept, .long a__drawX, .ref a_images, .ref a_imageX, .ref a_isMade])), (a_wayBy, .inl (cs 0, 2048, .inl a_wayBy_c))]) [0, 1] rfl) hS ls (lv_sub hl [0, 1, 2, 3] rfl)
        · have t15 : v10.toInt = p0.toInt := lin_eqN c12 rfl rfl
          have h16 : IV 0 255 p0 := iv_eq2 c12 hv10 iv_top (by decide) (by decide)
          have ii17 : 0 ≤ p0.toInt ∧ p0.toInt ≤ 255 := h16
          refine lv_iload_n hx hb dX12_goingsFor_22 rfl (lv_at hl 1 rfl) ?_
          refine lv_aload_n hx hb dX12_goingsFor_23 rfl (lv_at hl 2 rfl) ?_
          refine va_get (D := D) (ci := 12) (v := .ref a_wayBy) (C := RX12) (T := TX12) (N := 37) hx hb hT i_X12 hown hK hP 0 rfl rfl 27 (by decide) (hT _ q_189) (fun _ h9 => h9) rfl dX12_goingsFor_24 ?_
          refine lv_iload_n hx hb dX12_goingsFor_27 rfl (lv_at hl 0 rfl) ?_
          refine va_iald hx hb hK hP 1 0 rfl rfl (iv_v h6 (by decide) (by decide)) dX12_goingsFor_28 ?_
          refine lv_topi (fun v18 ev18 => ?_)
          have lv18 : v18.toInt = (a_wayBy_c (Int32.toNatClampNeg k4_L_3)).toInt := by rw [ev18]
          refine lv_ior hx hb dX12_goingsFor_29 ?_
          refine lv_topi (fun v19 ev19 => ?_)
          refine lv_istore_n (lv' := [(2, .int v19), (3, .int k4_L_3), (0, .ref a), (1, .int p0)]) hx hb dX12_goingsFor_30 rfl hl (by decide) rfl (fun ls hl => ?_)
          obtain ⟨v20, ev20⟩ : ∃ z : Int32, z = k4_L_3 + 1 := ⟨_, rfl⟩
          have hv20 : IV 1 2048 v20 := iv_add ev20 h6 (iv_c (a := 1) (b := 1) (by decide)) (by decide) (by decide)
          have dv20 : v20.toInt = k4_L_3.toInt + 1 := iv_addE ev20 h6 (iv_c (a := 1) (b := 1) (by decide)) (by decide) (by decide) (by decide)
          refine lv_iinc (v := v20) (lv' := [(3, .int v20), (2, .int v19), (0, .ref a), (1, .int p0)]) hx hb dX12_goingsFor_31 hl (k := 1) rfl (by rw [ev20]; rfl) (by decide) rfl (fun ls hl => ?_)
          refine lv_goto (tgt := 4) hx hb dX12_goingsFor_34 (by decide) ?_
          exact ih4 v20 v19 (by have h9 := h6; unfold IV at h9; have := dv20; omega) (iv_w hv20 (by decide) (by decide)) H locs (hP.sub (ws' := [(a, .inr (12, [.ref a_tape, .int a__taped, .int a__rules, .ref a_sign, .ref a_length, .ref a_clause, .ref a_clauses, .ref a_read, .int a__next, .int a__wrong, .int a__number, .int a__text, .int a__made, .int a__deep, .int a__lines, .ref a_open, .int a__opened, .ref a_stack, .int a__top, .ref a_word, .ref a_said, .int a__x, .ref a_worth, .ref a_mate, .ref a_wasSaid, .int a__undone, .int a__boughtNow, .ref a_wayBy, .ref a_wayThen, .int a__walkMost, .int a__walkGoing, .int a__walkSet, .ref a_kept, .long a__drawX, .ref a_images, .ref a_imageX, .ref a_isMade])), (a_wayBy, .inl (cs 0, 2048, .inl a_wayBy_c))]) [0, 1] rfl) hS ls (lv_sub hl [0, 1, 2, 3] rfl)
  refine lv_iconst (v := 0) hx hb dX12_goingsFor_0 (by decide) ?_
  refine lv_istore_n (lv' := [(2, .int 0), (0, .ref a), (1, .int p0)]) hx hb dX12_goingsFor_1 rfl hl (by decide) rfl (fun ls hl => ?_)
  refine lv_iconst (v := 0) hx hb dX12_goingsFor_2 (by decide) ?_
  refine lv_istore_n (lv' := [(3, .int 0), (2, .int 0), (0, .ref a), (1, .int p0)]) hx hb dX12_goingsFor_3 rfl hl (by decide) rfl (fun ls hl => ?_)
  exact K4 _ ((0 : Int32)) ((0 : Int32)) (Nat.le_refl _) (iv_c (by decide)) H locs (hP.sub (ws' := [(a, .inr (12, [.ref a_tape, .int a__taped, .int a__rules, .ref a_sign, .ref a_length, .ref a_clause, .ref a_clauses, .ref a_read, .int a__next, .int a__wrong, .int a__number, .int a__text, .int a__made, .int a__deep, .int a__lines, .ref a_open, .int a__opened, .ref a_stack, .int a__top, .ref a_word, .ref a_said, .int a__x, .ref a_worth, .ref a_mate, .ref a_wasSaid, .int a__undone, .int a__boughtNow, .ref a_wayBy, .ref a_wayThen, .int a__walkMost, .int a__walkGoing, .int a__walkSet, .ref a_kept, .long a__drawX, .ref a_images, .ref a_imageX, .ref a_isMade])), (a_wayBy, .inl (cs 0, 2048, .inl a_wayBy_c))]) [0, 1] rfl) hS ls (lv_sub hl [0, 1, 2, 3] rfl)
