theorem dX12_fairs_0 : decode cX12_fairs 0 = .ok (.aload_n 0, 1) := by decide +kernel
theorem dX12_fairs_1 : decode cX12_fairs 1 = .ok (.invokevirtual 329, 3) := by decide +kernel
theorem dX12_fairs_4 : decode cX12_fairs 4 = .ok (.ifCond .eq 46, 3) := by decide +kernel
theorem dX12_fairs_7 : decode cX12_fairs 7 = .ok (.aload_n 0, 1) := by decide +kernel
theorem dX12_fairs_8 : decode cX12_fairs 8 = .ok (.iload_n 1, 1) := by decide +kernel
theorem dX12_fairs_9 : decode cX12_fairs 9 = .ok (.invokevirtual 413, 3) := by decide +kernel
theorem dX12_fairs_12 : decode cX12_fairs 12 = .ok (.ifCond .eq 38, 3) := by decide +kernel
theorem dX12_fairs_15 : decode cX12_fairs 15 = .ok (.iload_n 2, 1) := by decide +kernel
theorem dX12_fairs_16 : decode cX12_fairs 16 = .ok (.i2l, 1) := by decide +kernel
theorem dX12_fairs_17 : decode cX12_fairs 17 = .ok (.lconst 1, 1) := by decide +kernel
theorem dX12_fairs_18 : decode cX12_fairs 18 = .ok (.ldc2_w 497, 3) := by decide +kernel
theorem dX12_fairs_21 : decode cX12_fairs 21 = .ok (.invokestatic 109, 3) := by decide +kernel
theorem dX12_fairs_24 : decode cX12_fairs 24 = .ok (.ifCond .eq 26, 3) := by decide +kernel
theorem dX12_fairs_27 : decode cX12_fairs 27 = .ok (.iload_n 3, 1) := by decide +kernel
theorem dX12_fairs_28 : decode cX12_fairs 28 = .ok (.i2l, 1) := by decide +kernel
theorem dX12_fairs_29 : decode cX12_fairs 29 = .ok (.lconst 0, 1) := by decide +kernel
theorem dX12_fairs_30 : decode cX12_fairs 30 = .ok (.ldc2_w 499, 3) := by decide +kernel
theorem dX12_fairs_33 : decode cX12_fairs 33 = .ok (.invokestatic 109, 3) := by decide +kernel
theorem dX12_fairs_36 : decode cX12_fairs 36 = .ok (.ifCond .eq 14, 3) := by decide +kernel
theorem dX12_fairs_39 : decode cX12_fairs 39 = .ok (.iload 4, 2) := by decide +kernel
theorem dX12_fairs_41 : decode cX12_fairs 41 = .ok (.i2l, 1) := by decide +kernel
theorem dX12_fairs_42 : decode cX12_fairs 42 = .ok (.lconst 0, 1) := by decide +kernel
theorem dX12_fairs_43 : decode cX12_fairs 43 = .ok (.lconst 1, 1) := by decide +kernel
theorem dX12_fairs_44 : decode cX12_fairs 44 = .ok (.invokestatic 109, 3) := by decide +kernel
theorem dX12_fairs_47 : decode cX12_fairs 47 = .ok (.ifCond .ne 5, 3) := by decide +kernel
theorem dX12_fairs_50 : decode cX12_fairs 50 = .ok (.iconst (-1), 1) := by decide +kernel
theorem dX12_fairs_51 : decode cX12_fairs 51 = .ok (.ireturn, 1) := by decide +kernel
theorem dX12_fairs_52 : decode cX12_fairs 52 = .ok (.aload_n 0, 1) := by decide +kernel
theorem dX12_fairs_53 : decode cX12_fairs 53 = .ok (.aload_n 0, 1) := by decide +kernel
theorem dX12_fairs_54 : decode cX12_fairs 54 = .ok (.getfield 479, 3) := by decide +kernel
theorem dX12_fairs_57 : decode cX12_fairs 57 = .ok (.i2l, 1) := by decide +kernel
theorem dX12_fairs_58 : decode cX12_fairs 58 = .ok (.putfield 482, 3) := by decide +kernel
theorem dX12_fairs_61 : decode cX12_fairs 61 = .ok (.aload_n 0, 1) := by decide +kernel
theorem dX12_fairs_62 : decode cX12_fairs 62 = .ok (.iconst 0, 1) := by decide +kernel
theorem dX12_fairs_63 : decode cX12_fairs 63 = .ok (.putfield 404, 3) := by decide +kernel
theorem dX12_fairs_66 : decode cX12_fairs 66 = .ok (.iconst 0, 1) := by decide +kernel
theorem dX12_fairs_67 : decode cX12_fairs 67 = .ok (.istore 5, 2) := by decide +kernel
theorem dX12_fairs_69 : decode cX12_fairs 69 = .ok (.aload_n 0, 1) := by decide +kernel
theorem dX12_fairs_70 : decode cX12_fairs 70 = .ok (.invokevirtual 466, 3) := by decide +kernel
theorem dX12_fairs_73 : decode cX12_fairs 73 = .ok (.istore 6, 2) := by decide +kernel
theorem dX12_fairs_75 : decode cX12_fairs 75 = .ok (.aload_n 0, 1) := by decide +kernel
theorem dX12_fairs_76 : decode cX12_fairs 76 = .ok (.invokevirtual 469, 3) := by decide +kernel
theorem dX12_fairs_79 : decode cX12_fairs 79 = .ok (.iconst 0, 1) := by decide +kernel
theorem dX12_fairs_80 : decode cX12_fairs 80 = .ok (.istore 7, 2) := by decide +kernel
theorem dX12_fairs_82 : decode cX12_fairs 82 = .ok (.iload 7, 2) := by decide +kernel
theorem dX12_fairs_84 : decode cX12_fairs 84 = .ok (.iload_n 2, 1) := by decide +kernel
theorem dX12_fairs_85 : decode cX12_fairs 85 = .ok (.if_icmp .ge 71, 3) := by decide +kernel
theorem dX12_fairs_88 : decode cX12_fairs 88 = .ok (.iconst 0, 1) := by decide +kernel
theorem dX12_fairs_89 : decode cX12_fairs 89 = .ok (.istore 8, 2) := by decide +kernel
theorem dX12_fairs_91 : decode cX12_fairs 91 = .ok (.iload 8, 2) := by decide +kernel
theorem dX12_fairs_93 : decode cX12_fairs 93 = .ok (.iload 6, 2) := by decide +kernel
theorem dX12_fairs_95 : decode cX12_fairs 95 = .ok (.if_icmp .ge 15, 3) := by decide +kernel
theorem dX12_fairs_98 : decode cX12_fairs 98 = .ok (.aload_n 0, 1) := by decide +kernel
theorem dX12_fairs_99 : decode cX12_fairs 99 = .ok (.iload_n 1, 1) := by decide +kernel
theorem dX12_fairs_100 : decode cX12_fairs 100 = .ok (.iload_n 3, 1) := by decide +kernel
theorem dX12_fairs_101 : decode cX12_fairs 101 = .ok (.invokevirtual 501, 3) := by decide +kernel
theorem dX12_fairs_104 : decode cX12_fairs 104 = .ok (.iinc 8 1, 3) := by decide +kernel
theorem dX12_fairs_107 : decode cX12_fairs 107 = .ok (.goto (-16), 3) := by decide +kernel
theorem dX12_fairs_110 : decode cX12_fairs 110 = .ok (.iconst 0, 1) := by decide +kernel
theorem dX12_fairs_111 : decode cX12_fairs 111 = .ok (.istore 8, 2) := by decide +kernel
theorem dX12_fairs_113 : decode cX12_fairs 113 = .ok (.iload 8, 2) := by decide +kernel
theorem dX12_fairs_115 : decode cX12_fairs 115 = .ok (.aload_n 0, 1) := by decide +kernel
theorem dX12_fairs_116 : decode cX12_fairs 116 = .ok (.getfield 39, 3) := by decide +kernel
theorem dX12_fairs_119 : decode cX12_fairs 119 = .ok (.iconst 2, 1) := by decide +kernel
theorem dX12_fairs_120 : decode cX12_fairs 120 = .ok (.iaload, 1) := by decide +kernel
theorem dX12_fairs_121 : decode cX12_fairs 121 = .ok (.if_icmp .ge 25, 3) := by decide +kernel
theorem dX12_fairs_124 : decode cX12_fairs 124 = .ok (.iload 5, 2) := by decide +kernel
theorem dX12_fairs_126 : decode cX12_fairs 126 = .ok (.aload_n 0, 1) := by decide +kernel
theorem dX12_fairs_127 : decode cX12_fairs 127 = .ok (.getfield 42, 3) := by decide +kernel
theorem dX12_fairs_130 : decode cX12_fairs 130 = .ok (.aload_n 0, 1) := by decide +kernel
theorem dX12_fairs_131 : decode cX12_fairs 131 = .ok (.iload 8, 2) := by decide +kernel
theorem dX12_fairs_133 : decode cX12_fairs 133 = .ok (.invokevirtual 346, 3) := by decide +kernel
theorem dX12_fairs_136 : decode cX12_fairs 136 = .ok (.iaload, 1) := by decide +kernel
theorem dX12_fairs_137 : decode cX12_fairs 137 = .ok (.iadd, 1) := by decide +kernel
theorem dX12_fairs_138 : decode cX12_fairs 138 = .ok (.istore 5, 2) := by decide +kernel
theorem dX12_fairs_140 : decode cX12_fairs 140 = .ok (.iinc 8 1, 3) := by decide +kernel
theorem dX12_fairs_143 : decode cX12_fairs 143 = .ok (.goto (-30), 3) := by decide +kernel
theorem dX12_fairs_146 : decode cX12_fairs 146 = .ok (.aload_n 0, 1) := by decide +kernel
theorem dX12_fairs_147 : decode cX12_fairs 147 = .ok (.invokevirtual 463, 3) := by decide +kernel
theorem dX12_fairs_150 : decode cX12_fairs 150 = .ok (.iinc 7 1, 3) := by decide +kernel
theorem dX12_fairs_153 : decode cX12_fairs 153 = .ok (.goto (-71), 3) := by decide +kernel
theorem dX12_fairs_156 : decode cX12_fairs 156 = .ok (.iload 4, 2) := by decide +kernel
theorem dX12_fairs_158 : decode cX12_fairs 158 = .ok (.ifCond .ne 10, 3) := by decide +kernel
theorem dX12_fairs_161 : decode cX12_fairs 161 = .ok (.aload_n 0, 1) := by decide +kernel
theorem dX12_fairs_162 : decode cX12_fairs 162 = .ok (.getfield 404, 3) := by decide +kernel
theorem dX12_fairs_165 : decode cX12_fairs 165 = .ok (.goto 5, 3) := by decide +kernel
theorem dX12_fairs_168 : decode cX12_fairs 168 = .ok (.iload 5, 2) := by decide +kernel
theorem dX12_fairs_170 : decode cX12_fairs 170 = .ok (.ireturn, 1) := by decide +kernel
set_option maxHeartbeats 4000000 in
set_option maxRecDepth 100000 in
theorem c_X12_fairs (l : Launch) (D : va_G) (cs : Nat → ClassId) (kK kV : Nat → Nat) (a : Nat) (p0 : Int32) (p1 : Int32) (p2 : Int32) (p3 : Int32) (a_said : Nat) (a_said_c : Nat → Int32) (a_sign : Nat) (a_sign_c : Nat → Int32) (a_clause : Nat) (a_clause_c : Nat → Int32) (a_clauses : Nat) (a_clauses_c : Nat → Int32) (a_tape : Nat) (a__taped : Int32) (a__rules : Int32) (a_length : Nat) (a_read : Nat) (a__next : Int32) (a__wrong : Int32) (a__number : Int32) (a__text : Int32) (a__made : Int32) (a__deep : Int32) (a__lines : Int32) (a_open : Nat) (a__opened : Int32) (a_stack : Nat) (a__top : Int32) (a_word : Nat) (a__x : Int32) (a_worth : Nat) (a_mate : Nat) (a_wasSaid : Nat) (a__undone : Int32) (a__boughtNow : Int32) (a_wayBy : Nat) (a_wayThen : Nat) (a__walkMost : Int32) (a__walkGoing : Int32) (a__walkSet : Int32) (a_kept : Nat) (a__drawX : Int64) (a_images : Nat) (a_imageX : Nat) (a_isMade : Nat) (a_kept_c : Nat → Int32) (a_word_c : Nat → Int64) (a_stack_c : Nat → Int64) (a_worth_c : Nat → Int32) (h_a__taped : IV 0 400 a__taped) (h_a__rules : IV 0 6 a__rules) (h_a__next : IV 0 400 a__next) (h_a__text : IV 0 6 a__text) (h_a__made : IV 0 60 a__made) (h_a__lines : IV 0 40 a__lines) (h_a__opened : IV 0 400 a__opened) (h_a__top : IV 0 64 a__top) (h_a__x : IV 0 2147483647 a__x) (h_a__undone : IV 0 20 a__undone) (hf0 : BS a_said_c 200) (hf1 : TR a_said_c) (hf2 : (a_said_c 3).toInt ≤ 99) (hf3 : RUS a_sign_c a_clause_c a_clauses_c a__rules.toInt) (sz : Nat) : Met l yX12_fairs (hz_w yX12_fairs cX12_fairs 9 (some .int)) ({ frames := 8, cells := 0, slots := 0, locals := 190 }) (va_Pc [.ref a, .int p0, .int p1, .int p2, .int p3] (hz_C D cs kK kV sz [(a_said, .inl (cs 0, 123, .inl a_said_c)), (a_sign, .inl (cs 0, 2400, .inl a_sign_c)), (a_clause, .inl (cs 0, 360, .inl a_clause_c)), (a_clauses, .inl (cs 0, 6, .inl a_clauses_c)), (a, .inr (12, [.ref a_tape, .int a__taped, .int a__rules, .ref a_sign, .ref a_length, .ref a_clause, .ref a_clauses, .ref a_read, .int a__next, .int a__wrong, .int a__number, .int a__text, .int a__made, .int a__deep, .int a__lines, .ref a_open, .int a__opened, .ref a_stack, .int a__top, .ref a_word, .ref a_said, .int a__x, .ref a_worth, .ref a_mate, .ref a_wasSaid, .int a__undone, .int a__boughtNow, .ref a_wayBy, .ref a_wayThen, .int a__walkMost, .int a__walkGoing, .int a__walkSet, .ref a_kept, .long a__drawX, .ref a_images, .ref a_imageX, .ref a_isMade])), (a_kept, .inl (cs 0, 86, .inl a_kept_c)), (a_word, .inl (cs 3, 13, .inr (.inl a_word_c))), (a_stack, .inl (cs 3, 64, .inr (.inl a_stack_c))), (a_worth, .inl (cs 0, 4096, .inl a_worth_c))])) (va_Qi (fun (r : Int32) (u : (Nat → Int32) × (Nat → Nat → Int32)) => (r = (-1) ∧ IV 0 64 (u.1 1) ∧ (BS (u.2 1) 200) ∧ (TR (u.2 1)) ∧ (((u.2 1) 3).toInt ≤ 99)) ∨ (IV 1 6 a__rules ∧ IV 0 5 p0 ∧ IV 1 10 p1 ∧ IV 0 100 p2 ∧ IV 0 1 p3 ∧ IV 0 64 (u.1 1) ∧ (BS (u.2 1) 200) ∧ (TR (u.2 1)) ∧ (((u.2 1) 3).toInt ≤ 99))) (fun u t => ∃ (o_a_33 : Int64), ∃ (o_a_stack_c : Nat → Int64), ∃ (o_a_word_c : Nat → Int64), va_P D classes [(a_said, .inl (cs 0, 123, .inl (u.2 1))), (a_sign, .inl (cs 0, 2400, .inl a_sign_c)), (a_clause, .inl (cs 0, 360, .inl a_clause_c)), (a_clauses, .inl (cs 0, 6, .inl a_clauses_c)), (a, .inr (12, [.ref a_tape, .int a__taped, .int a__rules, .ref a_sign, .ref a_length, .ref a_clause, .ref a_clauses, .ref a_read, .int a__next, .int a__wrong, .int a__number, .int a__text, .int a__made, .int a__deep, .int a__lines, .ref a_open, .int a__opened, .ref a_stack, .int (u.1 1), .ref a_word, .ref a_said, .int a__x, .ref a_worth, .ref a_mate, .ref a_wasSaid, .int a__undone, .int (u.1 2), .ref a_wayBy, .ref a_wayThen, .int a__walkMost, .int a__walkGoing, .int a__walkSet, .ref a_kept, .long o_a_33, .ref a_images, .ref a_imageX, .ref a_isMade])), (a_kept, .inl (cs 0, 86, .inl (u.2 0))), (a_word, .inl (cs 3, 13, .inr (.inl o_a_word_c))), (a_stack, .inl (cs 3, 64, .inr (.inl o_a_stack_c))), (a_worth, .inl (cs 0, 4096, .inl a_worth_c))] t.heap ∧ va_D (va_A [(a_said, .inl (cs 0, 123, .inl a_said_c)), (a_sign, .inl (cs 0, 2400, .inl a_sign_c)), (a_clause, .inl (cs 0, 360, .inl a_clause_c)), (a_clauses, .inl (cs 0, 6, .inl a_clauses_c)), (a, .inr (12, [.ref a_tape, .int a__taped, .int a__rules, .ref a_sign, .ref a_length, .ref a_clause, .ref a_clauses, .ref a_read, .int a__next, .int a__wrong, .int a__number, .int a__text, .int a__made, .int a__deep, .int a__lines, .ref a_open, .int a__opened, .ref a_stack, .int a__top, .ref a_word, .ref a_said, .int a__x, .ref a_worth, .ref a_mate, .ref a_wasSaid, .int a__undone, .int a__boughtNow, .ref a_wayBy, .ref a_wayThen, .int a__walkMost, .int a__walkGoing, .int a__walkSet, .ref a_kept, .long a__drawX, .ref a_images, .ref a_imageX, .ref a_isMade])), (a_kept, .inl (cs 0, 86, .inl a_kept_c)), (a_word, .inl (cs 3, 13, .inr (.inl a_word_c))), (a_stack, .inl (cs 3, 64, .inr (.inl a_stack_c))), (a_worth, .inl (cs 0, 4096, .inl a_worth_c))] sz) [(a_said, .inl (cs 0, 123, .inl (u.2 1))), (a_sign, .inl (cs 0, 2400, .inl a_sign_c)), (a_clause, .inl (cs 0, 360, .inl a_clause_c)), (a_clauses, .inl (cs 0, 6, .inl a_clauses_c)), (a, .inr (12, [.ref a_tape, .int a__taped, .int a__rules, .ref a_sign, .ref a_length, .ref a_clause, .ref a_clauses, .ref a_read, .int a__next, .int a__wrong, .int a__number, .int a__text, .int a__made, .int a__deep, .int a__lines, .ref a_open, .int a__opened, .ref a_stack, .int (u.1 1), .ref a_word, .ref a_said, .int a__x, .ref a_worth, .ref a_mate, .ref a_wasSaid, .int a__undone, .int (u.1 2), .ref a_wayBy, .ref a_wayThen, .int a__walkMost, .int a__walkGoing, .int a__walkSet, .ref a_kept, .long o_a_33, .ref a_images, .ref a_imageX, .ref a_isMade])), (a_kept, .inl (cs 0, 86, .inl (u.2 0))), (a_word, .inl (cs 3, 13, .inr (.inl o_a_word_c))), (a_stack, .inl (cs 3, 64, .inr (.inl o_a_stack_c))), (a_worth, .inl (cs 0, 4096, .inl a_worth_c))]) (va_A [(a_said, .inl (cs 0, 123, .inl a_said_c)), (a_sign, .inl (cs 0, 2400, .inl a_sign_c)), (a_clause, .inl (cs 0, 360, .inl a_clause_c)), (a_clauses, .inl (cs 0, 6, .inl a_clauses_c)), (a, .inr (12, [.ref a_tape, .int a__taped, .int a__rules, .ref a_sign, .ref a_length, .ref a_clause, .ref a_clauses, .ref a_read, .int a__next, .int a__wrong, .int a__number, .int a__text, .int a__made, .int a__deep, .int a__lines, .ref a_open, .int a__opened, .ref a_stack, .int a__top, .ref a_word, .ref a_said, .int a__x, .ref a_worth, .ref a_mate, .ref a_wasSaid, .int a__undone, .int a__boughtNow, .ref a_wayBy, .ref a_wayThen, .int a__walkMost, .int a__walkGoing, .int a__walkSet, .ref a_kept, .long a__drawX, .ref a_images, .ref a_imageX, .ref a_isMade])), (a_kept, .inl (cs 0, 86, .inl a_kept_c)), (a_word, .inl (cs 3, 13, .inr (.inl a_word_c))), (a_stack, .inl (cs 3, 64, .inr (.inl a_stack_c))), (a_worth, .inl (cs 0, 4096, .inl a_worth_c))] sz)) 0 0 (va_A [(a_said, .inl (cs 0, 123, .inl a_said_c)), (a_sign, .inl (cs 0, 2400, .inl a_sign_c)), (a_clause, .inl (cs 0, 360, .inl a_clause_c)), (a_clauses, .inl (cs 0, 6, .inl a_clauses_c)), (a, .inr (12, [.ref a_tape, .int a__taped, .int a__rules, .ref a_sign, .ref a_length, .ref a_clause, .ref a_clauses, .ref a_read, .int a__next, .int a__wrong, .int a__number, .int a__text, .int a__made, .int a__deep, .int a__lines, .ref a_open, .int a__opened, .ref a_stack, .int a__top, .ref a_word, .ref a_said, .int a__x, .ref a_worth, .ref a_mate, .ref a_wasSaid, .int a__undone, .int a__boughtNow, .ref a_wayBy, .ref a_wayThen, .int a__walkMost, .int a__walkGoing, .int a__walkSet, .ref a_kept, .long a__drawX, .ref a_images, .ref a_imageX, .ref a_isMade])), (a_kept, .inl (cs 0, 86, .inl a_kept_c)), (a_word, .inl (cs 3, 13, .inr (.inl a_word_c))), (a_stack, .inl (cs 3, 64, .inr (.inl a_stack_c))), (a_worth, .inl (cs 0, 4096, .inl a_worth_c))] sz) := by
  refine Met.ofW (cc := cX12_fairs) (maxL := 9) (ret := (some .int)) (by decide) rfl ?_
  intro p e s m args below meth c s₁ B hml hv
  obtain ⟨rfl, hsz, hP, hD0, hE⟩ := hv
  have hx := B.exec
  have hb := B.bytes
  have hr := B.returns
  have hT : ∀ w ∈ TB, w.before _ s = true := fun w h => atoms_spec (ws := hz_w yX12_fairs cX12_fairs 9 (some .int)) B.pre w (List.mem_cons_of_mem _ h)
  have hown : s.vm.findClass RX12 = some m.cls := findClass_of_methodNamed B.named
  have hlocks := B.notSynchronized
  clear B
  subst hsz
  have hD := hD0.self (sz := s.heap.size)
  generalize hAe : va_A [(a_said, .inl (cs 0, 123, .inl a_said_c)), (a_sign, .inl (cs 0, 2400, .inl a_sign_c)), (a_clause, .inl (cs 0, 360, .inl a_clause_c)), (a_clauses, .inl (cs 0, 6, .inl a_clauses_c)), (a, .inr (12, [.ref a_tape, .int a__taped, .int a__rules, .ref a_sign, .ref a_length, .ref a_clause, .ref a_clauses, .ref a_read, .int a__next, .int a__wrong, .int a__number, .int a__text, .int a__made, .int a__deep, .int a__lines, .ref a_open, .int a__opened, .ref a_stack, .int a__top, .ref a_word, .ref a_said, .int a__x, .ref a_worth, .ref a_mate, .ref a_wasSaid, .int a__undone, .int a__boughtNow, .ref a_wayBy, .ref a_wayThen, .int a__walkMost, .int a__walkGoing, .int a__walkSet, .ref a_kept, .long a__drawX, .ref a_images, .ref a_imageX, .ref a_isMade])), (a_kept, .inl (cs 0, 86, .inl a_kept_c)), (a_word, .inl (cs 3, 13, .inr (.inl a_word_c))), (a_stack, .inl (cs 3, 64, .inr (.inl a_stack_c))), (a_worth, .inl (cs 0, 4096, .inl a_worth_c))] s.heap.size = A at hD hE ⊢
  have hA : ∀ q : Nat, s.heap.size ≤ q → A q := fun q h => by rw [← hAe]; exact Or.inr h
  clear hAe hD0
  have hS : va_S A s.heap s.heap [] := va_S.rf
  have hK := hE.1
  have hl := lv_entry ([.ref a, .int p0, .int p1, .int p2, .int p3]) (n := 9) (Nat.le_of_ble_eq_true rfl)
  rw [lg_entry_eq]
  generalize (lg_sl ([.ref a, .int p0, .int p1, .int p2, .int p3]) ++ List.replicate (9 - (lg_sl ([.ref a, .int p0, .int p1, .int p2, .int p3])).length) Slot.unset).toArray = ls at hl ⊢
  have hl : lv_has ls 9 [(0, .ref a), (1, .int p0), (2, .int p1), (3, .int p2), (4, .int p3)] := hl
  obtain ⟨H, eH⟩ : ∃ z, z = s.heap := ⟨_, rfl⟩
  have hP : va_P D classes [(a_said, .inl (cs 0, 123, .inl a_said_c)), (a_sign, .inl (cs 0, 2400, .inl a_sign_c)), (a_clause, .inl (cs 0, 360, .inl a_clause_c)), (a_clauses, .inl (cs 0, 6, .inl a_clauses_c)), (a, .inr (12, [.ref a_tape, .int a__taped, .int a__rules, .ref a_sign, .ref a_length, .ref a_clause, .ref a_clauses, .ref a_read, .int a__next, .int a__wrong, .int a__number, .int a__text, .int a__made, .int a__deep, .int a__lines, .ref a_open, .int a__opened, .ref a_stack, .int a__top, .ref a_word, .ref a_said, .int a__x, .ref a_worth, .ref a_mate, .ref a_wasSaid, .int a__undone, .int a__boughtNow, .ref a_wayBy, .ref a_wayThen, .int a__walkMost, .int a__walkGoing, .int a__walkSet, .ref a_kept, .long a__drawX, .ref a_images, .ref a_imageX, .ref a_isMade])), (a_kept, .inl (cs 0, 86, .inl a_kept_c)), (a_word, .inl (cs 3, 13, .inr (.inl a_word_c))), (a_stack, .inl (cs 3, 64, .inr (.inl a_stack_c))), (a_worth, .inl (cs 0, 4096, .inl a_worth_c))] H := by rw [eH]; exact hP
  have hS : va_S A s.heap H [] := by rw [eH]; exact hS
  rw [← eH]
  clear eH
  obtain ⟨locs, el⟩ : ∃ z : List Loc, z = [] := ⟨_, rfl⟩
  rw [← el] at hS ⊢
  clear el
  have z0 : (0 : Int32).toInt = 0 := by decide
  have z1 : (1 : Int32).toInt = 1 := by decide
  have zm1 : (-1 : Int32).toInt = -1 := by decide
  have i_a__lines : 0 ≤ a__lines.toInt ∧ a__lines.toInt ≤ 40 := h_a__lines
  have i_a__made : 0 ≤ a__made.toInt ∧ a__made.toInt ≤ 60 := h_a__made
  have i_a__next : 0 ≤ a__next.toInt ∧ a__next.toInt ≤ 400 := h_a__next
  have i_a__opened : 0 ≤ a__opened.toInt ∧ a__opened.toInt ≤ 400 := h_a__opened
  have i_a__rules : 0 ≤ a__rules.toInt ∧ a__rules.toInt ≤ 6 := h_a__rules
  have i_a__taped : 0 ≤ a__taped.toInt ∧ a__taped.toInt ≤ 400 := h_a__taped
  have i_a__text : 0 ≤ a__text.toInt ∧ a__text.toInt ≤ 6 := h_a__text
  have i_a__top : 0 ≤ a__top.toInt ∧ a__top.toInt ≤ 64 := h_a__top
  have i_a__undone : 0 ≤ a__undone.toInt ∧ a__undone.toInt ≤ 20 := h_a__undone
  have i_a__x : 0 ≤ a__x.toInt ∧ a__x.toInt ≤ 2147483647 := h_a__x
  have K82 : ∀ (n : Nat) (k82_L_7 : Int32) (k82_L_6 : Int32) (k82_L_5 : Int32) (k82_C_a_word : Nat → Int64) (k82_C_a_stack : Nat → Int64) (k82_C_a_kept : Nat → Int32) (k82_C_a_said : Nat → Int32) (k82_F_a_18 : Int32) (k82_F_a_26 : Int32) (k82_F_a_33 : Int64), (11 - k82_L_7.toInt).toNat ≤ n → IV 1 6 a__rules → IV 0 64 k82_F_a_18 → IV (-2147483648) 24 k82_L_6 → IV 0 10 k82_L_7 → IV 0 5 p0 → IV 1 10 p1 → IV 0 100 p2 → IV 0 1 p3 → (BS k82_C_a_said 200) → (TR k82_C_a_said) → ((k82_C_a_said 3).toInt ≤ 99) → (BS k82_C_a_kept 99) → (0 ≤ k82_F_a_33.toInt ∧ k82_F_a_33.toInt < 2147483648) → (p0.toInt < a__rules.toInt) → ∀ (H : Heap) (locs : List Loc), va_P D classes [(a_sign, .inl (cs 0, 2400, .inl a_sign_c)), (a_clause, .inl (cs 0, 360, .inl a_clause_c)), (a_clauses, .inl (cs 0, 6, .inl a_clauses_c)), (a_word, .inl (cs 3, 13, .inr (.inl k82_C_a_word))), (a_stack, .inl (cs 3, 64, .inr (.inl k82_C_a_stack))), (a_worth, .inl (cs 0, 4096, .inl a_worth_c)), (a_kept, .inl (cs 0, 86, .inl k82_C_a_kept)), (a_said, .inl (cs 0, 123, .inl k82_C_a_said)), (a, .inr (12, [.ref a_tape, .int a__taped, .int a__rules, .ref a_sign, .ref a_length, .ref a_clause, .ref a_clauses, .ref a_read, .int a__next, .int a__wrong, .int a__number, .int a__text, .int a__made, .int a__deep, .int a__lines, .ref a_open, .int a__opened, .ref a_stack, .int k82_F_a_18, .ref a_word, .ref a_said, .int a__x, .ref a_worth, .ref a_mate, .ref a_wasSaid, .int a__undone, .int k82_F_a_26, .ref a_wayBy, .ref a_wayThen, .int a__walkMost, .int a__walkGoing, .int a__walkSet, .ref a_kept, .long k82_F_a_33, .ref a_images, .ref a_imageX, .ref a_isMade]))] H → va_D A [(a_sign, .inl (cs 0, 2400, .inl a_sign_c)), (a_clause, .inl (cs 0, 360, .inl a_clause_c)), (a_clauses, .inl (cs 0, 6, .inl a_clauses_c)), (a_word, .inl (cs 3, 13, .inr (.inl k82_C_a_word))), (a_stack, .inl (cs 3, 64, .inr (.inl k82_C_a_stack))), (a_worth, .inl (cs 0, 4096, .inl a_worth_c)), (a_kept, .inl (cs 0, 86, .inl k82_C_a_kept)), (a_said, .inl (cs 0, 123, .inl k82_C_a_said)), (a, .inr (12, [.ref a_tape, .int a__taped, .int a__rules, .ref a_sign, .ref a_length, .ref a_clause, .ref a_clauses, .ref a_read, .int a__next, .int a__wrong, .int a__number, .int a__text, .int a__made, .int a__deep, .int a__lines, .ref a_open, .int a__opened, .ref a_stack, .int k82_F_a_18, .ref a_word, .ref a_said, .int a__x, .ref a_worth, .ref a_mate, .ref a_wasSaid, .int a__undone, .int k82_F_a_26, .ref a_wayBy, .ref a_wayThen, .int a__walkMost, .int a__walkGoing, .int a__walkSet, .ref a_kept, .long k82_F_a_33, .ref a_images, .ref a_imageX, .ref a_isMade]))] → va_S A s.heap H locs → ∀ ls : Array Slot, lv_has ls 9 [(7, .int k82_L_7), (6, .int k82_L_6), (5, .int k82_L_5), (0, .ref a), (1, .int p0), (2, .int p1), (3, .int p2), (4, .int p3)] → W p l e (headSpec (hz_w yX12_fairs cX12_fairs 9 (some .int)) ({ frames := 8, cells := 0, slots := 0, locals := 190 })).room s m [.ref a, .int p0, .int p1, .int p2, .int p3].toArray below meth c H locs 0 0 (MQ below (va_Qi (fun (r : Int32) (u : (Nat → Int32) × (Nat → Nat → Int32)) => (r = (-1) ∧ IV 0 64 (u.1 1) ∧ (BS (u.2 1) 200) ∧ (TR (u.2 1)) ∧ (((u.2 1) 3).toInt ≤ 99)) ∨ (IV 1 6 a__rules ∧ IV 0 5 p0 ∧ IV 1 10 p1 ∧ IV 0 100 p2 ∧ IV 0 1 p3 ∧ IV 0 64 (u.1 1) ∧ (BS (u.2 1) 200) ∧ (TR (u.2 1)) ∧ (((u.2 1) 3).toInt ≤ 99))) (fun u t => ∃ (o_a_33 : Int64), ∃ (o_a_stack_c : Nat → Int64), ∃ (o_a_word_c : Nat → Int64), va_P D classes [(a_said, .inl (cs 0, 123, .inl (u.2 1))), (a_sign, .inl (cs 0, 2400, .inl a_sign_c)), (a_clause, .inl (cs 0, 360, .inl a_clause_c)), (a_clauses, .inl (cs 0, 6, .inl a_clauses_c)), (a, .inr (12, [.ref a_tape, .int a__taped, .int a__rules, .ref a_sign, .ref a_length, .ref a_clause, .ref a_clauses, .ref a_read, .int a__next, .int a__wrong, .int a__number, .int a__text, .int a__made, .int a__deep, .int a__lines, .ref a_open, .int a__opened, .ref a_stack, .int (u.1 1), .ref a_word, .ref a_said, .int a__x, .ref a_worth, .ref a_mate, .ref a_wasSaid, .int a__undone, .int (u.1 2), .ref a_wayBy, .ref a_wayThen, .int a__walkMost, .int a__walkGoing, .int a__walkSet, .ref a_kept, .long o_a_33, .ref a_images, .ref a_imageX, .ref a_isMade])), (a_kept, .inl (cs 0, 86, .inl (u.2 0))), (a_word, .inl (cs 3, 13, .inr (.inl o_a_word_c))), (a_stack, .inl (cs 3, 64, .inr (.inl o_a_stack_c))), (a_worth, .inl (cs 0, 4096, .inl a_worth_c))] t.heap ∧ va_D A [(a_said, .inl (cs 0, 123, .inl (u.2 1))), (a_sign, .inl (cs 0, 2400, .inl a_sign_c)), (a_clause, .inl (cs 0, 360, .inl a_clause_c)), (a_clauses, .inl (cs 0, 6, .inl a_clauses_c)), (a, .inr (12, [.ref a_tape, .int a__taped, .int a__rules, .ref a_sign, .ref a_length, .ref a_clause, .ref a_clauses, .ref a_read, .int a__next, .int a__wrong, .int a__number, .int a__text, .int a__made, .int a__deep, .int a__lines, .ref a_open, .int a__opened, .ref a_stack, .int (u.1 1), .ref a_word, .ref a_said, .int a__x, .ref a_worth, .ref a_mate, .ref a_wasSaid, .int a__undone, .int (u.1 2), .ref a_wayBy, .ref a_wayThen, .int a__walkMost, .int a__walkGoing, .int a__walkSet, .ref a_kept, .long o_a_33, .ref a_images, .ref a_imageX, .ref a_isMade])), (a_kept, .inl (cs 0, 86, .inl (u.2 0))), (a_word, .inl (cs 3, 13, .inr (.inl o_a_word_c))), (a_stack, .inl (cs 3, 64, .inr (.inl o_a_stack_c))), (a_worth, .inl (cs 0, 4096, .inl a_worth_c))]) A) [.ref a, .int p0, .int p1, .int p2, .int p3].toArray s 0 0 A) (F0 m 82 ls []) := by
    intro n
    induction n with
    | zero =>
      intro k82_L_7 k82_L_6 k82_L_5 k82_C_a_word k82_C_a_stack k82_C_a_kept k82_C_a_said k82_F_a_18 k82_F_a_26 k82_F_a_33 hn q82_4 q82_9 q82_10 q82_11 q82_12 q82_13 q82_14 q82_15 x82_0 x82_1 x82_2 x82_3 x82_4 x82_5 H locs hP hD hS ls hl
      have i_a__lines : 0 ≤ a__lines.toInt ∧ a__lines.toInt ≤ 40 := h_a__lines
      have i_a__made : 0 ≤ a__made.toInt ∧ a__made.toInt ≤ 60 := h_a__made
      have i_a__next : 0 ≤ a__next.toInt ∧ a__next.toInt ≤ 400 := h_a__next
      have i_a__opened : 0 ≤ a__opened.toInt ∧ a__opened.toInt ≤ 400 := h_a__opened
      have i_a__rules : 1 ≤ a__rules.toInt ∧ a__rules.toInt ≤ 6 := q82_4
      have i_a__taped : 0 ≤ a__taped.toInt ∧ a__taped.toInt ≤ 400 := h_a__taped
      have i_a__text : 0 ≤ a__text.toInt ∧ a__text.toInt ≤ 6 := h_a__text
      have i_a__undone : 0 ≤ a__undone.toInt ∧ a__undone.toInt ≤ 20 := h_a__undone
      have i_a__x : 0 ≤ a__x.toInt ∧ a__x.toInt ≤ 2147483647 := h_a__x
      have i_k82_F_a_18 : 0 ≤ k82_F_a_18.toInt ∧ k82_F_a_18.toInt ≤ 64 := q82_9
      have i_k82_L_6 : (-2147483648) ≤ k82_L_6.toInt ∧ k82_L_6.toInt ≤ 24 := q82_10
      have i_k82_L_7 : 0 ≤ k82_L_7.toInt ∧ k82_L_7.toInt ≤ 10 := q82_11
      have i_p0 : 0 ≤ p0.toInt ∧ p0.toInt ≤ 5 := q82_12
      have i_p1 : 1 ≤ p1.toInt ∧ p1.toInt ≤ 10 := q82_13
      have i_p2 : 0 ≤ p2.toInt ∧ p2.toInt ≤ 100 := q82_14
      have i_p3 : 0 ≤ p3.toInt ∧ p3.toInt ≤ 1 := q82_15
      exact absurd hn (by omega)
    | succ n ih82 =>
      intro k82_L_7 k82_L_6 k82_L_5 k82_C_a_word k82_C_a_stack k82_C_a_kept k82_C_a_said k82_F_a_18 k82_F_a_26 k82_F_a_33 hn q82_4 q82_9 q82_10 q82_11 q82_12 q82_13 q82_14 q82_15 x82_0 x82_1 x82_2 x82_3 x82_4 x82_5 H locs hP hD hS ls hl
      have i_a__lines : 0 ≤ a__lines.toInt ∧ a__lines.toInt ≤ 40 := h_a__lines
      have i_a__made : 0 ≤ a__made.toInt ∧ a__made.toInt ≤ 60 := h_a__made
      have i_a__next : 0 ≤ a__next.toInt ∧ a__next.toInt ≤ 400 := h_a__next
      have i_a__opened : 0 ≤ a__opened.toInt ∧ a__opened.toInt ≤ 400 := h_a__opened
      have i_a__rules : 1 ≤ a__rules.toInt ∧ a__rules.toInt ≤ 6 := q82_4
      have i_a__taped : 0 ≤ a__taped.toInt ∧ a__taped.toInt ≤ 400 := h_a__taped
      have i_a__text : 0 ≤ a__text.toInt ∧ a__text.toInt ≤ 6 := h_a__text
      have i_a__undone : 0 ≤ a__undone.toInt ∧ a__undone.toInt ≤ 20 := h_a__undone
      have i_a__x : 0 ≤ a__x.toInt ∧ a__x.toInt ≤ 2147483647 := h_a__x
      have i_k82_F_a_18 : 0 ≤ k82_F_a_18.toInt ∧ k82_F_a_18.toInt ≤ 64 := q82_9
      have i_k82_L_6 : (-2147483648) ≤ k82_L_6.toInt ∧ k82_L_6.toInt ≤ 24 := q82_10
      have i_k82_L_7 : 0 ≤ k82_L_7.toInt ∧ k82_L_7.toInt ≤ 10 := q82_11
      have i_p0 : 0 ≤ p0.toInt ∧ p0.toInt ≤ 5 := q82_12
      have i_p1 : 1 ≤ p1.toInt ∧ p1.toInt ≤ 10 := q82_13
      have i_p2 : 0 ≤ p2.toInt ∧ p2.toInt ≤ 100 := q82_14
      have i_p3 : 0 ≤ p3.toInt ∧ p3.toInt ≤ 1 := q82_15
      have K113 : ∀ (n : Nat) (k113_L_8 : Int32) (k113_L_5 : Int32) (k113_C_a_word : Nat → Int64) (k113_C_a_stack : Nat → Int64) (k113_C_a_said : Nat → Int32) (k113_F_a_18 : Int32) (k113_F_a_26 : Int32) (k113_F_a_33 : Int64), (5 - k113_L_8.toInt).toNat ≤ n → IV 1 6 a__rules → IV 0 64 k113_F_a_18 → IV 0 4 k113_L_8 → IV (-2147483648) 60 k82_L_6 → IV 0 9 k82_L_7 → IV 0 5 p0 → IV 1 10 p1 → IV 0 100 p2 → IV 0 1 p3 → (BS k113_C_a_said 200) → (TR k113_C_a_said) → (BS k82_C_a_kept 99) → (0 ≤ k113_F_a_33.toInt ∧ k113_F_a_33.toInt < 2147483648) → (p0.toInt < a__rules.toInt) → ∀ (H : Heap) (locs : List Loc), va_P D classes [(a_sign, .inl (cs 0, 2400, .inl a_sign_c)), (a_clause, .inl (cs 0, 360, .inl a_clause_c)), (a_clauses, .inl (cs 0, 6, .inl a_clauses_c)), (a_word, .inl (cs 3, 13, .inr (.inl k113_C_a_word))), (a_stack, .inl (cs 3, 64, .inr (.inl k113_C_a_stack))), (a_worth, .inl (cs 0, 4096, .inl a_worth_c)), (a_kept, .inl (cs 0, 86, .inl k82_C_a_kept)), (a_said, .inl (cs 0, 123, .inl k113_C_a_said)), (a, .inr (12, [.ref a_tape, .int a__taped, .int a__rules, .ref a_sign, .ref a_length, .ref a_clause, .ref a_clauses, .ref a_read, .int a__next, .int a__wrong, .int a__number, .int a__text, .int a__made, .int a__deep, .int a__lines, .ref a_open, .int a__opened, .ref a_stack, .int k113_F_a_18, .ref a_word, .ref a_said, .int a__x, .ref a_worth, .ref a_mate, .ref a_wasSaid, .int a__undone, .int k113_F_a_26, .ref a_wayBy, .ref a_wayThen, .int a__walkMost, .int a__walkGoing, .int a__walkSet, .ref a_kept, .long k113_F_a_33, .ref a_images, .ref a_imageX, .ref a_isMade]))] H → va_D A [(a_sign, .inl (cs 0, 2400, .inl a_sign_c)), (a_clause, .inl (cs 0, 360, .inl a_clause_c)), (a_clauses, .inl (cs 0, 6, .inl a_clauses_c)), (a_word, .inl (cs 3, 13, .inr (.inl k113_C_a_word))), (a_stack, .inl (cs 3, 64, .inr (.inl k113_C_a_stack))), (a_worth, .inl (cs 0, 4096, .inl a_worth_c)), (a_kept, .inl (cs 0, 86, .inl k82_C_a_kept)), (a_said, .inl (cs 0, 123, .inl k113_C_a_said)), (a, .inr (12, [.ref a_tape, .int a__taped, .int a__rules, .ref a_sign, .ref a_length, .ref a_clause, .ref a_clauses, .ref a_read, .int a__next, .int a__wrong, .int a__number, .int a__text, .int a__made, .int a__deep, .int a__lines, .ref a_open, .int a__opened, .ref a_stack, .int k113_F_a_18, .ref a_word, .ref a_said, .int a__x, .ref a_worth, .ref a_mate, .ref a_wasSaid, .int a__undone, .int k113_F_a_26, .ref a_wayBy, .ref a_wayThen, .int a__walkMost, .int a__walkGoing, .int a__walkSet, .ref a_kept, .long k113_F_a_33, .ref a_images, .ref a_imageX, .ref a_isMade]))] → va_S A s.heap H locs → ∀ ls : Array Slot, lv_has ls 9 [(8, .int k113_L_8), (7, .int k82_L_7), (6, .int k82_L_6), (5, .int k113_L_5), (0, .ref a), (1, .int p0), (2, .int p1), (3, .int p2), (4, .int p3)] → W p l e (headSpec (hz_w yX12_fairs cX12_fairs 9 (some .int)) ({ frames := 8, cells := 0, slots := 0, locals := 190 })).room s m [.ref a, .int p0, .int p1, .int p2, .int p3].toArray below meth c H locs 0 0 (MQ below (va_Qi (fun (r : Int32) (u : (Nat → Int32) × (Nat → Nat → Int32)) => (r = (-1) ∧ IV 0 64 (u.1 1) ∧ (BS (u.2 1) 200) ∧ (TR (u.2 1)) ∧ (((u.2 1) 3).toInt ≤ 99)) ∨ (IV 1 6 a__rules ∧ IV 0 5 p0 ∧ IV 1 10 p1 ∧ IV 0 100 p2 ∧ IV 0 1 p3 ∧ IV 0 64 (u.1 1) ∧ (BS (u.2 1) 200) ∧ (TR (u.2 1)) ∧ (((u.2 1) 3).toInt ≤ 99))) (fun u t => ∃ (o_a_33 : Int64), ∃ (o_a_stack_c : Nat → Int64), ∃ (o_a_word_c : Nat → Int64), va_P D classes [(a_said, .inl (cs 0, 123, .inl (u.2 1))), (a_sign, .inl (cs 0, 2400, .inl a_sign_c)), (a_clause, .inl (cs 0, 360, .inl a_clause_c)), (a_clauses, .inl (cs 0, 6, .inl a_clauses_c)), (a, .inr (12, [.ref a_tape, .int a__taped, .int a__rules, .ref a_sign, .ref a_length, .ref a_clause, .ref a_clauses, .ref a_read, .int a__next, .int a__wrong, .int a__number, .int a__text, .int a__made, .int a__deep, .int a__lines, .ref a_open, .int a__opened, .ref a_stack, .int (u.1 1), .ref a_word, .ref a_said, .int a__x, .ref a_worth, .ref a_mate, .ref a_wasSaid, .int a__undone, .int (u.1 2), .ref a_wayBy, .ref a_wayThen, .int a__walkMost, .int a__walkGoing, .int a__walkSet, .ref a_kept, .long o_a_33, .ref a_images, .ref a_imageX, .ref a_isMade])), (a_kept, .inl (cs 0, 86, .inl (u.2 0))), (a_word, .inl (cs 3, 13, .inr (.inl o_a_word_c))), (a_stack, .inl (cs 3, 64, .inr (.inl o_a_stack_c))), (a_worth, .inl (cs 0, 4096, .inl a_worth_c))] t.heap ∧ va_D A [(a_said, .inl (cs 0, 123, .inl (u.2 1))), (a_sign, .inl (cs 0, 2400, .inl a_sign_c)), (a_clause, .inl (cs 0, 360, .inl a_clause_c)), (a_clauses, .inl (cs 0, 6, .inl a_clauses_c)), (a, .inr (12, [.ref a_tape, .int a__taped, .int a__rules, .ref a_sign, .ref a_length, .ref a_clause, .ref a_clauses, .ref a_read, .int a__next, .int a__wrong, .int a__number, .int a__text, .int a__made, .int a__deep, .int a__lines, .ref a_open, .int a__opened, .ref a_stack, .int (u.1 1), .ref a_word, .ref a_said, .int a__x, .ref a_worth, .ref a_mate, .ref a_wasSaid, .int a__undone, .int (u.1 2), .ref a_wayBy, .ref a_wayThen, .int a__walkMost, .int a__walkGoing, .int a__walkSet, .ref a_kept, .long o_a_33, .ref a_images, .ref a_imageX, .ref a_isMade])), (a_kept, .inl (cs 0, 86, .inl (u.2 0))), (a_word, .inl (cs 3, 13, .inr (.inl o_a_word_c))), (a_stack, .inl (cs 3, 64, .inr (.inl o_a_stack_c))), (a_worth, .inl (cs 0, 4096, .inl a_worth_c))]) A) [.ref a, .int p0, .int p1, .int p2, .int p3].toArray s 0 0 A) (F0 m 113 ls []) := by
        intro n
        induction n with
        | zero =>
          intro k113_L_8 k113_L_5 k113_C_a_word k113_C_a_stack k113_C_a_said k113_F_a_18 k113_F_a_26 k113_F_a_33 hn q113_4 q113_9 q113_10 q113_11 q113_12 q113_13 q113_14 q113_15 q113_16 x113_0 x113_1 x113_2 x113_3 x113_4 H locs hP hD hS ls hl
          have i_a__lines : 0 ≤ a__lines.toInt ∧ a__lines.toInt ≤ 40 := h_a__lines
          have i_a__made : 0 ≤ a__made.toInt ∧ a__made.toInt ≤ 60 := h_a__made
          have i_a__next : 0 ≤ a__next.toInt ∧ a__next.toInt ≤ 400 := h_a__next
          have i_a__opened : 0 ≤ a__opened.toInt ∧ a__opened.toInt ≤ 400 := h_a__opened
          have i_a__rules : 1 ≤ a__rules.toInt ∧ a__rules.toInt ≤ 6 := q113_4
          have i_a__taped : 0 ≤ a__taped.toInt ∧ a__taped.toInt ≤ 400 := h_a__taped
          have i_a__text : 0 ≤ a__text.toInt ∧ a__text.toInt ≤ 6 := h_a__text
          have i_a__undone : 0 ≤ a__undone.toInt ∧ a__undone.toInt ≤ 20 := h_a__undone
          have i_a__x : 0 ≤ a__x.toInt ∧ a__x.toInt ≤ 2147483647 := h_a__x
          have i_k113_F_a_18 : 0 ≤ k113_F_a_18.toInt ∧ k113_F_a_18.toInt ≤ 64 := q113_9
          have i_k113_L_8 : 0 ≤ k113_L_8.toInt ∧ k113_L_8.toInt ≤ 4 := q113_10
          have i_k82_L_6 : (-2147483648) ≤ k82_L_6.toInt ∧ k82_L_6.toInt ≤ 60 := q113_11
          have i_k82_L_7 : 0 ≤ k82_L_7.toInt ∧ k82_L_7.toInt ≤ 9 := q113_12
          have i_p0 : 0 ≤ p0.toInt ∧ p0.toInt ≤ 5 := q113_13
          have i_p1 : 1 ≤ p1.toInt ∧ p1.toInt ≤ 10 := q113_14
          have i_p2 : 0 ≤ p2.toInt ∧ p2.toInt ≤ 100 := q113_15
          have i_p3 : 0 ≤ p3.toInt ∧ p3.toInt ≤ 1 := q113_16
          exact absurd hn (by omega)
        | succ n ih113 =>
          intro k113_L_8 k113_L_5 k113_C_a_word k113_C_a_stack k113_C_a_said k113_F_a_18 k113_F_a_26 k113_F_a_33 hn q113_4 q113_9 q113_10 q113_11 q113_12 q113_13 q113_14 q113_15 q113_16 x113_0 x113_1 x113_2 x113_3 x113_4 H locs hP hD hS ls hl
          have i_a__lines : 0 ≤ a__lines.toInt ∧ a__lines.toInt ≤ 40 := h_a__lines
          have i_a__made : 0 ≤ a__made.toInt ∧ a__made.toInt ≤ 60 := h_a__made
          have i_a__next : 0 ≤ a__next.toInt ∧ a__next.toInt ≤ 400 := h_a__next
          have i_a__opened : 0 ≤ a__opened.toInt ∧ a__opened.toInt ≤ 400 := h_a__opened
          have i_a__rules : 1 ≤ a__rules.toInt ∧ a__rules.toInt ≤ 6 := q113_4
          have i_a__taped : 0 ≤ a__taped.toInt ∧ a__taped.toInt ≤ 400 := h_a__taped
          have i_a__text : 0 ≤ a__text.toInt ∧ a__text.toInt ≤ 6 := h_a__text
          have i_a__undone : 0 ≤ a__undone.toInt ∧ a__undone.toInt ≤ 20 := h_a__undone
          have i_a__x : 0 ≤ a__x.toInt ∧ a__x.toInt ≤ 2147483647 := h_a__x
          have i_k113_F_a_18 : 0 ≤ k113_F_a_18.toInt ∧ k113_F_a_18.toInt ≤ 64 := q113_9
          have i_k113_L_8 : 0 ≤ k113_L_8.toInt ∧ k113_L_8.toInt ≤ 4 := q113_10
          have i_k82_L_6 : (-2147483648) ≤ k82_L_6.toInt ∧ k82_L_6.toInt ≤ 60 := q113_11
          have i_k82_L_7 : 0 ≤ k82_L_7.toInt ∧ k82_L_7.toInt ≤ 9 := q113_12
          have i_p0 : 0 ≤ p0.toInt ∧ p0.toInt ≤ 5 := q113_13
          have i_p1 : 1 ≤ p1.toInt ∧ p1.toInt ≤ 10 := q113_14
          have i_p2 : 0 ≤ p2.toInt ∧ p2.toInt ≤ 100 := q113_15
          have i_p3 : 0 ≤ p3.toInt ∧ p3.toInt ≤ 1 := q113_16
          refine lv_iload hx hb dX12_fairs_113 (lv_at hl 0 rfl) ?_
          refine lv_aload_n hx hb dX12_fairs_115 rfl (lv_at hl 4 rfl) ?_
          refine va_get (D := D) (ci := 12) (v := .ref a_said) (C := RX12) (T := TX12) (N := 37) hx hb hT i_X12 hown hK hP 8 rfl rfl 20 (by decide) (hT _ q_185) (fun _ h9 => h9) rfl dX12_fairs_116 ?_
          refine lv_iconst (v := 2) hx hb dX12_fairs_119 (by decide) ?_
          refine va_iald hx hb hK hP 7 0 rfl rfl (iv_vc (by decide)) dX12_fairs_120 ?_
          refine lv_topi (fun v1 ev1 => ?_)
          have h2 : IV 0 4 v1 := (by rw [ev1]; exact bs_i2 x113_0)
          have ii3 : 0 ≤ v1.toInt ∧ v1.toInt ≤ 4 := h2
          have lv1 : v1.toInt = (k113_C_a_said 2).toInt := by rw [ev1]; rfl
          refine lv_icmp_ge (tgt := 146) hx hb dX12_fairs_121 (by decide) (fun c4 => ?_) (fun c4 => ?_)
          · have t5 : k113_L_8.toInt ≥ v1.toInt := lin_ge c4 rfl rfl
            refine lv_aload_n hx hb dX12_fairs_146 rfl (lv_at hl 4 rfl) ?_
            have hFc := va_free (wc := [(a_said, .inl (cs 0, 123, .inl k113_C_a_said)), (a_kept, .inl (cs 0, 86, .inl k82_C_a_kept)), (a, .inr (12, [.ref a_tape, .int a__taped, .int a__rules, .ref a_sign, .ref a_length, .ref a_clause, .ref a_clauses, .ref a_read, .int a__next, .int a__wrong, .int a__number, .int a__text, .int a__made, .int a__deep, .int a__lines, .ref a_open, .int a__opened, .ref a_stack, .int k113_F_a_18, .ref a_word, .ref a_said, .int a__x, .ref a_worth, .ref a_mate, .ref a_wasSaid, .int a__undone, .int k113_F_a_26, .ref a_wayBy, .ref a_wayThen, .int a__walkMost, .int a__walkGoing, .int a__walkSet, .ref a_kept, .long k113_F_a_33, .ref a_images, .ref a_imageX, .ref a_isMade]))]) hD hS hA [7,6,8] rfl
            refine va_callv (va_runV (As := []) (rest := []) ⟨hx, hb, hml, hown, hT⟩ (c_X12_putsBack l D cs kK kV a a_said k113_C_a_said a_kept k82_C_a_kept a_tape a__taped a__rules a_sign a_length a_clause a_clauses a_read a__next a__wrong a__number a__text a__made a__deep a__lines a_open a__opened a_stack k113_F_a_18 a_word a__x a_worth a_mate a_wasSaid a__undone k113_F_a_26 a_wayBy a_wayThen a__walkMost a__walkGoing a__walkSet k113_F_a_33 a_images a_imageX a_isMade h_a__taped ((iv_w q113_4 (by decide) (by decide))) h_a__next h_a__text h_a__made h_a__lines h_a__opened q113_9 h_a__x h_a__undone H.size) (cwV 0 hT (hz_gV q_1281 q_1282 q_1283 q_701 q_1284) rfl rfl rfl (by decide +kernel) ⟨(Nat.le_of_ble_eq_true rfl), (Nat.le_of_ble_eq_true rfl)⟩) ⟨hz_C.blind, va_recv hK hP (ci := 12) (q0 := 8) rfl rfl, hz_C.mk (hP.sub (ws' := [(a_said, .inl (cs 0, 123, .inl k113_C_a_said)), (a_kept, .inl (cs 0, 86, .inl k82_C_a_kept)), (a, .inr (12, [.ref a_tape, .int a__taped, .int a__rules, .ref a_sign, .ref a_length, .ref a_clause, .ref a_clauses, .ref a_read, .int a__next, .int a__wrong, .int a__number, .int a__text, .int a__made, .int a__deep, .int a__lines, .ref a_open, .int a__opened, .ref a_stack, .int k113_F_a_18, .ref a_word, .ref a_said, .int a__x, .ref a_worth, .ref a_mate, .ref a_wasSaid, .int a__undone, .int k113_F_a_26, .ref a_wayBy, .ref a_wayThen, .int a__walkMost, .int a__walkGoing, .int a__walkSet, .ref a_kept, .long k113_F_a_33, .ref a_images, .ref a_imageX, .ref a_isMade]))]) [7,6,8] rfl) (hD.sub (ws' := [(a_said, .inl (cs 0, 123, .inl k113_C_a_said)), (a_kept, .inl (cs 0, 86, .inl k82_C_a_kept)), (a, .inr (12, [.ref a_tape, .int a__taped, .int a__rules, .ref a_sign, .ref a_length, .ref a_clause, .ref a_clauses, .ref a_read, .int a__next, .int a__wrong, .int a__number, .int a__text, .int a__made, .int a__deep, .int a__lines, .ref a_open, .int a__opened, .ref a_stack, .int k113_F_a_18, .ref a_word, .ref a_said, .int a__x, .ref a_worth, .ref a_mate, .ref a_wasSaid, .int a__undone, .int k113_F_a_26, .ref a_wayBy, .ref a_wayThen, .int a__walkMost, .int a__walkGoing, .int a__walkSet, .ref a_kept, .long k113_F_a_33, .ref a_images, .ref a_imageX, .ref a_isMade]))]) [7,6,8] (by decide) rfl) hE hS hFc⟩ rfl rfl hl.1 rfl (lv_room (Nat.le_of_ble_eq_true rfl)) dX12_fairs_147 ⟨(Nat.le_of_ble_eq_true rfl), (Nat.le_of_ble_eq_true rfl)⟩) hS (fun q _ h => hFc q h) hFc (fun o7 t H1 locs ht hvm hw hB hz1 hk1 hS => ?_)
            obtain ⟨hP1, hD1⟩ := hB
            rw [ht] at hP1
            obtain ⟨hP, hD⟩ := va_join (wr := [(a_sign, .inl (cs 0, 2400, .inl a_sign_c)), (a_clause, .inl (cs 0, 360, .inl a_clause_c)), (a_clauses, .inl (cs 0, 6, .inl a_clauses_c)), (a_word, .inl (cs 3, 13, .inr (.inl k113_C_a_word))), (a_stack, .inl (cs 3, 64, .inr (.inl k113_C_a_stack))), (a_worth, .inl (cs 0, 4096, .inl a_worth_c))]) (w1 := [(a_said, .inl (cs 0, 123, .inl (o7.2 0))), (a_kept, .inl (cs 0, 86, .inl k82_C_a_kept)), (a, .inr (12, [.ref a_tape, .int a__taped, .int a__rules, .ref a_sign, .ref a_length, .ref a_clause, .ref a_clauses, .ref a_read, .int a__next, .int a__wrong, .int a__number, .int a__text, .int a__made, .int a__deep, .int a__lines, .ref a_open, .int a__opened, .ref a_stack, .int k113_F_a_18, .ref a_word, .ref a_said, .int a__x, .ref a_worth, .ref a_mate, .ref a_wasSaid, .int a__undone, .int k113_F_a_26, .ref a_wayBy, .ref a_wayThen, .int a__walkMost, .int a__walkGoing, .int a__walkSet, .ref a_kept, .long k113_F_a_33, .ref a_images, .ref a_imageX, .ref a_isMade]))]) hP hD [7, 6, 8] [0, 1, 2, 3, 4, 5] rfl rfl (by decide) (by decide) hk1 hFc hP1 hD1
            generalize H1 = H at hP hS ⊢
            have hP : va_P D classes [(a_sign, .inl (cs 0, 2400, .inl a_sign_c)), (a_clause, .inl (cs 0, 360, .inl a_clause_c)), (a_clauses, .inl (cs 0, 6, .inl a_clauses_c)), (a_word, .inl (cs 3, 13, .inr (.inl k113_C_a_word))), (a_stack, .inl (cs 3, 64, .inr (.inl k113_C_a_stack))), (a_worth, .inl (cs 0, 4096, .inl a_worth_c)), (a_said, .inl (cs 0, 123, .inl (o7.2 0))), (a_kept, .inl (cs 0, 86, .inl k82_C_a_kept)), (a, .inr (12, [.ref a_tape, .int a__taped, .int a__rules, .ref a_sign, .ref a_length, .ref a_clause, .ref a_clauses, .ref a_read, .int a__next, .int a__wrong, .int a__number, .int a__text, .int a__made, .int a__deep, .int a__lines, .ref a_open, .int a__opened, .ref a_stack, .int k113_F_a_18, .ref a_word, .ref a_said, .int a__x, .ref a_worth, .ref a_mate, .ref a_wasSaid, .int a__undone, .int k113_F_a_26, .ref a_wayBy, .ref a_wayThen, .int a__walkMost, .int a__walkGoing, .int a__walkSet, .ref a_kept, .long k113_F_a_33, .ref a_images, .ref a_imageX, .ref a_isMade]))] H := hP
            have hD : va_D A [(a_sign, .inl (cs 0, 2400, .inl a_sign_c)), (a_clause, .inl (cs 0, 360, .inl a_clause_c)), (a_clauses, .inl (cs 0, 6, .inl a_clauses_c)), (a_word, .inl (cs 3, 13, .inr (.inl k113_C_a_word))), (a_stack, .inl (cs 3, 64, .inr (.inl k113_C_a_stack))), (a_worth, .inl (cs 0, 4096, .inl a_worth_c)), (a_said, .inl (cs 0, 123, .inl (o7.2 0))), (a_kept, .inl (cs 0, 86, .inl k82_C_a_kept)), (a, .inr (12, [.ref a_tape, .int a__taped, .int a__rules, .ref a_sign, .ref a_length, .ref a_clause, .ref a_clauses, .ref a_read, .int a__next, .int a__wrong, .int a__number, .int a__text, .int a__made, .int a__deep, .int a__lines, .ref a_open, .int a__opened, .ref a_stack, .int k113_F_a_18, .ref a_word, .ref a_said, .int a__x, .ref a_worth, .ref a_mate, .ref a_wasSaid, .int a__undone, .int k113_F_a_26, .ref a_wayBy, .ref a_wayThen, .int a__walkMost, .int a__walkGoing, .int a__walkSet, .ref a_kept, .long k113_F_a_33, .ref a_images, .ref a_imageX, .ref a_isMade]))] := hD
            clear hk1 hFc hP1 hD1 hz1
            rcases hw with ⟨x8, x9⟩
            have fa10 : BS (o7.2 0) 99 := (bs_congr x113_2 (fun j hj => x8 j hj))
            have fa11 : BS (o7.2 0) 200 := (bs_hi fa10 (by decide))
            have fa12 : TR (o7.2 0) := (tr_congr x113_1 (fun j hj => x9 j hj))
            have h3 := fa10.2.2.2.1.2
            obtain ⟨v13, ev13⟩ : ∃ z : Int32, z = k82_L_7 + 1 := ⟨_, rfl⟩
            have hv13 : IV 1 10 v13 := iv_add ev13 q113_12 (iv_c (a := 1) (b := 1) (by decide)) (by decide) (by decide)
            have dv13 : v13.toInt = k82_L_7.toInt + 1 := iv_addE ev13 q113_12 (iv_c (a := 1) (b := 1) (by decide)) (by decide) (by decide) (by decide)
            refine lv_iinc (v := v13) (lv' := [(7, .int v13), (8, .int k113_L_8), (6, .int k82_L_6), (5, .int k113_L_5), (0, .ref a), (1, .int p0), (2, .int p1), (3, .int p2), (4, .int p3)]) hx hb dX12_fairs_150 hl (k := 1) rfl (by rw [ev13]; rfl) (by decide) rfl (fun ls hl => ?_)
            refine lv_goto (tgt := 82) hx hb dX12_fairs_153 (by decide) ?_
            exact ih82 v13 k82_L_6 k113_L_5 k113_C_a_word k113_C_a_stack k82_C_a_kept (o7.2 0) k113_F_a_18 k113_F_a_26 k113_F_a_33 (by have h9 := hn; omega) q113_4 q113_9 (⟨by omega, by omega⟩ : IV (-2147483648) 24 k82_L_6) (iv_w hv13 (by decide) (by decide)) q113_13 q113_14 q113_15 q113_16 fa11 fa12 (by omega) x113_2 x113_3 x113_4 H locs (hP.sub (ws' := [(a_sign, .inl (cs 0, 2400, .inl a_sign_c)), (a_clause, .inl (cs 0, 360, .inl a_clause_c)), (a_clauses, .inl (cs 0, 6, .inl a_clauses_c)), (a_word, .inl (cs 3, 13, .inr (.inl k113_C_a_word))), (a_stack, .inl (cs 3, 64, .inr (.inl k113_C_a_stack))), (a_worth, .inl (cs 0, 4096, .inl a_worth_c)), (a_kept, .inl (cs 0, 86, .inl k82_C_a_kept)), (a_said, .inl (cs 0, 123, .inl (o7.2 0))), (a, .inr (12, [.ref a_tape, .int a__taped, .int a__rules, .ref a_sign, .ref a_length, .ref a_clause, .ref a_clauses, .ref a_read, .int a__next, .int a__wrong, .int a__number, .int a__text, .int a__made, .int a__deep, .int a__lines, .ref a_open, .int a__opened, .ref a_stack, .int k113_F_a_18, .ref a_word, .ref a_said, .int a__x, .ref a_worth, .ref a_mate, .ref a_wasSaid, .int a__undone, .int k113_F_a_26, .ref a_wayBy, .ref a_wayThen, .int a__walkMost, .int a__walkGoing, .int a__walkSet, .ref a_kept, .long k113_F_a_33, .ref a_images, .ref a_imageX, .ref a_isMade]))]) [0, 1, 2, 3, 4, 5, 7, 6, 8] rfl) (hD.sub (ws' := [(a_sign, .inl (cs 0, 2400, .inl a_sign_c)), (a_clause, .inl (cs 0, 360, .inl a_clause_c)), (a_clauses, .inl (cs 0, 6, .inl a_clauses_c)), (a_word, .inl (cs 3, 13, .inr (.inl k113_C_a_word))), (a_stack, .inl (cs 3, 64, .inr (.inl k113_C_a_stack))), (a_worth, .inl (cs 0, 4096, .inl a_worth_c)), (a_kept, .inl (cs 0, 86, .inl k82_C_a_kept)), (a_said, .inl (cs 0, 123, .inl (o7.2 0))), (a, .inr (12, [.ref a_tape, .int a__taped, .int a__rules, .ref a_sign, .ref a_length, .ref a_clause, .ref a_clauses, .ref a_read, .int a__next, .int a__wrong, .int a__number, .int a__text, .int a__made, .int a__deep, .int a__lines, .ref a_open, .int a__opened, .ref a_stack, .int k113_F_a_18, .ref a_word, .ref a_said, .int a__x, .ref a_worth, .ref a_mate, .ref a_wasSaid, .int a__undone, .int k113_F_a_26, .ref a_wayBy, .ref a_wayThen, .int a__walkMost, .int a__walkGoing, .int a__walkSet, .ref a_kept, .long k113_F_a_33, .ref a_images, .ref a_imageX, .ref a_isMade]))]) [0, 1, 2, 3, 4, 5, 7, 6, 8] (by decide) rfl) hS ls (lv_sub hl [0, 2, 3, 4, 5, 6, 7, 8] rfl)
          · have t14 : k113_L_8.toInt < v1.toInt := lin_geN c4 rfl rfl
            have h15 : IV 0 3 k113_L_8 := iv_lt1 (Int32.not_le.mp c4) q113_10 h2 (by decide)
            have ii16 : 0 ≤ k113_L_8.toInt ∧ k113_L_8.toInt ≤ 3 := h15
            have h17 : IV 1 4 v1 := iv_lt2 (Int32.not_le.mp c4) q113_10 h2 (by decide)
            have ii18 : 1 ≤ v1.toInt ∧ v1.toInt ≤ 4 := h17
            refine lv_iload hx hb dX12_fairs_124 (lv_at hl 3 rfl) ?_
            refine lv_aload_n hx hb dX12_fairs_126 rfl (lv_at hl 4 rfl) ?_
            refine va_get (D := D) (ci := 12) (v := .ref a_worth) (C := RX12) (T := TX12) (N := 37) hx hb hT i_X12 hown hK hP 8 rfl rfl 22 (by decide) (hT _ q_186) (fun _ h9 => h9) rfl dX12_fairs_127 ?_
            refine lv_aload_n hx hb dX12_fairs_130 rfl (lv_at hl 4 rfl) ?_
            refine lv_iload hx hb dX12_fairs_131 (lv_at hl 0 rfl) ?_
            refine va_calli (va_runV (As := [.int k113_L_8]) (rest := [.ref a_worth, .int k113_L_5]) ⟨hx, hb, hml, hown, hT⟩ (c_X12_hasOf l D cs kK kV a k113_L_8 a_said k113_C_a_said a_tape a__taped a__rules a_sign a_length a_clause a_clauses a_read a__next a__wrong a__number a__text a__made a__deep a__lines a_open a__opened a_stack k113_F_a_18 a_word a__x a_worth a_mate a_wasSaid a__undone k113_F_a_26 a_wayBy a_wayThen a__walkMost a__walkGoing a__walkSet a_kept k113_F_a_33 a_images a_imageX a_isMade h_a__taped ((iv_w q113_4 (by decide) (by decide))) h_a__next h_a__text h_a__made h_a__lines h_a__opened q113_9 h_a__x h_a__undone x113_0) (cwV 1 hT (hz_gV q_1160 q_1161 q_1162 q_701 q_1163) rfl rfl rfl (by decide +kernel) ⟨(Nat.le_of_ble_eq_true rfl), (Nat.le_of_ble_eq_true rfl)⟩) ⟨hz_P.blind, va_recv hK hP (ci := 12) (q0 := 8) rfl rfl, hz_P.mk (hP.sub (ws' := [(a_said, .inl (cs 0, 123, .inl k113_C_a_said)), (a, .inr (12, [.ref a_tape, .int a__taped, .int a__rules, .ref a_sign, .ref a_length, .ref a_clause, .ref a_clauses, .ref a_read, .int a__next, .int a__wrong, .int a__number, .int a__text, .int a__made, .int a__deep, .int a__lines, .ref a_open, .int a__opened, .ref a_stack, .int k113_F_a_18, .ref a_word, .ref a_said, .int a__x, .ref a_worth, .ref a_mate, .ref a_wasSaid, .int a__undone, .int k113_F_a_26, .ref a_wayBy, .ref a_wayThen, .int a__walkMost, .int a__walkGoing, .int a__walkSet, .ref a_kept, .long k113_F_a_33, .ref a_images, .ref a_imageX, .ref a_isMade]))]) [7,8] rfl) hE hS⟩ rfl rfl hl.1 rfl (lv_room (Nat.le_of_ble_eq_true rfl)) dX12_fairs_133 ⟨(Nat.le_of_ble_eq_true rfl), (Nat.le_of_ble_eq_true rfl)⟩) hS (fun _ _ h => h.elim) (fun _ h => h.elim) (fun r19 u t H1 locs ht hvm hw hB hz1 hk1 hS => ?_)
            have hP := hz_keep hP hk1
            clear hk1 hB hz1
            generalize H1 = H at hP hS ⊢
            have hw_r19 := hw
            refine va_iald hx hb hK hP 5 0 rfl rfl (iv_v hw_r19 (by decide) (by decide)) dX12_fairs_136 ?_
            refine lv_topi (fun v20 ev20 => ?_)
            have lv20 : v20.toInt = (a_worth_c (Int32.toNatClampNeg r19)).toInt := by rw [ev20]
            refine lv_iadd hx hb dX12_fairs_137 ?_
            refine lv_topi (fun v21 ev21 => ?_)
            refine lv_istore (lv' := [(5, .int v21), (8, .int k113_L_8), (7, .int k82_L_7), (6, .int k82_L_6), (0, .ref a), (1, .int p0), (2, .int p1), (3, .int p2), (4, .int p3)]) hx hb dX12_fairs_138 hl (by decide) rfl (fun ls hl => ?_)
            obtain ⟨v22, ev22⟩ : ∃ z : Int32, z = k113_L_8 + 1 := ⟨_, rfl⟩
            have hv22 : IV 1 4 v22 := iv_add ev22 h15 (iv_c (a := 1) (b := 1) (by decide)) (by decide) (by decide)
            have dv22 : v22.toInt = k113_L_8.toInt + 1 := iv_addE ev22 h15 (iv_c (a := 1) (b := 1) (by decide)) (by decide) (by decide) (by decide)
            refine lv_iinc (v := v22) (lv' := [(8, .int v22), (5, .int v21), (7, .int k82_L_7), (6, .int k82_L_6), (0, .ref a), (1, .int p0), (2, .int p1), (3, .int p2), (4, .int p3)]) hx hb dX12_fairs_140 hl (k := 1) rfl (by rw [ev22]; rfl) (by decide) rfl (fun ls hl => ?_)
            refine lv_goto (tgt := 113) hx hb dX12_fairs_143 (by decide) ?_
            exact ih113 v22 v21 k113_C_a_word k113_C_a_stack k113_C_a_said k113_F_a_18 k113_F_a_26 k113_F_a_33 (by have h9 := hn; omega) q113_4 q113_9 (iv_w hv22 (by decide) (by decide)) q113_11 q113_12 q113_13 q113_14 q113_15 q113_16 x113_0 x113_1 x113_2 x113_3 x113_4 H locs (hP.sub (ws' := [(a_sign, .inl (cs 0, 2400, .inl a_sign_c)), (a_clause, .inl (cs 0, 360, .inl a_clause_c)), (a_clauses, .inl (cs 0, 6, .inl a_clauses_c)), (a_word, .inl (cs 3, 13, .inr (.inl k113_C_a_word))), (a_stack, .inl (cs 3, 64, .inr (.inl k113_C_a_stack))), (a_worth, .inl (cs 0, 4096, .inl a_worth_c)), (a_kept, .inl (cs 0, 86, .inl k82_C_a_kept)), (a_said, .inl (cs 0, 123, .inl k113_C_a_said)), (a, .inr (12, [.ref a_tape, .int a__taped, .int a__rules, .ref a_sign, .ref a_length, .ref a_clause, .ref a_clauses, .ref a_read, .int a__next, .int a__wrong, .int a__number, .int a__text, .int a__made, .int a__deep, .int a__lines, .ref a_open, .int a__opened, .ref a_stack, .int k113_F_a_18, .ref a_word, .ref a_said, .int a__x, .ref a_worth, .ref a_mate, .ref a_wasSaid, .int a__undone, .int k113_F_a_26, .ref a_wayBy, .ref a_wayThen, .int a__walkMost, .int a__walkGoing, .int a__walkSet, .ref a_kept, .long k113_F_a_33, .ref a_images, .ref a_imageX, .ref a_isMade]))]) [0, 1, 2, 3, 4, 5, 6, 7, 8] rfl) (hD.sub (ws' := [(a_sign, .inl (cs 0, 2400, .inl a_sign_c)), (a_clause, .inl (cs 0, 360, .inl a_clause_c)), (a_clauses, .inl (cs 0, 6, .inl a_clauses_c)), (a_word, .inl (cs 3, 13, .inr (.inl k113_C_a_word))), (a_stack, .inl (cs 3, 64, .inr (.inl k113_C_a_stack))), (a_worth, .inl (cs 0, 4096, .inl a_worth_c)), (a_kept, .inl (cs 0, 86, .inl k82_C_a_kept)), (a_said, .inl (cs 0, 123, .inl k113_C_a_said)), (a, .inr (12, [.ref a_tape, .int a__taped, .int a__rules, .ref a_sign, .ref a_length, .ref a_clause, .ref a_clauses, .ref a_read, .int a__next, .int a__wrong, .int a__number, .int a__text, .int a__made, .int a__deep, .int a__lines, .ref a_open, .int a__opened, .ref a_stack, .int k113_F_a_18, .ref a_word, .ref a_said, .int a__x, .ref a_worth, .ref a_mate, .ref a_wasSaid, .int a__undone, .int k113_F_a_26, .ref a_wayBy, .ref a_wayThen, .int a__walkMost, .int a__walkGoing, .int a__walkSet, .ref a_kept, .long k113_F_a_33, .ref a_images, .ref a_imageX, .ref a_isMade]))]) [0, 1, 2, 3, 4, 5, 6, 7, 8] (by decide) rfl) hS ls (lv_sub hl [0, 2, 3, 1, 4, 5, 6, 7, 8] rfl)
      have K91 : ∀ (n : Nat) (k91_L_8 : Int32) (k91_C_a_word : Nat → Int64) (k91_C_a_stack : Nat → Int64) (k91_C_a_said : Nat → Int32) (k91_F_a_18 : Int32) (k91_F_a_26 : Int32) (k91_F_a_33 : Int64), (25 - k91_L_8.toInt).toNat ≤ n → IV 1 6 a__rules → IV (-2147483648) 24 k82_L_6 → IV 0 9 k82_L_7 → IV 0 64 k91_F_a_18 → IV 0 24 k91_L_8 → IV 0 5 p0 → IV 1 10 p1 → IV 0 100 p2 → IV 0 1 p3 → (BS k91_C_a_said 200) → (TR k91_C_a_said) → ((k91_C_a_said 3).toInt ≤ 99 + k91_L_8.toInt) → (BS k82_C_a_kept 99) → (0 ≤ k91_F_a_33.toInt ∧ k91_F_a_33.toInt < 2147483648) → (p0.toInt < a__rules.toInt) → ∀ (H : Heap) (locs : List Loc), va_P D classes [(a_sign, .inl (cs 0, 2400, .inl a_sign_c)), (a_clause, .inl (cs 0, 360, .inl a_clause_c)), (a_clauses, .inl (cs 0, 6, .inl a_clauses_c)), (a_word, .inl (cs 3, 13, .inr (.inl k91_C_a_word))), (a_stack, .inl (cs 3, 64, .inr (.inl k91_C_a_stack))), (a_worth, .inl (cs 0, 4096, .inl a_worth_c)), (a_kept, .inl (cs 0, 86, .inl k82_C_a_kept)), (a_said, .inl (cs 0, 123, .inl k91_C_a_said)), (a, .inr (12, [.ref a_tape, .int a__taped, .int a__rules, .ref a_sign, .ref a_length, .ref a_clause, .ref a_clauses, .ref a_read, .int a__next, .int a__wrong, .int a__number, .int a__text, .int a__made, .int a__deep, .int a__lines, .ref a_open, .int a__opened, .ref a_stack, .int k91_F_a_18, .ref a_word, .ref a_said, .int a__x, .ref a_worth, .ref a_mate, .ref a_wasSaid, .int a__undone, .int k91_F_a_26, .ref a_wayBy, .ref a_wayThen, .int a__walkMost, .int a__walkGoing, .int a__walkSet, .ref a_kept, .long k91_F_a_33, .ref a_images, .ref a_imageX, .ref a_isMade]))] H → va_D A [(a_sign, .inl (cs 0, 2400, .inl a_sign_c)), (a_clause, .inl (cs 0, 360, .inl a_clause_c)), (a_clauses, .inl (cs 0, 6, .inl a_clauses_c)), (a_word, .inl (cs 3, 13, .inr (.inl k91_C_a_word))), (a_stack, .inl (cs 3, 64, .inr (.inl k91_C_a_stack))), (a_worth, .inl (cs 0, 4096, .inl a_worth_c)), (a_kept, .inl (cs 0, 86, .inl k82_C_a_kept)), (a_said, .inl (cs 0, 123, .inl k91_C_a_said)), (a, .inr (12, [.ref a_tape, .int a__taped, .int a__rules, .ref a_sign, .ref a_length, .ref a_clause, .ref a_clauses, .ref a_read, .int a__next, .int a__wrong, .int a__number, .int a__text, .int a__made, .int a__deep, .int a__lines, .ref a_open, .int a__opened, .ref a_stack, .int k91_F_a_18, .ref a_word, .ref a_said, .int a__x, .ref a_worth, .ref a_mate, .ref a_wasSaid, .int a__undone, .int k91_F_a_26, .ref a_wayBy, .ref a_wayThen, .int a__walkMost, .int a__walkGoing, .int a__walkSet, .ref a_kept, .long k91_F_a_33, .ref a_images, .ref a_imageX, .ref a_isMade]))] → va_S A s.heap H locs → ∀ ls : Array Slot, lv_has ls 9 [(8, .int k91_L_8), (7, .int k82_L_7), (6, .int k82_L_6), (5, .int k82_L_5), (0, .ref a), (1, .int p0), (2, .int p1), (3, .int p2), (4, .int p3)] → W p l e (headSpec (hz_w yX12_fairs cX12_fairs 9 (some .int)) ({ frames := 8, cells := 0, slots := 0, locals := 190 })).room s m [.ref a, .int p0, .int p1, .int p2, .int p3].toArray below meth c H locs 0 0 (MQ below (va_Qi (fun (r : Int32) (u : (Nat → Int32) × (Nat → Nat → Int32)) => (r = (-1) ∧ IV 0 64 (u.1 1) ∧ (BS (u.2 1) 200) ∧ (TR (u.2 1)) ∧ (((u.2 1) 3).toInt ≤ 99)) ∨ (IV 1 6 a__rules ∧ IV 0 5 p0 ∧ IV 1 10 p1 ∧ IV 0 100 p2 ∧ IV 0 1 p3 ∧ IV 0 64 (u.1 1) ∧ (BS (u.2 1) 200) ∧ (TR (u.2 1)) ∧ (((u.2 1) 3).toInt ≤ 99))) (fun u t => ∃ (o_a_33 : Int64), ∃ (o_a_stack_c : Nat → Int64), ∃ (o_a_word_c : Nat → Int64), va_P D classes [(a_said, .inl (cs 0, 123, .inl (u.2 1))), (a_sign, .inl (cs 0, 2400, .inl a_sign_c)), (a_clause, .inl (cs 0, 360, .inl a_clause_c)), (a_clauses, .inl (cs 0, 6, .inl a_clauses_c)), (a, .inr (12, [.ref a_tape, .int a__taped, .int a__rules, .ref a_sign, .ref a_length, .ref a_clause, .ref a_clauses, .ref a_read, .int a__next, .int a__wrong, .int a__number, .int a__text, .int a__made, .int a__deep, .int a__lines, .ref a_open, .int a__opened, .ref a_stack, .int (u.1 1), .ref a_word, .ref a_said, .int a__x, .ref a_worth, .ref a_mate, .ref a_wasSaid, .int a__undone, .int (u.1 2), .ref a_wayBy, .ref a_wayThen, .int a__walkMost, .int a__walkGoing, .int a__walkSet, .ref a_kept, .long o_a_33, .ref a_images, .ref a_imageX, .ref a_isMade])), (a_kept, .inl (cs 0, 86, .inl (u.2 0))), (a_word, .inl (cs 3, 13, .inr (.inl o_a_word_c))), (a_stack, .inl (cs 3, 64, .inr (.inl o_a_stack_c))), (a_worth, .inl (cs 0, 4096, .inl a_worth_c))] t.heap ∧ va_D A [(a_said, .inl (cs 0, 123, .inl (u.2 1))), (a_sign, .inl (cs 0, 2400, .inl a_sign_c)), (a_clause, .inl (cs 0, 360, .inl a_clause_c)), (a_clauses, .inl (cs 0, 6, .inl a_clauses_c)), (a, .inr (12, [.ref a_tape, .int a__taped, .int a__rules, .ref a_sign, .ref a_length, .ref a_clause, .ref a_clauses, .ref a_read, .int a__next, .int a__wrong, .int a__number, .int a__text, .int a__made, .int a__deep, .int a__lines, .ref a_open, .int a__opened, .ref a_stack, .int (u.1 1), .ref a_word, .ref a_said, .int a__x, .ref a_worth, .ref a_mate, .ref a_wasSaid, .int a__undone, .int (u.1 2), .ref a_wayBy, .ref a_wayThen, .int a__walkMost, .int a__walkGoing, .int a__walkSet, .ref a_kept, .long o_a_33, .ref a_images, .ref a_imageX, .ref a_isMade])), (a_kept, .inl (cs 0, 86, .inl (u.2 0))), (a_word, .inl (cs 3, 13, .inr (.inl o_a_word_c))), (a_stack, .inl (cs 3, 64, .inr (.inl o_a_stack_c))), (a_worth, .inl (cs 0, 4096, .inl a_worth_c))]) A) [.ref a, .int p0, .int p1, .int p2, .int p3].toArray s 0 0 A) (F0 m 91 ls []) := by
        intro n
        induction n with
        | zero =>
          intro k91_L_8 k91_C_a_word k91_C_a_stack k91_C_a_said k91_F_a_18 k91_F_a_26 k91_F_a_33 hn q91_4 q91_9 q91_10 q91_11 q91_12 q91_13 q91_14 q91_15 q91_16 x91_0 x91_1 x91_2 x91_3 x91_4 x91_5 H locs hP hD hS ls hl
          have i_a__lines : 0 ≤ a__lines.toInt ∧ a__lines.toInt ≤ 40 := h_a__lines
          have i_a__made : 0 ≤ a__made.toInt ∧ a__made.toInt ≤ 60 := h_a__made
          have i_a__next : 0 ≤ a__next.toInt ∧ a__next.toInt ≤ 400 := h_a__next
          have i_a__opened : 0 ≤ a__opened.toInt ∧ a__opened.toInt ≤ 400 := h_a__opened
          have i_a__rules : 1 ≤ a__rules.toInt ∧ a__rules.toInt ≤ 6 := q91_4
          have i_a__taped : 0 ≤ a__taped.toInt ∧ a__taped.toInt ≤ 400 := h_a__taped
          have i_a__text : 0 ≤ a__text.toInt ∧ a__text.toInt ≤ 6 := h_a__text
          have i_a__undone : 0 ≤ a__undone.toInt ∧ a__undone.toInt ≤ 20 := h_a__undone
          have i_a__x : 0 ≤ a__x.toInt ∧ a__x.toInt ≤ 2147483647 := h_a__x
          have i_k82_L_6 : (-2147483648) ≤ k82_L_6.toInt ∧ k82_L_6.toInt ≤ 24 := q91_9
          have i_k82_L_7 : 0 ≤ k82_L_7.toInt ∧ k82_L_7.toInt ≤ 9 := q91_10
          have i_k91_F_a_18 : 0 ≤ k91_F_a_18.toInt ∧ k91_F_a_18.toInt ≤ 64 := q91_11
          have i_k91_L_8 : 0 ≤ k91_L_8.toInt ∧ k91_L_8.toInt ≤ 24 := q91_12
          have i_p0 : 0 ≤ p0.toInt ∧ p0.toInt ≤ 5 := q91_13
          have i_p1 : 1 ≤ p1.toInt ∧ p1.toInt ≤ 10 := q91_14
          have i_p2 : 0 ≤ p2.toInt ∧ p2.toInt ≤ 100 := q91_15
          have i_p3 : 0 ≤ p3.toInt ∧ p3.toInt ≤ 1 := q91_16
          exact absurd hn (by omega)
        | succ n ih91 =>
          intro k91_L_8 k91_C_a_word k91_C_a_stack k91_C_a_said k91_F_a_18 k91_F_a_26 k91_F_a_33 hn q91_4 q91_9 q91_10 q91_11 q91_12 q91_13 q91_14 q91_15 q91_16 x91_0 x91_1 x91_2 x91_3 x91_4 x91_5 H locs hP hD hS ls hl
          have i_a__lines : 0 ≤ a__lines.toInt ∧ a__lines.toInt ≤ 40 := h_a__lines
          have i_a__made : 0 ≤ a__made.toInt ∧ a__made.toInt ≤ 60 := h_a__made
          have i_a__next : 0 ≤ a__next.toInt ∧ a__next.toInt ≤ 400 := h_a__next
          have i_a__opened : 0 ≤ a__opened.toInt ∧ a__opened.toInt ≤ 400 := h_a__opened
          have i_a__rules : 1 ≤ a__rules.toInt ∧ a__rules.toInt ≤ 6 := q91_4
          have i_a__taped : 0 ≤ a__taped.toInt ∧ a__taped.toInt ≤ 400 := h_a__taped
          have i_a__text : 0 ≤ a__text.toInt ∧ a__text.toInt ≤ 6 := h_a__text
          have i_a__undone : 0 ≤ a__undone.toInt ∧ a__undone.toInt ≤ 20 := h_a__undone
          have i_a__x : 0 ≤ a__x.toInt ∧ a__x.toInt ≤ 2147483647 := h_a__x
          have i_k82_L_6 : (-2147483648) ≤ k82_L_6.toInt ∧ k82_L_6.toInt ≤ 24 := q91_9
          have i_k82_L_7 : 0 ≤ k82_L_7.toInt ∧ k82_L_7.toInt ≤ 9 := q91_10
          have i_k91_F_a_18 : 0 ≤ k91_F_a_18.toInt ∧ k91_F_a_18.toInt ≤ 64 := q91_11
          have i_k91_L_8 : 0 ≤ k91_L_8.toInt ∧ k91_L_8.toInt ≤ 24 := q91_12
          have i_p0 : 0 ≤ p0.toInt ∧ p0.toInt ≤ 5 := q91_13
          have i_p1 : 1 ≤ p1.toInt ∧ p1.toInt ≤ 10 := q91_14
          have i_p2 : 0 ≤ p2.toInt ∧ p2.toInt ≤ 100 := q91_15
          have i_p3 : 0 ≤ p3.toInt ∧ p3.toInt ≤ 1 := q91_16
          refine lv_iload hx hb dX12_fairs_91 (lv_at hl 0 rfl) ?_
          refine lv_iload hx hb dX12_fairs_93 (lv_at hl 2 rfl) ?_
          refine lv_icmp_ge (tgt := 110) hx hb dX12_fairs_95 (by decide) (fun c23 => ?_) (fun c23 => ?_)
          · have t24 : k91_L_8.toInt ≥ k82_L_6.toInt := lin_ge c23 rfl rfl
            refine lv_iconst (v := 0) hx hb dX12_fairs_110 (by decide) ?_
            refine lv_istore (lv' := [(8, .int 0), (7, .int k82_L_7), (6, .int k82_L_6), (5, .int k82_L_5), (0, .ref a), (1, .int p0), (2, .int p1), (3, .int p2), (4, .int p3)]) hx hb dX12_fairs_111 hl (by decide) rfl (fun ls hl => ?_)
            exact K113 _ ((0 : Int32)) k82_L_5 k91_C_a_word k91_C_a_stack k91_C_a_said k91_F_a_18 k91_F_a_26 k91_F_a_33 (Nat.le_refl _) q91_4 q91_11 (iv_c (by decide)) (iv_w q91_9 (by decide) (by decide)) q91_10 q91_13 q91_14 q91_15 q91_16 x91_0 x91_1 x91_3 x91_4 x91_5 H locs (hP.sub (ws' := [(a_sign, .inl (cs 0, 2400, .inl a_sign_c)), (a_clause, .inl (cs 0, 360, .inl a_clause_c)), (a_clauses, .inl (cs 0, 6, .inl a_clauses_c)), (a_word, .inl (cs 3, 13, .inr (.inl k91_C_a_word))), (a_stack, .inl (cs 3, 64, .inr (.inl k91_C_a_stack))), (a_worth, .inl (cs 0, 4096, .inl a_worth_c)), (a_kept, .inl (cs 0, 86, .inl k82_C_a_kept)), (a_said, .inl (cs 0, 123, .inl k91_C_a_said)), (a, .inr (12, [.ref a_tape, .int a__taped, .int a__rules, .ref a_sign, .ref a_length, .ref a_clause, .ref a_clauses, .ref a_read, .int a__next, .int a__wrong, .int a__number, .int a__text, .int a__made, .int a__deep, .int a__lines, .ref a_open, .int a__opened, .ref a_stack, .int k91_F_a_18, .ref a_word, .ref a_said, .int a__x, .ref a_worth, .ref a_mate, .ref a_wasSaid, .int a__undone, .int k91_F_a_26, .ref a_wayBy, .ref a_wayThen, .int a__walkMost, .int a__walkGoing, .int a__walkSet, .ref a_kept, .long k91_F_a_33, .ref a_images, .ref a_imageX, .ref a_isMade]))]) [0, 1, 2, 3, 4, 5, 6, 7, 8] rfl) (hD.sub (ws' := [(a_sign, .inl (cs 0, 2400, .inl a_sign_c)), (a_clause, .inl (cs 0, 360, .inl a_clause_c)), (a_clauses, .inl (cs 0, 6, .inl a_clauses_c)), (a_word, .inl (cs 3, 13, .inr (.inl k91_C_a_word))), (a_stack, .inl (cs 3, 64, .inr (.inl k91_C_a_stack))), (a_worth, .inl (cs 0, 4096, .inl a_worth_c)), (a_kept, .inl (cs 0, 86, .inl k82_C_a_kept)), (a_said, .inl (cs 0, 123, .inl k91_C_a_said)), (a, .inr (12, [.ref a_tape, .int a__taped, .int a__rules, .ref a_sign, .ref a_length, .ref a_clause, .ref a_clauses, .ref a_read, .int a__next, .int a__wrong, .int a__number, .int a__text, .int a__made, .int a__deep, .int a__lines, .ref a_open, .int a__opened, .ref a_stack, .int k91_F_a_18, .ref a_word, .ref a_said, .int a__x, .ref a_worth, .ref a_mate, .ref a_wasSaid, .int a__undone, .int k91_F_a_26, .ref a_wayBy, .ref a_wayThen, .int a__walkMost, .int a__walkGoing, .int a__walkSet, .ref a_kept, .long k91_F_a_33, .ref a_images, .ref a_imageX, .ref a_isMade]))]) [0, 1, 2, 3, 4, 5, 6, 7, 8] (by decide) rfl) hS ls (lv_sub hl [0, 1, 2, 3, 4, 5, 6, 7, 8] rfl)
          · have t25 : k91_L_8.toInt < k82_L_6.toInt := lin_geN c23 rfl rfl
            have h26 : IV 0 23 k91_L_8 := iv_lt1 (Int32.not_le.mp c23) q91_12 q91_9 (by decide)
            have ii27 : 0 ≤ k91_L_8.toInt ∧ k91_L_8.toInt ≤ 23 := h26
            have h28 : IV 1 24 k82_L_6 := iv_lt2 (Int32.not_le.mp c23) q91_12 q91_9 (by decide)
            have ii29 : 1 ≤ k82_L_6.toInt ∧ k82_L_6.toInt ≤ 24 := h28
            refine lv_aload_n hx hb dX12_fairs_98 rfl (lv_at hl 4 rfl) ?_
            refine lv_iload_n hx hb dX12_fairs_99 rfl (lv_at hl 5 rfl) ?_
            refine lv_iload_n hx hb dX12_fairs_100 rfl (lv_at hl 7 rfl) ?_
            have hFc := va_free (wc := [(a_said, .inl (cs 0, 123, .inl k91_C_a_said)), (a_sign, .inl (cs 0, 2400, .inl a_sign_c)), (a_clause, .inl (cs 0, 360, .inl a_clause_c)), (a_clauses, .inl (cs 0, 6, .inl a_clauses_c)), (a, .inr (12, [.ref a_tape, .int a__taped, .int a__rules, .ref a_sign, .ref a_length, .ref a_clause, .ref a_clauses, .ref a_read, .int a__next, .int a__wrong, .int a__number, .int a__text, .int a__made, .int a__deep, .int a__lines, .ref a_open, .int a__opened, .ref a_stack, .int k91_F_a_18, .ref a_word, .ref a_said, .int a__x, .ref a_worth, .ref a_mate, .ref a_wasSaid, .int a__undone, .int k91_F_a_26, .ref a_wayBy, .ref a_wayThen, .int a__walkMost, .int a__walkGoing, .int a__walkSet, .ref a_kept, .long k91_F_a_33, .ref a_images, .ref a_imageX, .ref a_isMade])), (a_word, .inl (cs 3, 13, .inr (.inl k91_C_a_word))), (a_stack, .inl (cs 3, 64, .inr (.inl k91_C_a_stack)))]) hD hS hA [7,0,1,2,8,3,4] rfl
            refine va_callv (va_runV (As := [.int p0, .int p2]) (rest := []) ⟨hx, hb, hml, hown, hT⟩ (c_X12_drawsHour l D cs kK kV a p0 p2 a_said k91_C_a_said a_sign a_sign_c a_clause a_clause_c a_clauses a_clauses_c a_tape a__taped a__rules a_length a_read a__next a__wrong a__number a__text a__made a__deep a__lines a_open a__opened a_stack k91_F_a_18 a_word a__x a_worth a_mate a_wasSaid a__undone k91_F_a_26 a_wayBy a_wayThen a__walkMost a__walkGoing a__walkSet a_kept k91_F_a_33 a_images a_imageX a_isMade k91_C_a_word k91_C_a_stack q91_13 h_a__taped ((iv_w q91_4 (by decide) (by decide))) h_a__next h_a__text h_a__made h_a__lines h_a__opened q91_11 h_a__x h_a__undone x91_0 x91_1 hf3 x91_5 ((by omega)) x91_4 H.size) (cwV 2 hT (hz_gV q_1305 q_1306 q_1307 q_701 q_1308) rfl rfl rfl (by decide +kernel) ⟨(Nat.le_of_ble_eq_true rfl), (Nat.le_of_ble_eq_true rfl)⟩) ⟨hz_C.blind, va_recv hK hP (ci := 12) (q0 := 8) rfl rfl, hz_C.mk (hP.sub (ws' := [(a_said, .inl (cs 0, 123, .inl k91_C_a_said)), (a_sign, .inl (cs 0, 2400, .inl a_sign_c)), (a_clause, .inl (cs 0, 360, .inl a_clause_c)), (a_clauses, .inl (cs 0, 6, .inl a_clauses_c)), (a, .inr (12, [.ref a_tape, .int a__taped, .int a__rules, .ref a_sign, .ref a_length, .ref a_clause, .ref a_clauses, .ref a_read, .int a__next, .int a__wrong, .int a__number, .int a__text, .int a__made, .int a__deep, .int a__lines, .ref a_open, .int a__opened, .ref a_stack, .int k91_F_a_18, .ref a_word, .ref a_said, .int a__x, .ref a_worth, .ref a_mate, .ref a_wasSaid, .int a__undone, .int k91_F_a_26, .ref a_wayBy, .ref a_wayThen, .int a__walkMost, .int a__walkGoing, .int a__walkSet, .ref a_kept, .long k91_F_a_33, .ref a_images, .ref a_imageX, .ref a_isMade])), (a_word, .inl (cs 3, 13, .inr (.inl k91_C_a_word))), (a_stack, .inl (cs 3, 64, .inr (.inl k91_C_a_stack)))]) [7,0,1,2,8,3,4] rfl) (hD.sub (ws' := [(a_said, .inl (cs 0, 123, .inl k91_C_a_said)), (a_sign, .inl (cs 0, 2400, .inl a_sign_c)), (a_clause, .inl (cs 0, 360, .inl a_clause_c)), (a_clauses, .inl (cs 0, 6, .inl a_clauses_c)), (a, .inr (12, [.ref a_tape, .int a__taped, .int a__rules, .ref a_sign, .ref a_length, .ref a_clause, .ref a_clauses, .ref a_read, .int a__next, .int a__wrong, .int a__number, .int a__text, .int a__made, .int a__deep, .int a__lines, .ref a_open, .int a__opened, .ref a_stack, .int k91_F_a_18, .ref a_word, .ref a_said, .int a__x, .ref a_worth, .ref a_mate, .ref a_wasSaid, .int a__undone, .int k91_F_a_26, .ref a_wayBy, .ref a_wayThen, .int a__walkMost, .int a__walkGoing, .int a__walkSet, .ref a_kept, .long k91_F_a_33, .ref a_images, .ref a_imageX, .ref a_isMade])), (a_word, .inl (cs 3, 13, .inr (.inl k91_C_a_word))), (a_stack, .inl (cs 3, 64, .inr (.inl k91_C_a_stack)))]) [7,0,1,2,8,3,4] (by decide) rfl) hE hS hFc⟩ rfl rfl hl.1 rfl (lv_room (Nat.le_of_ble_eq_true rfl)) dX12_fairs_101 ⟨(Nat.le_of_ble_eq_true rfl), (Nat.le_of_ble_eq_true rfl)⟩) hS (fun q _ h => hFc q h) hFc (fun o31 t H1 locs ht hvm hw hB hz1 hk1 hS => ?_)
            obtain ⟨o32, o33, o34, h35, hP1, hD1⟩ := hB
            rw [ht] at hP1
            obtain ⟨hP, hD⟩ := va_join (wr := [(a_worth, .inl (cs 0, 4096, .inl a_worth_c)), (a_kept, .inl (cs 0, 86, .inl k82_C_a_kept))]) (w1 := [(a_said, .inl (cs 0, 123, .inl (o31.2 0))), (a_sign, .inl (cs 0, 2400, .inl a_sign_c)), (a_clause, .inl (cs 0, 360, .inl a_clause_c)), (a_clauses, .inl (cs 0, 6, .inl a_clauses_c)), (a, .inr (12, [.ref a_tape, .int a__taped, .int a__rules, .ref a_sign, .ref a_length, .ref a_clause, .ref a_clauses, .ref a_read, .int a__next, .int a__wrong, .int a__number, .int a__text, .int a__made, .int a__deep, .int a__lines, .ref a_open, .int a__opened, .ref a_stack, .int (o31.1 1), .ref a_word, .ref a_said, .int a__x, .ref a_worth, .ref a_mate, .ref a_wasSaid, .int a__undone, .int (o31.1 2), .ref a_wayBy, .ref a_wayThen, .int a__walkMost, .int a__walkGoing, .int a__walkSet, .ref a_kept, .long o32, .ref a_images, .ref a_imageX, .ref a_isMade])), (a_word, .inl (cs 3, 13, .inr (.inl o34))), (a_stack, .inl (cs 3, 64, .inr (.inl o33)))]) hP hD [7, 0, 1, 2, 8, 3, 4] [5, 6] rfl rfl (by decide) (by decide) hk1 hFc hP1 hD1
            generalize H1 = H at hP hS ⊢
            have hP : va_P D classes [(a_worth, .inl (cs 0, 4096, .inl a_worth_c)), (a_kept, .inl (cs 0, 86, .inl k82_C_a_kept)), (a_said, .inl (cs 0, 123, .inl (o31.2 0))), (a_sign, .inl (cs 0, 2400, .inl a_sign_c)), (a_clause, .inl (cs 0, 360, .inl a_clause_c)), (a_clauses, .inl (cs 0, 6, .inl a_clauses_c)), (a, .inr (12, [.ref a_tape, .int a__taped, .int a__rules, .ref a_sign, .ref a_length, .ref a_clause, .ref a_clauses, .ref a_read, .int a__next, .int a__wrong, .int a__number, .int a__text, .int a__made, .int a__deep, .int a__lines, .ref a_open, .int a__opened, .ref a_stack, .int (o31.1 1), .ref a_word, .ref a_said, .int a__x, .ref a_worth, .ref a_mate, .ref a_wasSaid, .int a__undone, .int (o31.1 2), .ref a_wayBy, .ref a_wayThen, .int a__walkMost, .int a__walkGoing, .int a__walkSet, .ref a_kept, .long o32, .ref a_images, .ref a_imageX, .ref a_isMade])), (a_word, .inl (cs 3, 13, .inr (.inl o34))), (a_stack, .inl (cs 3, 64, .inr (.inl o33)))] H := hP
            have hD : va_D A [(a_worth, .inl (cs 0, 4096, .inl a_worth_c)), (a_kept, .inl (cs 0, 86, .inl k82_C_a_kept)), (a_said, .inl (cs 0, 123, .inl (o31.2 0))), (a_sign, .inl (cs 0, 2400, .inl a_sign_c)), (a_clause, .inl (cs 0, 360, .inl a_clause_c)), (a_clauses, .inl (cs 0, 6, .inl a_clauses_c)), (a, .inr (12, [.ref a_tape, .int a__taped, .int a__rules, .ref a_sign, .ref a_length, .ref a_clause, .ref a_clauses, .ref a_read, .int a__next, .int a__wrong, .int a__number, .int a__text, .int a__made, .int a__deep, .int a__lines, .ref a_open, .int a__opened, .ref a_stack, .int (o31.1 1), .ref a_word, .ref a_said, .int a__x, .ref a_worth, .ref a_mate, .ref a_wasSaid, .int a__undone, .int (o31.1 2), .ref a_wayBy, .ref a_wayThen, .int a__walkMost, .int a__walkGoing, .int a__walkSet, .ref a_kept, .long o32, .ref a_images, .ref a_imageX, .ref a_isMade])), (a_word, .inl (cs 3, 13, .inr (.inl o34))), (a_stack, .inl (cs 3, 64, .inr (.inl o33)))] := hD
            clear hk1 hFc hP1 hD1 hz1
            rcases hw with ⟨h36, x37, x38, x39⟩
            have ii40 : 0 ≤ (o31.1 1).toInt ∧ (o31.1 1).toInt ≤ 64 := h36
            obtain ⟨v41, ev41⟩ : ∃ z : Int32, z = k91_L_8 + 1 := ⟨_, rfl⟩
            have hv41 : IV 1 24 v41 := iv_add ev41 h26 (iv_c (a := 1) (b := 1) (by decide)) (by decide) (by decide)
            have dv41 : v41.toInt = k91_L_8.toInt + 1 := iv_addE ev41 h26 (iv_c (a := 1) (b := 1) (by decide)) (by decide) (by decide) (by decide)
            refine lv_iinc (v := v41) (lv' := [(8, .int v41), (7, .int k82_L_7), (6, .int k82_L_6), (5, .int k82_L_5), (0, .ref a), (1, .int p0), (2, .int p1), (3, .int p2), (4, .int p3)]) hx hb dX12_fairs_104 hl (k := 0) rfl (by rw [ev41]; rfl) (by decide) rfl (fun ls hl => ?_)
            refine lv_goto (tgt := 91) hx hb dX12_fairs_107 (by decide) ?_
            exact ih91 v41 o34 o33 (o31.2 0) (o31.1 1) (o31.1 2) o32 (by have h9 := hn; omega) q91_4 (iv_w h28 (by decide) (by decide)) q91_10 h36 (iv_w hv41 (by decide) (by decide)) q91_13 q91_14 q91_15 q91_16 x37 x38 (by omega) x91_3 h35 x91_5 H locs (hP.sub (ws' := [(a_sign, .inl (cs 0, 2400, .inl a_sign_c)), (a_clause, .inl (cs 0, 360, .inl a_clause_c)), (a_clauses, .inl (cs 0, 6, .inl a_clauses_c)), (a_word, .inl (cs 3, 13, .inr (.inl o34))), (a_stack, .inl (cs 3, 64, .inr (.inl o33))), (a_worth, .inl (cs 0, 4096, .inl a_worth_c)), (a_kept, .inl (cs 0, 86, .inl k82_C_a_kept)), (a_said, .inl (cs 0, 123, .inl (o31.2 0))), (a, .inr (12, [.ref a_tape, .int a__taped, .int a__rules, .ref a_sign, .ref a_length, .ref a_clause, .ref a_clauses, .ref a_read, .int a__next, .int a__wrong, .int a__number, .int a__text, .int a__made, .int a__deep, .int a__lines, .ref a_open, .int a__opened, .ref a_stack, .int (o31.1 1), .ref a_word, .ref a_said, .int a__x, .ref a_worth, .ref a_mate, .ref a_wasSaid, .int a__undone, .int (o31.1 2), .ref a_wayBy, .ref a_wayThen, .int a__walkMost, .int a__walkGoing, .int a__walkSet, .ref a_kept, .long o32, .ref a_images, .ref a_imageX, .ref a_isMade]))]) [3, 4, 5, 7, 8, 0, 1, 2, 6] rfl) (hD.sub (ws' := [(a_sign, .inl (cs 0, 2400, .inl a_sign_c)), (a_clause, .inl (cs 0, 360, .inl a_clause_c)), (a_clauses, .inl (cs 0, 6, .inl a_clauses_c)), (a_word, .inl (cs 3, 13, .inr (.inl o34))), (a_stack, .inl (cs 3, 64, .inr (.inl o33))), (a_worth, .inl (cs 0, 4096, .inl a_worth_c)), (a_kept, .inl (cs 0, 86, .inl k82_C_a_kept)), (a_said, .inl (cs 0, 123, .inl (o31.2 0))), (a, .inr (12, [.ref a_tape, .int a__taped, .int a__rules, .ref a_sign, .ref a_length, .ref a_clause, .ref a_clauses, .ref a_read, .int a__next, .int a__wrong, .int a__number, .int a__text, .int a__made, .int a__deep, .int a__lines, .ref a_open, .int a__opened, .ref a_stack, .int (o31.1 1), .ref a_word, .ref a_said, .int a__x, .ref a_worth, .ref a_mate, .ref a_wasSaid, .int a__undone, .int (o31.1 2), .ref a_wayBy, .ref a_wayThen, .int a__walkMost, .int a__walkGoing, .int a__walkSet, .ref a_kept, .long o32, .ref a_images, .ref a_imageX, .ref a_isMade]))]) [3, 4, 5, 7, 8, 0, 1, 2, 6] (by decide) rfl) hS ls (lv_sub hl [0, 1, 2, 3, 4, 5, 6, 7, 8] rfl)
      refine lv_iload hx hb dX12_fairs_82 (lv_at hl 0 rfl) ?_
      refine lv_iload_n hx hb dX12_fairs_84 rfl (lv_at hl 5 rfl) ?_
      refine lv_icmp_ge (tgt := 156) hx hb dX12_fairs_85 (by decide) (fun c42 => ?_) (fun c42 => ?_)
      · have t43 : k82_L_7.toInt ≥ p1.toInt := lin_ge c42 rfl rfl
        have h44 : IV 1 10 k82_L_7 := iv_le2 c42 q82_13 q82_11 (by decide)
        have ii45 : 1 ≤ k82_L_7.toInt ∧ k82_L_7.toInt ≤ 10 := h44
        refine lv_iload hx hb dX12_fairs_156 (lv_at hl 7 rfl) ?_
        refine lv_if_ne (tgt := 168) hx hb dX12_fairs_158 (by decide) (fun c46 => ?_) (fun c46 => ?_)
        · have t47 : p3.toInt ≠ 0 := lin_ne c46 rfl (by decide)
          have h48 : IV 1 1 p3 := iv_neL c46 q82_15 (by decide)
          have ii49 : 1 ≤ p3.toInt ∧ p3.toInt ≤ 1 := h48
          refine lv_iload hx hb dX12_fairs_168 (lv_at hl 2 rfl) ?_
          refine W.widen (k := 0) (n := 0) (Nat.le_of_ble_eq_true rfl) (Nat.le_of_ble_eq_true rfl) ?_
          exact W.iret (v := k82_L_5) hx hb hr (fun t ht hW => ⟨⟨k82_L_5, (fun k => match k with | 0 => 0 | 1 => k82_F_a_18 | 2 => k82_F_a_26 | _ => 0, fun k => match k with | 0 => k82_C_a_kept | 1 => k82_C_a_said | _ => fun _ => 0), rfl, (Or.inr ((⟨q82_4, q82_12, q82_13, q82_14, (iv_w h48 (by decide) (by decide)), q82_9, x82_0, x82_1, x82_2⟩))), k82_F_a_33, k82_C_a_stack, k82_C_a_word, by rw [ht]; exact hP.sub [7, 0, 1, 2, 8, 6, 3, 4, 5] rfl, hD.sub [7, 0, 1, 2, 8, 6, 3, 4, 5] (by decide) rfl⟩, hS.F ht⟩) hS.2.2 dX12_fairs_170
        · have t50 : p3.toInt = 0 := lin_eqN c46 rfl (by decide)
          have h51 : IV 0 0 p3 := iv_eq1 c46 q82_15 (iv_c (a := 0) (b := 0) (by decide)) (by decide) (by decide)
          have ii52 : 0 ≤ p3.toInt ∧ p3.toInt ≤ 0 := h51
          refine lv_aload_n hx hb dX12_fairs_161 rfl (lv_at hl 3 rfl) ?_
          refine va_get (D := D) (ci := 12) (v := .int k82_F_a_26) (C := RX12) (T := TX12) (N := 37) hx hb hT i_X12 hown hK hP 8 rfl rfl 26 (by decide) (hT _ q_207) (fun _ h9 => h9) rfl dX12_fairs_162 ?_
          refine lv_goto (tgt := 170) hx hb dX12_fairs_165 (by decide) ?_
          refine W.widen (k := 0) (n := 0) (Nat.le_of_ble_eq_true rfl) (Nat.le_of_ble_eq_true rfl) ?_
          exact W.iret (v := k82_F_a_26) hx hb hr (fun t ht hW => ⟨⟨k82_F_a_26, (fun k => match k with | 0 => 0 | 1 => k82_F_a_18 | 2 => k82_F_a_26 | _ => 0, fun k => match k with | 0 => k82_C_a_kept | 1 => k82_C_a_said | _ => fun _ => 0), rfl, (Or.inr ((⟨q82_4, q82_12, q82_13, q82_14, (iv_w h51 (by decide) (by decide)), q82_9, x82_0, x82_1, x82_2⟩))), k82_F_a_33, k82_C_a_stack, k82_C_a_word, by rw [ht]; exact hP.sub [7, 0, 1, 2, 8, 6, 3, 4, 5] rfl, hD.sub [7, 0, 1, 2, 8, 6, 3, 4, 5] (by decide) rfl⟩, hS.F ht⟩) hS.2.2 dX12_fairs_170
      · have t53 : k82_L_7.toInt < p1.toInt := lin_geN c42 rfl rfl
        have h54 : IV 0 9 k82_L_7 := iv_lt1 (Int32.not_le.mp c42) q82_11 q82_13 (by decide)
        have ii55 : 0 ≤ k82_L_7.toInt ∧ k82_L_7.toInt ≤ 9 := h54
        refine lv_iconst (v := 0) hx hb dX12_fairs_88 (by decide) ?_
        refine lv_istore (lv' := [(8, .int 0), (7, .int k82_L_7), (6, .int k82_L_6), (5, .int k82_L_5), (0, .ref a), (1, .int p0), (2, .int p1), (3, .int p2), (4, .int p3)]) hx hb dX12_fairs_89 hl (by decide) rfl (fun ls hl => ?_)
        exact K91 _ ((0 : Int32)) k82_C_a_word k82_C_a_stack k82_C_a_said k82_F_a_18 k82_F_a_26 k82_F_a_33 (Nat.le_refl _) q82_4 q82_10 h54 q82_9 (iv_c (by decide)) q82_12 q82_13 q82_14 q82_15 x82_0 x82_1 (by omega) x82_3 x82_4 x82_5 H locs (hP.sub (ws' := [(a_sign, .inl (cs 0, 2400, .inl a_sign_c)), (a_clause, .inl (cs 0, 360, .inl a_clause_c)), (a_clauses, .inl (cs 0, 6, .inl a_clauses_c)), (a_word, .inl (cs 3, 13, .inr (.inl k82_C_a_word))), (a_stack, .inl (cs 3, 64, .inr (.inl k82_C_a_stack))), (a_worth, .inl (cs 0, 4096, .inl a_worth_c)), (a_kept, .inl (cs 0, 86, .inl k82_C_a_kept)), (a_said, .inl (cs 0, 123, .inl k82_C_a_said)), (a, .inr (12, [.ref a_tape, .int a__taped, .int a__rules, .ref a_sign, .ref a_length, .ref a_clause, .ref a_clauses, .ref a_read, .int a__next, .int a__wrong, .int a__number, .int a__text, .int a__made, .int a__deep, .int a__lines, .ref a_open, .int a__opened, .ref a_stack, .int k82_F_a_18, .ref a_word, .ref a_said, .int a__x, .ref a_worth, .ref a_mate, .ref a_wasSaid, .int a__undone, .int k82_F_a_26, .ref a_wayBy, .ref a_wayThen, .int a__walkMost, .int a__walkGoing, .int a__walkSet, .ref a_kept, .long k82_F_a_33, .ref a_images, .ref a_imageX, .ref a_isMade]))]) [0, 1, 2, 3, 4, 5, 6, 7, 8] rfl) (hD.sub (ws' := [(a_sign, .inl (cs 0, 2400, .inl a_sign_c)), (a_clause, .inl (cs 0, 360, .inl a_clause_c)), (a_clauses, .inl (cs 0, 6, .inl a_clauses_c)), (a_word, .inl (cs 3, 13, .inr (.inl k82_C_a_word))), (a_stack, .inl (cs 3, 64, .inr (.inl k82_C_a_stack))), (a_worth, .inl (cs 0, 4096, .inl a_worth_c)), (a_kept, .inl (cs 0, 86, .inl k82_C_a_kept)), (a_said, .inl (cs 0, 123, .inl k82_C_a_said)), (a, .inr (12, [.ref a_tape, .int a__taped, .int a__rules, .ref a_sign, .ref a_length, .ref a_clause, .ref a_clauses, .ref a_read, .int a__next, .int a__wrong, .int a__number, .int a__text, .int a__made, .int a__deep, .int a__lines, .ref a_open, .int a__opened, .ref a_stack, .int k82_F_a_18, .ref a_word, .ref a_said, .int a__x, .ref a_worth, .ref a_mate, .ref a_wasSaid, .int a__undone, .int k82_F_a_26, .ref a_wayBy, .ref a_wayThen, .int a__walkMost, .int a__walkGoing, .int a__walkSet, .ref a_kept, .long k82_F_a_33, .ref a_images, .ref a_imageX, .ref a_isMade]))]) [0, 1, 2, 3, 4, 5, 6, 7, 8] (by decide) rfl) hS ls (lv_sub hl [0, 1, 2, 3, 4, 5, 6, 7, 8] rfl)
  refine lv_aload_n hx hb dX12_fairs_0 rfl (lv_at hl 0 rfl) ?_
  refine va_calli (va_runV (As := []) (rest := []) ⟨hx, hb, hml, hown, hT⟩ (c_X12_isFair l D cs kK kV a a_said a_said_c a_tape a__taped a__rules a_sign a_length a_clause a_clauses a_read a__next a__wrong a__number a__text a__made a__deep a__lines a_open a__opened a_stack a__top a_word a__x a_worth a_mate a_wasSaid a__undone a__boughtNow a_wayBy a_wayThen a__walkMost a__walkGoing a__walkSet a_kept a__drawX a_images a_imageX a_isMade h_a__taped h_a__rules h_a__next h_a__text h_a__made h_a__lines h_a__opened h_a__top h_a__x h_a__undone hf0) (cwV 0 hT (hz_gV q_1140 q_1141 q_1142 q_701 q_1143) rfl rfl rfl (by decide +kernel) ⟨(Nat.le_of_ble_eq_true rfl), (Nat.le_of_ble_eq_true rfl)⟩) ⟨hz_P.blind, va_recv hK hP (ci := 12) (q0 := 4) rfl rfl, hz_P.mk (hP.sub (ws' := [(a_said, .inl (cs 0, 123, .inl a_said_c)), (a, .inr (12, [.ref a_tape, .int a__taped, .int a__rules, .ref a_sign, .ref a_length, .ref a_clause, .ref a_clauses, .ref a_read, .int a__next, .int a__wrong, .int a__number, .int a__text, .int a__made, .int a__deep, .int a__lines, .ref a_open, .int a__opened, .ref a_stack, .int a__top, .ref a_word, .ref a_said, .int a__x, .ref a_worth, .ref a_mate, .ref a_wasSaid, .int a__undone, .int a__boughtNow, .ref a_wayBy, .ref a_wayThen, .int a__walkMost, .int a__walkGoing, .int a__walkSet, .ref a_kept, .long a__drawX, .ref a_images, .ref a_imageX, .ref a_isMade]))]) [0,4] rfl) hE hS⟩ rfl rfl hl.1 rfl (lv_room (Nat.le_of_ble_eq_true rfl)) dX12_fairs_1 ⟨(Nat.le_of_ble_eq_true rfl), (Nat.le_of_ble_eq_true rfl)⟩) hS (fun _ _ h => h.elim) (fun _ h => h.elim) (fun r56 u t H1 locs ht hvm hw hB hz1 hk1 hS => ?_)
  have hP := hz_keep hP hk1
  clear hk1 hB hz1
  generalize H1 = H at hP hS ⊢
  rcases hw with ⟨rfl, x57⟩ | ⟨rfl, x58⟩
  · refine lv_if_eq (tgt := 50) hx hb dX12_fairs_4 (by decide) (fun _ => ?_) (fun z => absurd (by decide) z)
    refine lv_iconst (v := (-1)) hx hb dX12_fairs_50 (by decide) ?_
    refine W.widen (k := 0) (n := 0) (Nat.le_of_ble_eq_true rfl) (Nat.le_of_ble_eq_true rfl) ?_
    exact W.iret (v := (-1)) hx hb hr (fun t ht hW => ⟨⟨(-1), (fun k => match k with | 0 => 0 | 1 => a__top | 2 => a__boughtNow | _ => 0, fun k => match k with | 0 => a_kept_c | 1 => a_said_c | _ => fun _ => 0), rfl, (Or.inl (⟨rfl, h_a__top, hf0, hf1, hf2⟩)), a__drawX, a_stack_c, a_word_c, by rw [ht]; exact hP.sub [0, 1, 2, 3, 4, 5, 6, 7, 8] rfl, hD.sub [0, 1, 2, 3, 4, 5, 6, 7, 8] (by decide) rfl⟩, hS.F ht⟩) hS.2.2 dX12_fairs_51
  · refine lv_if_eq (tgt := 50) hx hb dX12_fairs_4 (by decide) (fun z => absurd z (by decide)) (fun _ => ?_)
    refine lv_aload_n hx hb dX12_fairs_7 rfl (lv_at hl 0 rfl) ?_
    refine lv_iload_n hx hb dX12_fairs_8 rfl (lv_at hl 1 rfl) ?_
    refine va_calli (va_runV (As := [.int p0]) (rest := []) ⟨hx, hb, hml, hown, hT⟩ (c_X12_isRule l D cs kK kV a p0 a_tape a__taped a__rules a_sign a_length a_clause a_clauses a_read a__next a__wrong a__number a__text a__made a__deep a__lines a_open a__opened a_stack a__top a_word a_said a__x a_worth a_mate a_wasSaid a__undone a__boughtNow a_wayBy a_wayThen a__walkMost a__walkGoing a__walkSet a_kept a__drawX a_images a_imageX a_isMade h_a__taped h_a__rules h_a__next h_a__text h_a__made h_a__lines h_a__opened h_a__top h_a__x h_a__undone) (cwV 1 hT (hz_gV q_1235 q_1236 q_1237 q_701 q_1238) rfl rfl rfl (by decide +kernel) ⟨(Nat.le_of_ble_eq_true rfl), (Nat.le_of_ble_eq_true rfl)⟩) ⟨hz_P.blind, va_recv hK hP (ci := 12) (q0 := 4) rfl rfl, hz_P.mk (hP.sub (ws' := [(a, .inr (12, [.ref a_tape, .int a__taped, .int a__rules, .ref a_sign, .ref a_length, .ref a_clause, .ref a_clauses, .ref a_read, .int a__next, .int a__wrong, .int a__number, .int a__text, .int a__made, .int a__deep, .int a__lines, .ref a_open, .int a__opened, .ref a_stack, .int a__top, .ref a_word, .ref a_said, .int a__x, .ref a_worth, .ref a_mate, .ref a_wasSaid, .int a__undone, .int a__boughtNow, .ref a_wayBy, .ref a_wayThen, .int a__walkMost, .int a__walkGoing, .int a__walkSet, .ref a_kept, .long a__drawX, .ref a_images, .ref a_imageX, .ref a_isMade]))]) [4] rfl) hE hS⟩ rfl rfl hl.1 rfl (lv_room (Nat.le_of_ble_eq_true rfl)) dX12_fairs_9 ⟨(Nat.le_of_ble_eq_true rfl), (Nat.le_of_ble_eq_true rfl)⟩) hS (fun _ _ h => h.elim) (fun _ h => h.elim) (fun r59 u t H1 locs ht hvm hw hB hz1 hk1 hS => ?_)
    have hP := hz_keep hP hk1
    clear hk1 hB hz1
    generalize H1 = H at hP hS ⊢
    rcases hw with ⟨rfl, h60⟩ | ⟨rfl, h61, h62, x63, x64⟩
    · have ii65 : (-2147483648) ≤ p0.toInt ∧ p0.toInt ≤ 2147483647 := h60
      refine lv_if_eq (tgt := 50) hx hb dX12_fairs_12 (by decide) (fun _ => ?_) (fun z => absurd (by decide) z)
      refine lv_iconst (v := (-1)) hx hb dX12_fairs_50 (by decide) ?_
      refine W.widen (k := 0) (n := 0) (Nat.le_of_ble_eq_true rfl) (Nat.le_of_ble_eq_true rfl) ?_
      exact W.iret (v := (-1)) hx hb hr (fun t ht hW => ⟨⟨(-1), (fun k => match k with | 0 => 0 | 1 => a__top | 2 => a__boughtNow | _ => 0, fun k => match k with | 0 => a_kept_c | 1 => a_said_c | _ => fun _ => 0), rfl, (Or.inl (⟨rfl, h_a__top, hf0, hf1, hf2⟩)), a__drawX, a_stack_c, a_word_c, by rw [ht]; exact hP.sub [0, 1, 2, 3, 4, 5, 6, 7, 8] rfl, hD.sub [0, 1, 2, 3, 4, 5, 6, 7, 8] (by decide) rfl⟩, hS.F ht⟩) hS.2.2 dX12_fairs_51
    · have ii66 : 1 ≤ a__rules.toInt ∧ a__rules.toInt ≤ 6 := h61
      have ii67 : 0 ≤ p0.toInt ∧ p0.toInt ≤ 5 := h62
      refine lv_if_eq (tgt := 50) hx hb dX12_fairs_12 (by decide) (fun z => absurd z (by decide)) (fun _ => ?_)
      refine lv_iload_n hx hb dX12_fairs_15 rfl (lv_at hl 2 rfl) ?_
      refine lv_i2l (v := p1.toInt64) hx hb dX12_fairs_16 rfl ?_
      refine lv_lconst (v := 1) hx hb dX12_fairs_17 (by decide) ?_
      refine lv_ldc2 hx hb hown (hT _ q_1426) dX12_fairs_18 ?_
      refine va_calli (va_runS (As := [.long p1.toInt64, .long 1, .long 10]) (rest := []) ⟨hx, hb, hml, hown, hT⟩ (c_X12_in l D cs kK kV p1.toInt64 1 10) (va_cwS 3 hT (hz_gS q_964 q_965 q_701 q_966) rfl rfl rfl (by decide +kernel) ⟨(Nat.le_of_ble_eq_true rfl), (Nat.le_of_ble_eq_true rfl)⟩) ⟨hz_P.blind, hz_P.mk (hP.sub (ws' := []) [] rfl) hE hS⟩ rfl rfl hl.1 rfl (lv_room (Nat.le_of_ble_eq_true rfl)) dX12_fairs_21 ⟨(Nat.le_of_ble_eq_true rfl), (Nat.le_of_ble_eq_true rfl)⟩) hS (fun _ _ h => h.elim) (fun _ h => h.elim) (fun r68 u t H1 locs ht hvm hw hB hz1 hk1 hS => ?_)
      have hP := hz_keep hP hk1
      clear hk1 hB hz1
      generalize H1 = H at hP hS ⊢
      rcases hw with ⟨rfl, x69⟩ | ⟨rfl, x70, x71⟩
      · have t72 : ¬ (1 ≤ p1.toInt ∧ p1.toInt ≤ 10) := fun z => x69 ⟨l64_clI z.1 (by decide), l64_lcI z.2 (by decide)⟩
        refine lv_if_eq (tgt := 50) hx hb dX12_fairs_24 (by decide) (fun _ => ?_) (fun z => absurd (by decide) z)
        refine lv_iconst (v := (-1)) hx hb dX12_fairs_50 (by decide) ?_
        refine W.widen (k := 0) (n := 0) (Nat.le_of_ble_eq_true rfl) (Nat.le_of_ble_eq_true rfl) ?_
        exact W.iret (v := (-1)) hx hb hr (fun t ht hW => ⟨⟨(-1), (fun k => match k with | 0 => 0 | 1 => a__top | 2 => a__boughtNow | _ => 0, fun k => match k with | 0 => a_kept_c | 1 => a_said_c | _ => fun _ => 0), rfl, (Or.inl (⟨rfl, h_a__top, hf0, hf1, hf2⟩)), a__drawX, a_stack_c, a_word_c, by rw [ht]; exact hP.sub [0, 1, 2, 3, 4, 5, 6, 7, 8] rfl, hD.sub [0, 1, 2, 3, 4, 5, 6, 7, 8] (by decide) rfl⟩, hS.F ht⟩) hS.2.2 dX12_fairs_51
      · have h73 : IV 1 2147483647 p1 := ⟨l64_cle x70 (by decide), iv_top.2⟩
        have ii74 : 1 ≤ p1.toInt ∧ p1.toInt ≤ 2147483647 := h73
        have h75 : IV 1 10 p1 := ⟨(h73).1, l64_lec x71 (by decide)⟩
        have ii76 : 1 ≤ p1.toInt ∧ p1.toInt ≤ 10 := h75
        refine lv_if_eq (tgt := 50) hx hb dX12_fairs_24 (by decide) (fun z => absurd z (by decide)) (fun _ => ?_)
        refine lv_iload_n hx hb dX12_fairs_27 rfl (lv_at hl 3 rfl) ?_
        refine lv_i2l (v := p2.toInt64) hx hb dX12_fairs_28 rfl ?_
        refine lv_lconst (v := 0) hx hb dX12_fairs_29 (by decide) ?_
        refine lv_ldc2 hx hb hown (hT _ q_1427) dX12_fairs_30 ?_
        refine va_calli (va_runS (As := [.long p2.toInt64, .long 0, .long 100]) (rest := []) ⟨hx, hb, hml, hown, hT⟩ (c_X12_in l D cs kK kV p2.toInt64 0 100) (va_cwS 3 hT (hz_gS q_964 q_965 q_701 q_966) rfl rfl rfl (by decide +kernel) ⟨(Nat.le_of_ble_eq_true rfl), (Nat.le_of_ble_eq_true rfl)⟩) ⟨hz_P.blind, hz_P.mk (hP.sub (ws' := []) [] rfl) hE hS⟩ rfl rfl hl.1 rfl (lv_room (Nat.le_of_ble_eq_true rfl)) dX12_fairs_33 ⟨(Nat.le_of_ble_eq_true rfl), (Nat.le_of_ble_eq_true rfl)⟩) hS (fun _ _ h => h.elim) (fun _ h => h.elim) (fun r77 u t H1 locs ht hvm hw hB hz1 hk1 hS => ?_)
        have hP := hz_keep hP hk1
        clear hk1 hB hz1
        generalize H1 = H at hP hS ⊢
        rcases hw with ⟨rfl, x78⟩ | ⟨rfl, x79, x80⟩
        · have t81 : ¬ (0 ≤ p2.toInt ∧ p2.toInt ≤ 100) := fun z => x78 ⟨l64_clI z.1 (by decide), l64_lcI z.2 (by decide)⟩
          refine lv_if_eq (tgt := 50) hx hb dX12_fairs_36 (by decide) (fun _ => ?_) (fun z => absurd (by decide) z)
          refine lv_iconst (v := (-1)) hx hb dX12_fairs_50 (by decide) ?_
          refine W.widen (k := 0) (n := 0) (Nat.le_of_ble_eq_true rfl) (Nat.le_of_ble_eq_true rfl) ?_
          exact W.iret (v := (-1)) hx hb hr (fun t ht hW => ⟨⟨(-1), (fun k => match k with | 0 => 0 | 1 => a__top | 2 => a__boughtNow | _ => 0, fun k => match k with | 0 => a_kept_c | 1 => a_said_c | _ => fun _ => 0), rfl, (Or.inl (⟨rfl, h_a__top, hf0, hf1, hf2⟩)), a__drawX, a_stack_c, a_word_c, by rw [ht]; exact hP.sub [0, 1, 2, 3, 4, 5, 6, 7, 8] rfl, hD.sub [0, 1, 2, 3, 4, 5, 6, 7, 8] (by decide) rfl⟩, hS.F ht⟩) hS.2.2 dX12_fairs_51
        · have h82 : IV 0 2147483647 p2 := ⟨l64_cle x79 (by decide), iv_top.2⟩
          have ii83 : 0 ≤ p2.toInt ∧ p2.toInt ≤ 2147483647 := h82
          have h84 : IV 0 100 p2 := ⟨(h82).1, l64_lec x80 (by decide)⟩
          have ii85 : 0 ≤ p2.toInt ∧ p2.toInt ≤ 100 := h84
          refine lv_if_eq (tgt := 50) hx hb dX12_fairs_36 (by decide) (fun z => absurd z (by decide)) (fun _ => ?_)
          refine lv_iload hx hb dX12_fairs_39 (lv_at hl 4 rfl) ?_
          refine lv_i2l (v := p3.toInt64) hx hb dX12_fairs_41 rfl ?_
          refine lv_lconst (v := 0) hx hb dX12_fairs_42 (by decide) ?_
          refine lv_lconst (v := 1) hx hb dX12_fairs_43 (by decide) ?_
          refine va_calli (va_runS (As := [.long p3.toInt64, .long 0, .long 1]) (rest := []) ⟨hx, hb, hml, hown, hT⟩ (c_X12_in l D cs kK kV p3.toInt64 0 1) (va_cwS 3 hT (hz_gS q_964 q_965 q_701 q_966) rfl rfl rfl (by decide +kernel) ⟨(Nat.le_of_ble_eq_true rfl), (Nat.le_of_ble_eq_true rfl)⟩) ⟨hz_P.blind, hz_P.mk (hP.sub (ws' := []) [] rfl) hE hS⟩ rfl rfl hl.1 rfl (lv_room (Nat.le_of_ble_eq_true rfl)) dX12_fairs_44 ⟨(Nat.le_of_ble_eq_true rfl), (Nat.le_of_ble_eq_true rfl)⟩) hS (fun _ _ h => h.elim) (fun _ h => h.elim) (fun r86 u t H1 locs ht hvm hw hB hz1 hk1 hS => ?_)
          have hP := hz_keep hP hk1
          clear hk1 hB hz1
          generalize H1 = H at hP hS ⊢
          rcases hw with ⟨rfl, x87⟩ | ⟨rfl, x88, x89⟩
          · have t90 : ¬ (0 ≤ p3.toInt ∧ p3.toInt ≤ 1) := fun z => x87 ⟨l64_clI z.1 (by decide), l64_lcI z.2 (by decide)⟩
            refine lv_if_ne (tgt := 52) hx hb dX12_fairs_47 (by decide) (fun z => absurd (by decide) z) (fun _ => ?_)
            refine lv_iconst (v := (-1)) hx hb dX12_fairs_50 (by decide) ?_
            refine W.widen (k := 0) (n := 0) (Nat.le_of_ble_eq_true rfl) (Nat.le_of_ble_eq_true rfl) ?_
            exact W.iret (v := (-1)) hx hb hr (fun t ht hW => ⟨⟨(-1), (fun k => match k with | 0 => 0 | 1 => a__top | 2 => a__boughtNow | _ => 0, fun k => match k with | 0 => a_kept_c | 1 => a_said_c | _ => fun _ => 0), rfl, (Or.inl (⟨rfl, h_a__top, hf0, hf1, hf2⟩)), a__drawX, a_stack_c, a_word_c, by rw [ht]; exact hP.sub [0, 1, 2, 3, 4, 5, 6, 7, 8] rfl, hD.sub [0, 1, 2, 3, 4, 5, 6, 7, 8] (by decide) rfl⟩, hS.F ht⟩) hS.2.2 dX12_fairs_51
          · have h91 : IV 0 2147483647 p3 := ⟨l64_cle x88 (by decide), iv_top.2⟩
            have ii92 : 0 ≤ p3.toInt ∧ p3.toInt ≤ 2147483647 := h91
            have h93 : IV 0 1 p3 := ⟨(h91).1, l64_lec x89 (by decide)⟩
            have ii94 : 0 ≤ p3.toInt ∧ p3.toInt ≤ 1 := h93
            refine lv_if_ne (tgt := 52) hx hb dX12_fairs_47 (by decide) (fun _ => ?_) (fun z => absurd z (by decide))
            refine lv_aload_n hx hb dX12_fairs_52 rfl (lv_at hl 0 rfl) ?_
            refine lv_aload_n hx hb dX12_fairs_53 rfl (lv_at hl 0 rfl) ?_
            refine va_get (D := D) (ci := 12) (v := .int a__x) (C := RX12) (T := TX12) (N := 37) hx hb hT i_X12 hown hK hP 4 rfl rfl 21 (by decide) (hT _ q_211) (fun _ h9 => h9) rfl dX12_fairs_54 ?_
            refine lv_i2l (v := a__x.toInt64) hx hb dX12_fairs_57 rfl ?_
            refine va_put (D := D) (ci := 12) (v := .long a__x.toInt64) (ty := .long) (C := RX12) (T := TX12) (N := 37) hx hb hT i_X12 tyX12 tyX12_ok nmX12 hown hK hP hD hS 4 rfl rfl 33 (by decide) (hT _ q_212) (fun _ h9 => h9) rfl (by decide +kernel) rfl rfl (Nat.le_of_ble_eq_true rfl) dX12_fairs_58 (fun H locs hP hD hS => ?_)
            have hP : va_P D classes [(a_said, .inl (cs 0, 123, .inl a_said_c)), (a_sign, .inl (cs 0, 2400, .inl a_sign_c)), (a_clause, .inl (cs 0, 360, .inl a_clause_c)), (a_clauses, .inl (cs 0, 6, .inl a_clauses_c)), (a, .inr (12, [.ref a_tape, .int a__taped, .int a__rules, .ref a_sign, .ref a_length, .ref a_clause, .ref a_clauses, .ref a_read, .int a__next, .int a__wrong, .int a__number, .int a__text, .int a__made, .int a__deep, .int a__lines, .ref a_open, .int a__opened, .ref a_stack, .int a__top, .ref a_word, .ref a_said, .int a__x, .ref a_worth, .ref a_mate, .ref a_wasSaid, .int a__undone, .int a__boughtNow, .ref a_wayBy, .ref a_wayThen, .int a__walkMost, .int a__walkGoing, .int a__walkSet, .ref a_kept, .long a__x.toInt64, .ref a_images, .ref a_imageX, .ref a_isMade])), (a_kept, .inl (cs 0, 86, .inl a_kept_c)), (a_word, .inl (cs 3, 13, .inr (.inl a_word_c))), (a_stack, .inl (cs 3, 64, .inr (.inl a_stack_c))), (a_worth, .inl (cs 0, 4096, .inl a_worth_c))] H := hP
            have hD : va_D A [(a_said, .inl (cs 0, 123, .inl a_said_c)), (a_sign, .inl (cs 0, 2400, .inl a_sign_c)), (a_clause, .inl (cs 0, 360, .inl a_clause_c)), (a_clauses, .inl (cs 0, 6, .inl a_clauses_c)), (a, .inr (12, [.ref a_tape, .int a__taped, .int a__rules, .ref a_sign, .ref a_length, .ref a_clause, .ref a_clauses, .ref a_read, .int a__next, .int a__wrong, .int a__number, .int a__text, .int a__made, .int a__deep, .int a__lines, .ref a_open, .int a__opened, .ref a_stack, .int a__top, .ref a_word, .ref a_said, .int a__x, .ref a_worth, .ref a_mate, .ref a_wasSaid, .int a__undone, .int a__boughtNow, .ref a_wayBy, .ref a_wayThen, .int a__walkMost, .int a__walkGoing, .int a__walkSet, .ref a_kept, .long a__x.toInt64, .ref a_images, .ref a_imageX, .ref a_isMade])), (a_kept, .inl (cs 0, 86, .inl a_kept_c)), (a_word, .inl (cs 3, 13, .inr (.inl a_word_c))), (a_stack, .inl (cs 3, 64, .inr (.inl a_stack_c))), (a_worth, .inl (cs 0, 4096, .inl a_worth_c))] := hD
            refine lv_aload_n hx hb dX12_fairs_61 rfl (lv_at hl 0 rfl) ?_
            refine lv_iconst (v := 0) hx hb dX12_fairs_62 (by decide) ?_
            refine va_put (D := D) (ci := 12) (v := .int 0) (ty := .int) (C := RX12) (T := TX12) (N := 37) hx hb hT i_X12 tyX12 tyX12_ok nmX12 hown hK hP hD hS 4 rfl rfl 26 (by decide) (hT _ q_207) (fun _ h9 => h9) rfl (by decide +kernel) rfl rfl (Nat.le_of_ble_eq_true rfl) dX12_fairs_63 (fun H locs hP hD hS => ?_)
            have hP : va_P D classes [(a_said, .inl (cs 0, 123, .inl a_said_c)), (a_sign, .inl (cs 0, 2400, .inl a_sign_c)), (a_clause, .inl (cs 0, 360, .inl a_clause_c)), (a_clauses, .inl (cs 0, 6, .inl a_clauses_c)), (a, .inr (12, [.ref a_tape, .int a__taped, .int a__rules, .ref a_sign, .ref a_length, .ref a_clause, .ref a_clauses, .ref a_read, .int a__next, .int a__wrong, .int a__number, .int a__text, .int a__made, .int a__deep, .int a__lines, .ref a_open, .int a__opened, .ref a_stack, .int a__top, .ref a_word, .ref a_said, .int a__x, .ref a_worth, .ref a_mate, .ref a_wasSaid, .int a__undone, .int 0, .ref a_wayBy, .ref a_wayThen, .int a__walkMost, .int a__walkGoing, .int a__walkSet, .ref a_kept, .long a__x.toInt64, .ref a_images, .ref a_imageX, .ref a_isMade])), (a_kept, .inl (cs 0, 86, .inl a_kept_c)), (a_word, .inl (cs 3, 13, .inr (.inl a_word_c))), (a_stack, .inl (cs 3, 64, .inr (.inl a_stack_c))), (a_worth, .inl (cs 0, 4096, .inl a_worth_c))] H := hP
            have hD : va_D A [(a_said, .inl (cs 0, 123, .inl a_said_c)), (a_sign, .inl (cs 0, 2400, .inl a_sign_c)), (a_clause, .inl (cs 0, 360, .inl a_clause_c)), (a_clauses, .inl (cs 0, 6, .inl a_clauses_c)), (a, .inr (12, [.ref a_tape, .int a__taped, .int a__rules, .ref a_sign, .ref a_length, .ref a_clause, .ref a_clauses, .ref a_read, .int a__next, .int a__wrong, .int a__number, .int a__text, .int a__made, .int a__deep, .int a__lines, .ref a_open, .int a__opened, .ref a_stack, .int a__top, .ref a_word, .ref a_said, .int a__x, .ref a_worth, .ref a_mate, .ref a_wasSaid, .int a__undone, .int 0, .ref a_wayBy, .ref a_wayThen, .int a__walkMost, .int a__walkGoing, .int a__walkSet, .ref a_kept, .long a__x.toInt64, .ref a_images, .ref a_imageX, .ref a_isMade])), (a_kept, .inl (cs 0, 86, .inl a_kept_c)), (a_word, .inl (cs 3, 13, .inr (.inl a_word_c))), (a_stack, .inl (cs 3, 64, .inr (.inl a_stack_c))), (a_worth, .inl (cs 0, 4096, .inl a_worth_c))] := hD
            refine lv_iconst (v := 0) hx hb dX12_fairs_66 (by decide) ?_
            refine lv_istore (lv' := [(5, .int 0), (0, .ref a), (1, .int p0), (2, .int p1), (3, .int p2), (4, .int p3)]) hx hb dX12_fairs_67 hl (by decide) rfl (fun ls hl => ?_)
            refine lv_aload_n hx hb dX12_fairs_69 rfl (lv_at hl 1 rfl) ?_
            refine va_calli (va_runV (As := []) (rest := []) ⟨hx, hb, hml, hown, hT⟩ (c_X12_hoursAhead l D cs kK kV a a_tape a__taped a__rules a_sign a_length a_clause a_clauses a_read a__next a__wrong a__number a__text a__made a__deep a__lines a_open a__opened a_stack a__top a_word a_said a__x a_worth a_mate a_wasSaid a__undone 0 a_wayBy a_wayThen a__walkMost a__walkGoing a__walkSet a_kept a__x.toInt64 a_images a_imageX a_isMade a_said_c h_a__taped ((iv_w h61 (by decide) (by decide))) h_a__next h_a__text h_a__made h_a__lines h_a__opened h_a__top h_a__x h_a__undone) (cwV 0 hT (hz_gV q_1285 q_1286 q_1287 q_701 q_1288) rfl rfl rfl (by decide +kernel) ⟨(Nat.le_of_ble_eq_true rfl), (Nat.le_of_ble_eq_true rfl)⟩) ⟨hz_P.blind, va_recv hK hP (ci := 12) (q0 := 4) rfl rfl, hz_P.mk (hP.sub (ws' := [(a, .inr (12, [.ref a_tape, .int a__taped, .int a__rules, .ref a_sign, .ref a_length, .ref a_clause, .ref a_clauses, .ref a_read, .int a__next, .int a__wrong, .int a__number, .int a__text, .int a__made, .int a__deep, .int a__lines, .ref a_open, .int a__opened, .ref a_stack, .int a__top, .ref a_word, .ref a_said, .int a__x, .ref a_worth, .ref a_mate, .ref a_wasSaid, .int a__undone, .int 0, .ref a_wayBy, .ref a_wayThen, .int a__walkMost, .int a__walkGoing, .int a__walkSet, .ref a_kept, .long a__x.toInt64, .ref a_images, .ref a_imageX, .ref a_isMade])), (a_said, .inl (cs 0, 123, .inl a_said_c))]) [4,0] rfl) hE hS⟩ rfl rfl hl.1 rfl (lv_room (Nat.le_of_ble_eq_true rfl)) dX12_fairs_70 ⟨(Nat.le_of_ble_eq_true rfl), (Nat.le_of_ble_eq_true rfl)⟩) hS (fun _ _ h => h.elim) (fun _ h => h.elim) (fun r95 u t H1 locs ht hvm hw hB hz1 hk1 hS => ?_)
            have hP := hz_keep hP hk1
            clear hk1 hB hz1
            generalize H1 = H at hP hS ⊢
            have hw_r95 := hw
            refine lv_istore (lv' := [(6, .int r95), (5, .int 0), (0, .ref a), (1, .int p0), (2, .int p1), (3, .int p2), (4, .int p3)]) hx hb dX12_fairs_73 hl (by decide) rfl (fun ls hl => ?_)
            refine lv_aload_n hx hb dX12_fairs_75 rfl (lv_at hl 2 rfl) ?_
            have hFc := va_free (wc := [(a_kept, .inl (cs 0, 86, .inl a_kept_c)), (a_said, .inl (cs 0, 123, .inl a_said_c)), (a, .inr (12, [.ref a_tape, .int a__taped, .int a__rules, .ref a_sign, .ref a_length, .ref a_clause, .ref a_clauses, .ref a_read, .int a__next, .int a__wrong, .int a__number, .int a__text, .int a__made, .int a__deep, .int a__lines, .ref a_open, .int a__opened, .ref a_stack, .int a__top, .ref a_word, .ref a_said, .int a__x, .ref a_worth, .ref a_mate, .ref a_wasSaid, .int a__undone, .int 0, .ref a_wayBy, .ref a_wayThen, .int a__walkMost, .int a__walkGoing, .int a__walkSet, .ref a_kept, .long a__x.toInt64, .ref a_images, .ref a_imageX, .ref a_isMade]))]) hD hS hA [5,0,4] rfl
            refine va_callv (va_runV (As := []) (rest := []) ⟨hx, hb, hml, hown, hT⟩ (c_X12_keeps l D cs kK kV a a_kept a_kept_c a_said a_said_c a_tape a__taped a__rules a_sign a_length a_clause a_clauses a_read a__next a__wrong a__number a__text a__made a__deep a__lines a_open a__opened a_stack a__top a_word a__x a_worth a_mate a_wasSaid a__undone 0 a_wayBy a_wayThen a__walkMost a__walkGoing a__walkSet a__x.toInt64 a_images a_imageX a_isMade h_a__taped ((iv_w h61 (by decide) (by decide))) h_a__next h_a__text h_a__made h_a__lines h_a__opened h_a__top h_a__x h_a__undone H.size) (cwV 0 hT (hz_gV q_1289 q_1290 q_1291 q_701 q_1292) rfl rfl rfl (by decide +kernel) ⟨(Nat.le_of_ble_eq_true rfl), (Nat.le_of_ble_eq_true rfl)⟩) ⟨hz_C.blind, va_recv hK hP (ci := 12) (q0 := 4) rfl rfl, hz_C.mk (hP.sub (ws' := [(a_kept, .inl (cs 0, 86, .inl a_kept_c)), (a_said, .inl (cs 0, 123, .inl a_said_c)), (a, .inr (12, [.ref a_tape, .int a__taped, .int a__rules, .ref a_sign, .ref a_length, .ref a_clause, .ref a_clauses, .ref a_read, .int a__next, .int a__wrong, .int a__number, .int a__text, .int a__made, .int a__deep, .int a__lines, .ref a_open, .int a__opened, .ref a_stack, .int a__top, .ref a_word, .ref a_said, .int a__x, .ref a_worth, .ref a_mate, .ref a_wasSaid, .int a__undone, .int 0, .ref a_wayBy, .ref a_wayThen, .int a__walkMost, .int a__walkGoing, .int a__walkSet, .ref a_kept, .long a__x.toInt64, .ref a_images, .ref a_imageX, .ref a_isMade]))]) [5,0,4] rfl) (hD.sub (ws' := [(a_kept, .inl (cs 0, 86, .inl a_kept_c)), (a_said, .inl (cs 0, 123, .inl a_said_c)), (a, .inr (12, [.ref a_tape, .int a__taped, .int a__rules, .ref a_sign, .ref a_length, .ref a_clause, .ref a_clauses, .ref a_read, .int a__next, .int a__wrong, .int a__number, .int a__text, .int a__made, .int a__deep, .int a__lines, .ref a_open, .int a__opened, .ref a_stack, .int a__top, .ref a_word, .ref a_said, .int a__x, .ref a_worth, .ref a_mate, .ref a_wasSaid, .int a__undone, .int 0, .ref a_wayBy, .ref a_wayThen, .int a__walkMost, .int a__walkGoing, .int a__walkSet, .ref a_kept, .long a__x.toInt64, .ref a_images, .ref a_imageX, .ref a_isMade]))]) [5,0,4] (by decide) rfl) hE hS hFc⟩ rfl rfl hl.1 rfl (lv_room (Nat.le_of_ble_eq_true rfl)) dX12_fairs_76 ⟨(Nat.le_of_ble_eq_true rfl), (Nat.le_of_ble_eq_true rfl)⟩) hS (fun q _ h => hFc q h) hFc (fun o97 t H1 locs ht hvm hw hB hz1 hk1 hS => ?_)
            obtain ⟨hP1, hD1⟩ := hB
            rw [ht] at hP1
            obtain ⟨hP, hD⟩ := va_join (wr := [(a_sign, .inl (cs 0, 2400, .inl a_sign_c)), (a_clause, .inl (cs 0, 360, .inl a_clause_c)), (a_clauses, .inl (cs 0, 6, .inl a_clauses_c)), (a_word, .inl (cs 3, 13, .inr (.inl a_word_c))), (a_stack, .inl (cs 3, 64, .inr (.inl a_stack_c))), (a_worth, .inl (cs 0, 4096, .inl a_worth_c))]) (w1 := [(a_kept, .inl (cs 0, 86, .inl (o97.2 0))), (a_said, .inl (cs 0, 123, .inl a_said_c)), (a, .inr (12, [.ref a_tape, .int a__taped, .int a__rules, .ref a_sign, .ref a_length, .ref a_clause, .ref a_clauses, .ref a_read, .int a__next, .int a__wrong, .int a__number, .int a__text, .int a__made, .int a__deep, .int a__lines, .ref a_open, .int a__opened, .ref a_stack, .int a__top, .ref a_word, .ref a_said, .int a__x, .ref a_worth, .ref a_mate, .ref a_wasSaid, .int a__undone, .int 0, .ref a_wayBy, .ref a_wayThen, .int a__walkMost, .int a__walkGoing, .int a__walkSet, .ref a_kept, .long a__x.toInt64, .ref a_images, .ref a_imageX, .ref a_isMade]))]) hP hD [5, 0, 4] [1, 2, 3, 6, 7, 8] rfl rfl (by decide) (by decide) hk1 hFc hP1 hD1
            generalize H1 = H at hP hS ⊢
            have hP : va_P D classes [(a_sign, .inl (cs 0, 2400, .inl a_sign_c)), (a_clause, .inl (cs 0, 360, .inl a_clause_c)), (a_clauses, .inl (cs 0, 6, .inl a_clauses_c)), (a_word, .inl (cs 3, 13, .inr (.inl a_word_c))), (a_stack, .inl (cs 3, 64, .inr (.inl a_stack_c))), (a_worth, .inl (cs 0, 4096, .inl a_worth_c)), (a_kept, .inl (cs 0, 86, .inl (o97.2 0))), (a_said, .inl (cs 0, 123, .inl a_said_c)), (a, .inr (12, [.ref a_tape, .int a__taped, .int a__rules, .ref a_sign, .ref a_length, .ref a_clause, .ref a_clauses, .ref a_read, .int a__next, .int a__wrong, .int a__number, .int a__text, .int a__made, .int a__deep, .int a__lines, .ref a_open, .int a__opened, .ref a_stack, .int a__top, .ref a_word, .ref a_said, .int a__x, .ref a_worth, .ref a_mate, .ref a_wasSaid, .int a__undone, .int 0, .ref a_wayBy, .ref a_wayThen, .int a__walkMost, .int a__walkGoing, .int a__walkSet, .ref a_kept, .long a__x.toInt64, .ref a_images, .ref a_imageX, .ref a_isMade]))] H := hP
            have hD : va_D A [(a_sign, .inl (cs 0, 2400, .inl a_sign_c)), (a_clause, .inl (cs 0, 360, .inl a_clause_c)), (a_clauses, .inl (cs 0, 6, .inl a_clauses_c)), (a_word, .inl (cs 3, 13, .inr (.inl a_word_c))), (a_stack, .inl (cs 3, 64, .inr (.inl a_stack_c))), (a_worth, .inl (cs 0, 4096, .inl a_worth_c)), (a_kept, .inl (cs 0, 86, .inl (o97.2 0))), (a_said, .inl (cs 0, 123, .inl a_said_c)), (a, .inr (12, [.ref a_tape, .int a__taped, .int a__rules, .ref a_sign, .ref a_length, .ref a_clause, .ref a_clauses, .ref a_read, .int a__next, .int a__wrong, .int a__number, .int a__text, .int a__made, .int a__deep, .int a__lines, .ref a_open, .int a__opened, .ref a_stack, .int a__top, .ref a_word, .ref a_said, .int a__x, .ref a_worth, .ref a_mate, .ref a_wasSaid, .int a__undone, .int 0, .ref a_wayBy, .ref a_wayThen, .int a__walkMost, .int a__walkGoing, .int a__walkSet, .ref a_kept, .long a__x.toInt64, .ref a_images, .ref a_imageX, .ref a_isMade]))] := hD
            clear hk1 hFc hP1 hD1 hz1
            have x98 := hw
            refine lv_iconst (v := 0) hx hb dX12_fairs_79 (by decide) ?_
            refine lv_istore (lv' := [(7, .int 0), (6, .int r95), (5, .int 0), (0, .ref a), (1, .int p0), (2, .int p1), (3, .int p2), (4, .int p3)]) hx hb dX12_fairs_80 hl (by decide) rfl (fun ls hl => ?_)
            exact K82 _ ((0 : Int32)) r95 ((0 : Int32)) a_word_c a_stack_c (o97.2 0) a_said_c a__top ((0 : Int32)) a__x.toInt64 (Nat.le_refl _) h61 h_a__top hw_r95 (iv_c (by decide)) h62 h75 h84 h93 hf0 hf1 hf2 (bs_congr (bs_99 hf0 (by omega)) (fun j hj => x98 j hj)) (by rw [Int32.toInt_toInt64]; omega) x64 H locs (hP.sub (ws' := [(a_sign, .inl (cs 0, 2400, .inl a_sign_c)), (a_clause, .inl (cs 0, 360, .inl a_clause_c)), (a_clauses, .inl (cs 0, 6, .inl a_clauses_c)), (a_word, .inl (cs 3, 13, .inr (.inl a_word_c))), (a_stack, .inl (cs 3, 64, .inr (.inl a_stack_c))), (a_worth, .inl (cs 0, 4096, .inl a_worth_c)), (a_kept, .inl (cs 0, 86, .inl (o97.2 0))), (a_said, .inl (cs 0, 123, .inl a_said_c)), (a, .inr (12, [.ref a_tape, .int a__taped, .int a__rules, .ref a_sign, .ref a_length, .ref a_clause, .ref a_clauses, .ref a_read, .int a__next, .int a__wrong, .int a__number, .int a__text, .int a__made, .int a__deep, .int a__lines, .ref a_open, .int a__opened, .ref a_stack, .int a__top, .ref a_word, .ref a_said, .int a__x, .ref a_worth, .ref a_mate, .ref a_wasSaid, .int a__undone, .int 0, .ref a_wayBy, .ref a_wayThen, .int a__walkMost, .int a__walkGoing, .int a__walkSet, .ref a_kept, .long a__x.toInt64, .ref a_images, .ref a_imageX, .ref a_isMade]))]) [0, 1, 2, 3, 4, 5, 6, 7, 8] rfl) (hD.sub (ws' := [(a_sign, .inl (cs 0, 2400, .inl a_sign_c)), (a_clause, .inl (cs 0, 360, .inl a_clause_c)), (a_clauses, .inl (cs 0, 6, .inl a_clauses_c)), (a_word, .inl (cs 3, 13, .inr (.inl a_word_c))), (a_stack, .inl (cs 3, 64, .inr (.inl a_stack_c))), (a_worth, .inl (cs 0, 4096, .inl a_worth_c)), (a_kept, .inl (cs 0, 86, .inl (o97.2 0))), (a_said, .inl (cs 0, 123, .inl a_said_c)), (a, .inr (12, [.ref a_tape, .int a__taped, .int a__rules, .ref a_sign, .ref a_length, .ref a_clause, .ref a_clauses, .ref a_read, .int a__next, .int a__wrong, .int a__number, .int a__text, .int a__made, .int a__deep, .int a__lines, .ref a_open, .int a__opened, .ref a_stack, .int a__top, .ref a_word, .ref a_said, .int a__x, .ref a_worth, .ref a_mate, .ref a_wasSaid, .int a__undone, .int 0, .ref a_wayBy, .ref a_wayThen, .int a__walkMost, .int a__walkGoing, .int a__walkSet, .ref a_kept, .long a__x.toInt64, .ref a_images, .ref a_imageX, .ref a_isMade]))]) [0, 1, 2, 3, 4, 5, 6, 7, 8] (by decide) rfl) hS ls (lv_sub hl [0, 1, 2, 3, 4, 5, 6, 7] rfl)
theorem dX12_count_0 : decode cX12_count 0 = .ok (.iload_n 1, 1) := by decide +kernel
theorem dX12_count_1 : decode cX12_count 1 = .ok (.tableswitch 146 0 10 #[59, 59, 59, 66, 71, 78, 115, 123, 131, 136, 141], 59) := by decide +kernel
theorem dX12_count_60 : decode cX12_count 60 = .ok (.aload_n 0, 1) := by decide +kernel
theorem dX12_count_61 : decode cX12_count 61 = .ok (.getfield 39, 3) := by decide +kernel
theorem dX12_count_64 : decode cX12_count 64 = .ok (.iload_n 1, 1) := by decide +kernel
theorem dX12_count_65 : decode cX12_count 65 = .ok (.iaload, 1) := by decide +kernel
theorem dX12_count_66 : decode cX12_count 66 = .ok (.ireturn, 1) := by decide +kernel
theorem dX12_count_67 : decode cX12_count 67 = .ok (.aload_n 0, 1) := by decide +kernel
theorem dX12_count_68 : decode cX12_count 68 = .ok (.getfield 268, 3) := by decide +kernel
theorem dX12_count_71 : decode cX12_count 71 = .ok (.ireturn, 1) := by decide +kernel
theorem dX12_count_72 : decode cX12_count 72 = .ok (.aload_n 0, 1) := by decide +kernel
theorem dX12_count_73 : decode cX12_count 73 = .ok (.getfield 39, 3) := by decide +kernel
theorem dX12_count_76 : decode cX12_count 76 = .ok (.iconst 3, 1) := by decide +kernel
theorem dX12_count_77 : decode cX12_count 77 = .ok (.iaload, 1) := by decide +kernel
theorem dX12_count_78 : decode cX12_count 78 = .ok (.ireturn, 1) := by decide +kernel
theorem dX12_count_79 : decode cX12_count 79 = .ok (.aload_n 0, 1) := by decide +kernel
theorem dX12_count_80 : decode cX12_count 80 = .ok (.invokevirtual 329, 3) := by decide +kernel
theorem dX12_count_83 : decode cX12_count 83 = .ok (.ifCond .ne 7, 3) := by decide +kernel
theorem dX12_count_86 : decode cX12_count 86 = .ok (.iconst (-1), 1) := by decide +kernel
theorem dX12_count_87 : decode cX12_count 87 = .ok (.goto 28, 3) := by decide +kernel
theorem dX12_count_90 : decode cX12_count 90 = .ok (.aload_n 0, 1) := by decide +kernel
theorem dX12_count_91 : decode cX12_count 91 = .ok (.invokevirtual 298, 3) := by decide +kernel
theorem dX12_count_94 : decode cX12_count 94 = .ok (.ifCond .eq 7, 3) := by decide +kernel
theorem dX12_count_97 : decode cX12_count 97 = .ok (.iconst 0, 1) := by decide +kernel
theorem dX12_count_98 : decode cX12_count 98 = .ok (.goto 17, 3) := by decide +kernel
theorem dX12_count_101 : decode cX12_count 101 = .ok (.aload_n 0, 1) := by decide +kernel
theorem dX12_count_102 : decode cX12_count 102 = .ok (.getfield 39, 3) := by decide +kernel
theorem dX12_count_105 : decode cX12_count 105 = .ok (.bipush 6, 2) := by decide +kernel
theorem dX12_count_107 : decode cX12_count 107 = .ok (.iaload, 1) := by decide +kernel
theorem dX12_count_108 : decode cX12_count 108 = .ok (.aload_n 0, 1) := by decide +kernel
theorem dX12_count_109 : decode cX12_count 109 = .ok (.getfield 39, 3) := by decide +kernel
theorem dX12_count_112 : decode cX12_count 112 = .ok (.iconst 3, 1) := by decide +kernel
theorem dX12_count_113 : decode cX12_count 113 = .ok (.iaload, 1) := by decide +kernel
theorem dX12_count_114 : decode cX12_count 114 = .ok (.isub, 1) := by decide +kernel
theorem dX12_count_115 : decode cX12_count 115 = .ok (.ireturn, 1) := by decide +kernel
theorem dX12_count_116 : decode cX12_count 116 = .ok (.aload_n 0, 1) := by decide +kernel
theorem dX12_count_117 : decode cX12_count 117 = .ok (.invokevirtual 387, 3) := by decide +kernel
theorem dX12_count_120 : decode cX12_count 120 = .ok (.invokestatic 374, 3) := by decide +kernel
theorem dX12_count_123 : decode cX12_count 123 = .ok (.ireturn, 1) := by decide +kernel
theorem dX12_count_124 : decode cX12_count 124 = .ok (.aload_n 0, 1) := by decide +kernel
theorem dX12_count_125 : decode cX12_count 125 = .ok (.getfield 39, 3) := by decide +kernel
theorem dX12_count_128 : decode cX12_count 128 = .ok (.bipush 122, 2) := by decide +kernel
theorem dX12_count_130 : decode cX12_count 130 = .ok (.iaload, 1) := by decide +kernel
theorem dX12_count_131 : decode cX12_count 131 = .ok (.ireturn, 1) := by decide +kernel
theorem dX12_count_132 : decode cX12_count 132 = .ok (.aload_n 0, 1) := by decide +kernel
theorem dX12_count_133 : decode cX12_count 133 = .ok (.getfield 274, 3) := by decide +kernel
theorem dX12_count_136 : decode cX12_count 136 = .ok (.ireturn, 1) := by decide +kernel
theorem dX12_count_137 : decode cX12_count 137 = .ok (.aload_n 0, 1) := by decide +kernel
theorem dX12_count_138 : decode cX12_count 138 = .ok (.getfield 479, 3) := by decide +kernel
theorem dX12_count_141 : decode cX12_count 141 = .ok (.ireturn, 1) := by decide +kernel
theorem dX12_count_142 : decode cX12_count 142 = .ok (.aload_n 0, 1) := by decide +kernel
theorem dX12_count_143 : decode cX12_count 143 = .ok (.getfield 70, 3) := by decide +kernel
theorem dX12_count_146 : decode cX12_count 146 = .ok (.ireturn, 1) := by decide +kernel
theorem dX12_count_147 : decode cX12_count 147 = .ok (.iconst (-1), 1) := by decide +kernel
theorem dX12_count_148 : decode cX12_count 148 = .ok (.ireturn, 1) := by decide +kernel
set_option maxHeartbeats 4000000 in
set_option maxRecDepth 100000 in
theorem c_X12_count (l : Launch) (D : va_G) (cs : Nat → ClassId) (kK kV : Nat → Nat) (a : Nat) (p0 : Int32) (a_said : Nat) (a_said_c : Nat → Int32) (a_tape : Nat) (a__taped : Int32) (a__rules : Int32) (a_sign : Nat) (a_length : Nat) (a_clause : Nat) (a_clauses : Nat) (a_read : Nat) (a__next : Int32) (a__wrong : Int32) (a__number : Int32) (a__text : Int32) (a__made : Int32) (a__deep : Int32) (a__lines : Int32) (a_open : Nat) (a__opened : Int32) (a_stack : Nat) (a__top : Int32) (a_word : Nat) (a__x : Int32) (a_worth : Nat) (a_mate : Nat) (a_wasSaid : Nat) (a__undone : Int32) (a__boughtNow : Int32) (a_wayBy : Nat) (a_wayThen : Nat) (a__walkMost : Int32) (a__walkGoing : Int32) (a__walkSet : Int32) (a_kept : Nat) (a__drawX : Int64) (a_images : Nat) (a_imageX : Nat) (a_isMade : Nat) (h_a__taped : IV 0 400 a__taped) (h_a__rules : IV 0 6 a__rules) (h_a__next : IV 0 400 a__next) (h_a__text : IV 0 6 a__text) (h_a__made : IV 0 60 a__made) (h_a__lines : IV 0 40 a__lines) (h_a__opened : IV 0 400 a__opened) (h_a__top : IV 0 64 a__top) (h_a__x : IV 0 2147483647 a__x) (h_a__undone : IV 0 20 a__undone) (hf0 : BS a_said_c 200) : Met l yX12_count (hz_w yX12_count cX12_count 2 (some .int)) ({ frames := 2, cells := 0, slots := 0, locals := 44 }) (va_Pc [.ref a, .int p0] (hz_P D cs kK kV [(a_said, .inl (cs 0, 123, .inl a_said_c)), (a, .inr (12, [.ref a_tape, .int a__taped, .int a__rules, .ref a_sign, .ref a_length, .ref a_clause, .ref a_clauses, .ref a_read, .int a__next, .int a__wrong, .int a__number, .int a__text, .int a__made, .int a__deep, .int a__lines, .ref a_open, .int a__opened, .ref a_stack, .int a__top, .ref a_word, .ref a_said, .int a__x, .ref a_worth, .ref a_mate, .ref a_wasSaid, .int a__undone, .int a__boughtNow, .ref a_wayBy, .ref a_wayThen, .int a__walkMost, .int a__walkGoing, .int a__walkSet, .ref a_kept, .long a__drawX, .ref a_images, .ref a_imageX, .ref a_isMade]))])) (va_Qi (fun (r : Int32) (_ : Unit) => (r = (-1)) ∨ (r = 0 ∧ IV 5 5 p0) ∨ (IV 0 10 p0)) (fun _ t => True) (fun _ => False)) 0 0 (fun _ => False) := by
  refine Met.ofW (cc := cX12_count) (maxL := 2) (ret := (some .int)) (by decide) rfl ?_
  intro p e s m args below meth c s₁ B hml hv
  obtain ⟨rfl, hP, hE⟩ := hv
  have hx := B.exec
  have hb := B.bytes
  have hr := B.returns
  have hT : ∀ w ∈ TB, w.before _ s = true := fun w h => atoms_spec (ws := hz_w yX12_count cX12_count 2 (some .int)) B.pre w (List.mem_cons_of_mem _ h)
  have hown : s.vm.findClass RX12 = some m.cls := findClass_of_methodNamed B.named
  have hlocks := B.notSynchronized
  clear B
  have hS : va_S (fun _ => False) s.heap s.heap [] := va_S.rf
  have hK := hE.1
  have hl := lv_entry ([.ref a, .int p0]) (n := 2) (Nat.le_of_ble_eq_true rfl)
  rw [lg_entry_eq]
  generalize (lg_sl ([.ref a, .int p0]) ++ List.replicate (2 - (lg_sl ([.ref a, .int p0])).length) Slot.unset).toArray = ls at hl ⊢
  have hl : lv_has ls 2 [(0, .ref a), (1, .int p0)] := hl
  obtain ⟨H, eH⟩ : ∃ z, z = s.heap := ⟨_, rfl⟩
  have hP : va_P D classes [(a_said, .inl (cs 0, 123, .inl a_said_c)), (a, .inr (12, [.ref a_tape, .int a__taped, .int a__rules, .ref a_sign, .ref a_length, .ref a_clause, .ref a_clauses, .ref a_read, .int a__next, .int a__wrong, .int a__number, .int a__text, .int a__made, .int a__deep, .int a__lines, .ref a_open, .int a__opened, .ref a_stack, .int a__top, .ref a_word, .ref a_said, .int a__x, .ref a_worth, .ref a_mate, .ref a_wasSaid, .int a__undone, .int a__boughtNow, .ref a_wayBy, .ref a_wayThen, .int a__walkMost, .int a__walkGoing, .int a__walkSet, .ref a_kept, .long a__drawX, .ref a_images, .ref a_imageX, .ref a_isMade]))] H := by rw [eH]; exact hP
  have hS : va_S (fun _ => False) s.heap H [] := by rw [eH]; exact hS
  rw [← eH]
  clear eH
  obtain ⟨locs, el⟩ : ∃ z : List Loc, z = [] := ⟨_, rfl⟩
  rw [← el] at hS ⊢
  clear el
  have z0 : (0 : Int32).toInt = 0 := by decide
  have z1 : (1 : Int32).toInt = 1 := by decide
  have zm1 : (-1 : Int32).toInt = -1 := by decide
  have i_a__lines : 0 ≤ a__lines.toInt ∧ a__lines.toInt ≤ 40 := h_a__lines
  have i_a__made : 0 ≤ a__made.toInt ∧ a__made.toInt ≤ 60 := h_a__made
  have i_a__next : 0 ≤ a__next.toInt ∧ a__next.toInt ≤ 400 := h_a__next
  have i_a__opened : 0 ≤ a__opened.toInt ∧ a__opened.toInt ≤ 400 := h_a__opened
  have i_a__rules : 0 ≤ a__rules.toInt ∧ a__rules.toInt ≤ 6 := h_a__rules
  have i_a__taped : 0 ≤ a__taped.toInt ∧ a__taped.toInt ≤ 400 := h_a__taped
  have i_a__text : 0 ≤ a__text.toInt ∧ a__text.toInt ≤ 6 := h_a__text
  have i_a__top : 0 ≤ a__top.toInt ∧ a__top.toInt ≤ 64 := h_a__top
  have i_a__undone : 0 ≤ a__undone.toInt ∧ a__undone.toInt ≤ 20 := h_a__undone
  have i_a__x : 0 ≤ a__x.toInt ∧ a__x.toInt ≤ 2147483647 := h_a__x
  refine lv_iload_n hx hb dX12_count_0 rfl (lv_at hl 1 rfl) ?_
  by_cases c1 : p0.toInt < 0 ∨ 10 < p0.toInt
  · refine lv_tableOut (tgt := 147) hx hb dX12_count_1 c1 (by decide) ?_
    refine lv_iconst (v := (-1)) hx hb dX12_count_147 (by decide) ?_
    exact W.iret (v := (-1)) hx hb hr (fun t ht hW => ⟨⟨(-1), (), rfl, (Or.inl (rfl)), trivial⟩, hS.F ht⟩) hS.2.2 dX12_count_148
  · rcases (show p0.toInt = 0 ∨ p0.toInt = 1 ∨ p0.toInt = 2 ∨ p0.toInt = 3 ∨ p0.toInt = 4 ∨ p0.toInt = 5 ∨ p0.toInt = 6 ∨ p0.toInt = 7 ∨ p0.toInt = 8 ∨ p0.toInt = 9 ∨ p0.toInt = 10 by omega) with c1e | c1e | c1e | c1e | c1e | c1e | c1e | c1e | c1e | c1e | c1e
    · refine lv_tableIn (off := 59) (tgt := 60) hx hb dX12_count_1 (by omega) (by omega) (by rw [c1e]; rfl) (by decide) ?_
      have h2 : IV 0 0 p0 := ⟨by omega, by omega⟩
      have ii3 : 0 ≤ p0.toInt ∧ p0.toInt ≤ 0 := h2
      refine lv_aload_n hx hb dX12_count_60 rfl (lv_at hl 0 rfl) ?_
      refine va_get (D := D) (ci := 12) (v := .ref a_said) (C := RX12) (T := TX12) (N := 37) hx hb hT i_X12 hown hK hP 1 rfl rfl 20 (by decide) (hT _ q_185) (fun _ h9 => h9) rfl dX12_count_61 ?_
      refine lv_iload_n hx hb dX12_count_64 rfl (lv_at hl 1 rfl) ?_
      refine va_iald hx hb hK hP 0 0 rfl rfl (iv_v h2 (by decide) (by decide)) dX12_count_65 ?_
      refine lv_topi (fun v4 ev4 => ?_)
      have lv4 : v4.toInt = (a_said_c (Int32.toNatClampNeg p0)).toInt := by rw [ev4]
      exact W.iret (v := v4) hx hb hr (fun t ht hW => ⟨⟨v4, (), rfl, (Or.inr (Or.inr (((iv_w h2 (by decide) (by decide)))))), trivial⟩, hS.F ht⟩) hS.2.2 dX12_count_66
    · refine lv_tableIn (off := 59) (tgt := 60) hx hb dX12_count_1 (by omega) (by omega) (by rw [c1e]; rfl) (by decide) ?_
      have h5 : IV 1 1 p0 := ⟨by omega, by omega⟩
      have ii6 : 1 ≤ p0.toInt ∧ p0.toInt ≤ 1 := h5
      refine lv_aload_n hx hb dX12_count_60 rfl (lv_at hl 0 rfl) ?_
      refine va_get (D := D) (ci := 12) (v := .ref a_said) (C := RX12) (T := TX12) (N := 37) hx hb hT i_X12 hown hK hP 1 rfl rfl 20 (by decide) (hT _ q_185) (fun _ h9 => h9) rfl dX12_count_61 ?_
      refine lv_iload_n hx hb dX12_count_64 rfl (lv_at hl 1 rfl) ?_
      refine va_iald hx hb hK hP 0 0 rfl rfl (iv_v h5 (by decide) (by decide)) dX12_count_65 ?_
      refine lv_topi (fun v7 ev7 => ?_)
      have lv7 : v7.toInt = (a_said_c (Int32.toNatClampNeg p0)).toInt := by rw [ev7]
      exact W.iret (v := v7) hx hb hr (fun t ht hW => ⟨⟨v7, (), rfl, (Or.inr (Or.inr (((iv_w h5 (by decide) (by decide)))))), trivial⟩, hS.F ht⟩) hS.2.2 dX12_count_66
    · refine lv_tableIn (off := 59) (tgt := 60) hx hb dX12_count_1 (by omega) (by omega) (by rw [c1e]; rfl) (by decide) ?_
      have h8 : IV 2 2 p0 := ⟨by omega, by omega⟩
      have ii9 : 2 ≤ p0.toInt ∧ p0.toInt ≤ 2 := h8
      refine lv_aload_n hx hb dX12_count_60 rfl (lv_at hl 0 rfl) ?_
      refine va_get (D := D) (ci := 12) (v := .ref a_said) (C := RX12) (T := TX12) (N := 37) hx hb hT i_X12 hown hK hP 1 rfl rfl 20 (by decide) (hT _ q_185) (fun _ h9 => h9) rfl dX12_count_61 ?_
      refine lv_iload_n hx hb dX12_count_64 rfl (lv_at hl 1 rfl) ?_
      refine va_iald hx hb hK hP 0 0 rfl rfl (iv_v h8 (by decide) (by decide)) dX12_count_65 ?_
      refine lv_topi (fun v10 ev10 => ?_)
      have lv10 : v10.toInt = (a_said_c (Int32.toNatClampNeg p0)).toInt := by rw [ev10]
      exact W.iret (v := v10) hx hb hr (fun t ht hW => ⟨⟨v10, (), rfl, (Or.inr (Or.inr (((iv_w h8 (by decide) (by decide)))))), trivial⟩, hS.F ht⟩) hS.2.2 dX12_count_66
    · refine lv_tableIn (off := 66) (tgt := 67) hx hb dX12_count_1 (by omega) (by omega) (by rw [c1e]; rfl) (by decide) ?_
      have h11 : IV 3 3 p0 := ⟨by omega, by omega⟩
      have ii12 : 3 ≤ p0.toInt ∧ p0.toInt ≤ 3 := h11
      refine lv_aload_n hx hb dX12_count_67 rfl (lv_at hl 0 rfl) ?_
      refine va_get (D := D) (ci := 12) (v := .int a__rules) (C := RX12) (T := TX12) (N := 37) hx hb hT i_X12 hown hK hP 1 rfl rfl 2 (by decide) (hT _ q_204) (fun _ h9 => h9) rfl dX12_count_68 ?_
      exact W.iret (v := a__rules) hx hb hr (fun t ht hW => ⟨⟨a__rules, (), rfl, (Or.inr (Or.inr (((iv_w h11 (by decide) (by decide)))))), trivial⟩, hS.F ht⟩) hS.2.2 dX12_count_71
    · refine lv_tableIn (off := 71) (tgt := 72) hx hb dX12_count_1 (by omega) (by omega) (by rw [c1e]; rfl) (by decide) ?_
      have h13 : IV 4 4 p0 := ⟨by omega, by omega⟩
      have ii14 : 4 ≤ p0.toInt ∧ p0.toInt ≤ 4 := h13
      refine lv_aload_n hx hb dX12_count_72 rfl (lv_at hl 0 rfl) ?_
      refine va_get (D := D) (ci := 12) (v := .ref a_said) (C := RX12) (T := TX12) (N := 37) hx hb hT i_X12 hown hK hP 1 rfl rfl 20 (by decide) (hT _ q_185) (fun _ h9 => h9) rfl dX12_count_73 ?_
      refine lv_iconst (v := 3) hx hb dX12_count_76 (by decide) ?_
      refine va_iald hx hb hK hP 0 0 rfl rfl (iv_vc (by decide)) dX12_count_77 ?_
      refine lv_topi (fun v15 ev15 => ?_)
      have h16 : IV 0 200 v15 := (by rw [ev15]; exact bs_i3 hf0)
      have ii17 : 0 ≤ v15.toInt ∧ v15.toInt ≤ 200 := h16
      have lv15 : v15.toInt = (a_said_c 3).toInt := by rw [ev15]; rfl
      exact W.iret (v := v15) hx hb hr (fun t ht hW => ⟨⟨v15, (), rfl, (Or.inr (Or.inr (((iv_w h13 (by decide) (by decide)))))), trivial⟩, hS.F ht⟩) hS.2.2 dX12_count_78
    · refine lv_tableIn (off := 78) (tgt := 79) hx hb dX12_count_1 (by omega) (by omega) (by rw [c1e]; rfl) (by decide) ?_
      have h18 : IV 5 5 p0 := ⟨by omega, by omega⟩
      have ii19 : 5 ≤ p0.toInt ∧ p0.toInt ≤ 5 := h18
      refine lv_aload_n hx hb dX12_count_79 rfl (lv_at hl 0 rfl) ?_
      refine va_calli (va_runV (As := []) (rest := []) ⟨hx, hb, hml, hown, hT⟩ (c_X12_isFair l D cs kK kV a a_said a_said_c a_tape a__taped a__rules a_sign a_length a_clause a_clauses a_read a__next a__wrong a__number a__text a__made a__deep a__lines a_open a__opened a_stack a__top a_word a__x a_worth a_mate a_wasSaid a__undone a__boughtNow a_wayBy a_wayThen a__walkMost a__walkGoing a__walkSet a_kept a__drawX a_images a_imageX a_isMade h_a__taped h_a__rules h_a__next h_a__text h_a__made h_a__lines h_a__opened h_a__top h_a__x h_a__undone hf0) (cwV 0 hT (hz_gV q_1140 q_1141 q_1142 q_701 q_1143) rfl rfl rfl (by decide +kernel) ⟨(Nat.le_of_ble_eq_true rfl), (Nat.le_of_ble_eq_true rfl)⟩) ⟨hz_P.blind, va_recv hK hP (ci := 12) (q0 := 1) rfl rfl, hz_P.mk (hP.sub (ws' := [(a_said, .inl (cs 0, 123, .inl a_said_c)), (a, .inr (12, [.ref a_tape, .int a__taped, .int a__rules, .ref a_sign, .ref a_length, .ref a_clause, .ref a_clauses, .ref a_read, .int a__next, .int a__wrong, .int a__number, .int a__text, .int a__made, .int a__deep, .int a__lines, .ref a_open, .int a__opened, .ref a_stack, .int a__top, .ref a_word, .ref a_said, .int a__x, .ref a_worth, .ref a_mate, .ref a_wasSaid, .int a__undone, .int a__boughtNow, .ref a_wayBy, .ref a_wayThen, .int a__walkMost, .int a__walkGoing, .int a__walkSet, .ref a_kept, .long a__drawX, .ref a_images, .ref a_imageX, .ref a_isMade]))]) [0,1] rfl) hE hS⟩ rfl rfl hl.1 rfl (lv_room (Nat.le_of_ble_eq_true rfl)) dX12_count_80 ⟨(Nat.le_of_ble_eq_true rfl), (Nat.le_of_ble_eq_true rfl)⟩) hS (fun _ _ h => h.elim) (fun _ h => h.elim) (fun r20 u t H1 locs ht hvm hw hB hz1 hk1 hS => ?_)
      have hP := hz_keep hP hk1
      clear hk1 hB hz1
      generalize H1 = H at hP hS ⊢
      rcases hw with ⟨rfl, x21⟩ | ⟨rfl, x22⟩
      · refine lv_if_ne (tgt := 90) hx hb dX12_count_83 (by decide) (fun z => absurd (by decide) z) (fun _ => ?_)
        refine lv_iconst (v := (-1)) hx hb dX12_count_86 (by decide) ?_
        refine lv_goto (tgt := 115) hx hb dX12_count_87 (by decide) ?_
        exact W.iret (v := (-1)) hx hb hr (fun t ht hW => ⟨⟨(-1), (), rfl, (Or.inl (rfl)), trivial⟩, hS.F ht⟩) hS.2.2 dX12_count_115
      · refine lv_if_ne (tgt := 90) hx hb dX12_count_83 (by decide) (fun _ => ?_) (fun z => absurd z (by decide))
        refine lv_aload_n hx hb dX12_count_90 rfl (lv_at hl 0 rfl) ?_
        refine va_calli (va_runV (As := []) (rest := []) ⟨hx, hb, hml, hown, hT⟩ (c_X12_isDusk l D cs kK kV a a_tape a__taped a__rules a_sign a_length a_clause a_clauses a_read a__next a__wrong a__number a__text a__made a__deep a__lines a_open a__opened a_stack a__top a_word a_said a__x a_worth a_mate a_wasSaid a__undone a__boughtNow a_wayBy a_wayThen a__walkMost a__walkGoing a__walkSet a_kept a__drawX a_images a_imageX a_isMade a_said_c h_a__taped h_a__rules h_a__next h_a__text h_a__made h_a__lines h_a__opened h_a__top h_a__x h_a__undone) (cwV 0 hT (hz_gV q_1100 q_1101 q_1102 q_701 q_1103) rfl rfl rfl (by decide +kernel) ⟨(Nat.le_of_ble_eq_true rfl), (Nat.le_of_ble_eq_true rfl)⟩) ⟨hz_P.blind, va_recv hK hP (ci := 12) (q0 := 1) rfl rfl, hz_P.mk (hP.sub (ws' := [(a, .inr (12, [.ref a_tape, .int a__taped, .int a__rules, .ref a_sign, .ref a_length, .ref a_clause, .ref a_clauses, .ref a_read, .int a__next, .int a__wrong, .int a__number, .int a__text, .int a__made, .int a__deep, .int a__lines, .ref a_open, .int a__opened, .ref a_stack, .int a__top, .ref a_word, .ref a_said, .int a__x, .ref a_worth, .ref a_mate, .ref a_wasSaid, .int a__undone, .int a__boughtNow, .ref a_wayBy, .ref a_wayThen, .int a__walkMost, .int a__walkGoing, .int a__walkSet, .ref a_kept, .long a__drawX, .ref a_images, .ref a_imageX, .ref a_isMade])), (a_said, .inl (cs 0, 123, .inl a_said_c))]) [1,0] rfl) hE hS⟩ rfl rfl hl.1 rfl (lv_room (Nat.le_of_ble_eq_true rfl)) dX12_count_91 ⟨(Nat.le_of_ble_eq_true rfl), (Nat.le_of_ble_eq_true rfl)⟩) hS (fun _ _ h => h.elim) (fun _ h => h.elim) (fun r23 u t H1 locs ht hvm hw hB hz1 hk1 hS => ?_)
        have hP := hz_keep hP hk1
        clear hk1 hB hz1
        generalize H1 = H at hP hS ⊢
        rcases hw with ⟨rfl, x24⟩ | rfl
        · refine lv_if_eq (tgt := 101) hx hb dX12_count_94 (by decide) (fun _ => ?_) (fun z => absurd (by decide) z)
          refine lv_aload_n hx hb dX12_count_101 rfl (lv_at hl 0 rfl) ?_
          refine va_get (D := D) (ci := 12) (v := .ref a_said) (C := RX12) (T := TX12) (N := 37) hx hb hT i_X12 hown hK hP 1 rfl rfl 20 (by decide) (hT _ q_185) (fun _ h9 => h9) rfl dX12_count_102 ?_
          refine lv_bipush (v := 6) hx hb dX12_count_105 (by decide) ?_
          refine va_iald hx hb hK hP 0 0 rfl rfl (iv_vc (by decide)) dX12_count_107 ?_
          refine lv_topi (fun v25 ev25 => ?_)
          have lv25 : v25.toInt = (a_said_c 6).toInt := by rw [ev25]; rfl
          refine lv_aload_n hx hb dX12_count_108 rfl (lv_at hl 0 rfl) ?_
          refine va_get (D := D) (ci := 12) (v := .ref a_said) (C := RX12) (T := TX12) (N := 37) hx hb hT i_X12 hown hK hP 1 rfl rfl 20 (by decide) (hT _ q_185) (fun _ h9 => h9) rfl dX12_count_109 ?_
          refine lv_iconst (v := 3) hx hb dX12_count_112 (by decide) ?_
          refine va_iald hx hb hK hP 0 0 rfl rfl (iv_vc (by decide)) dX12_count_113 ?_
          refine lv_topi (fun v26 ev26 => ?_)
          have h27 : IV 0 200 v26 := (by rw [ev26]; exact bs_i3 hf0)
          have ii28 : 0 ≤ v26.toInt ∧ v26.toInt ≤ 200 := h27
          have lv26 : v26.toInt = (a_said_c 3).toInt := by rw [ev26]; rfl
          refine lv_isub hx hb dX12_count_114 ?_
          refine lv_topi (fun v29 ev29 => ?_)
          exact W.iret (v := v29) hx hb hr (fun t ht hW => ⟨⟨v29, (), rfl, (Or.inr (Or.inr (((iv_w h18 (by decide) (by decide)))))), trivial⟩, hS.F ht⟩) hS.2.2 dX12_count_115
        · refine lv_if_eq (tgt := 101) hx hb dX12_count_94 (by decide) (fun z => absurd z (by decide)) (fun _ => ?_)
          refine lv_iconst (v := 0) hx hb dX12_count_97 (by decide) ?_
          refine lv_goto (tgt := 115) hx hb dX12_count_98 (by decide) ?_
          exact W.iret (v := 0) hx hb hr (fun t ht hW => ⟨⟨0, (), rfl, (Or.inr (Or.inl (⟨rfl, h18⟩))), trivial⟩, hS.F ht⟩) hS.2.2 dX12_count_115
    · refine lv_tableIn (off := 115) (tgt := 116) hx hb dX12_count_1 (by omega) (by omega) (by rw [c1e]; rfl) (by decide) ?_
      have h30 : IV 6 6 p0 := ⟨by omega, by omega⟩
      have ii31 : 6 ≤ p0.toInt ∧ p0.toInt ≤ 6 := h30
      refine lv_aload_n hx hb dX12_count_116 rfl (lv_at hl 0 rfl) ?_
      refine va_calli (va_runV (As := []) (rest := []) ⟨hx, hb, hml, hown, hT⟩ (c_X12_atStalls l D cs kK kV a a_said a_said_c a_tape a__taped a__rules a_sign a_length a_clause a_clauses a_read a__next a__wrong a__number a__text a__made a__deep a__lines a_open a__opened a_stack a__top a_word a__x a_worth a_mate a_wasSaid a__undone a__boughtNow a_wayBy a_wayThen a__walkMost a__walkGoing a__walkSet a_kept a__drawX a_images a_imageX a_isMade h_a__taped h_a__rules h_a__next h_a__text h_a__made h_a__lines h_a__opened h_a__top h_a__x h_a__undone hf0) (cwV 0 hT (hz_gV q_1207 q_1208 q_1209 q_701 q_1210) rfl rfl rfl (by decide +kernel) ⟨(Nat.le_of_ble_eq_true rfl), (Nat.le_of_ble_eq_true rfl)⟩) ⟨hz_P.blind, va_recv hK hP (ci := 12) (q0 := 1) rfl rfl, hz_P.mk (hP.sub (ws' := [(a_said, .inl (cs 0, 123, .inl a_said_c)), (a, .inr (12, [.ref a_tape, .int a__taped, .int a__rules, .ref a_sign, .ref a_length, .ref a_clause, .ref a_clauses, .ref a_read, .int a__next, .int a__wrong, .int a__number, .int a__text, .int a__made, .int a__deep, .int a__lines, .ref a_open, .int a__opened, .ref a_stack, .int a__top, .ref a_word, .ref a_said, .int a__x, .ref a_worth, .ref a_mate, .ref a_wasSaid, .int a__undone, .int a__boughtNow, .ref a_wayBy, .ref a_wayThen, .int a__walkMost, .int a__walkGoing, .int a__walkSet, .ref a_kept, .long a__drawX, .ref a_images, .ref a_imageX, .ref a_isMade]))]) [0,1] rfl) hE hS⟩ rfl rfl hl.1 rfl (lv_room (Nat.le_of_ble_eq_true rfl)) dX12_count_117 ⟨(Nat.le_of_ble_eq_true rfl), (Nat.le_of_ble_eq_true rfl)⟩) hS (fun _ _ h => h.elim) (fun _ h => h.elim) (fun r32 u t H1 locs ht hvm hw hB hz1 hk1 hS => ?_)
      have hP := hz_keep hP hk1
      clear hk1 hB hz1
      generalize H1 = H at hP hS ⊢
      have hw_r32 := hw
      refine va_calli (va_runS (As := [.int r32]) (rest := []) ⟨hx, hb, hml, hown, hT⟩ (c_X12_bits l D cs kK kV r32) (va_cwS 1 hT (hz_gS q_1192 q_1193 q_701 q_1194) rfl rfl rfl (by decide +kernel) ⟨(Nat.le_of_ble_eq_true rfl), (Nat.le_of_ble_eq_true rfl)⟩) ⟨hz_P.blind, hz_P.mk (hP.sub (ws' := []) [] rfl) hE hS⟩ rfl rfl hl.1 rfl (lv_room (Nat.le_of_ble_eq_true rfl)) dX12_count_120 ⟨(Nat.le_of_ble_eq_true rfl), (Nat.le_of_ble_eq_true rfl)⟩) hS (fun _ _ h => h.elim) (fun _ h => h.elim) (fun r33 u t H1 locs ht hvm hw hB hz1 hk1 hS => ?_)
      have hP := hz_keep hP hk1
      clear hk1 hB hz1
      generalize H1 = H at hP hS ⊢
      exact W.iret (v := r33) hx hb hr (fun t ht hW => ⟨⟨r33, (), rfl, (Or.inr (Or.inr (((iv_w h30 (by decide) (by decide)))))), trivial⟩, hS.F ht⟩) hS.2.2 dX12_count_123
    · refine lv_tableIn (off := 123) (tgt := 124) hx hb dX12_count_1 (by omega) (by omega) (by rw [c1e]; rfl) (by decide) ?_
      have h34 : IV 7 7 p0 := ⟨by omega, by omega⟩
      have ii35 : 7 ≤ p0.toInt ∧ p0.toInt ≤ 7 := h34
      refine lv_aload_n hx hb dX12_count_124 rfl (lv_at hl 0 rfl) ?_
      refine va_get (D := D) (ci := 12) (v := .ref a_said) (C := RX12) (T := TX12) (N := 37) hx hb hT i_X12 hown hK hP 1 rfl rfl 20 (by decide) (hT _ q_185) (fun _ h9 => h9) rfl dX12_count_125 ?_
      refine lv_bipush (v := 122) hx hb dX12_count_128 (by decide) ?_
      refine va_iald hx hb hK hP 0 0 rfl rfl (iv_vc (by decide)) dX12_count_130 ?_
      refine lv_topi (fun v36 ev36 => ?_)
      have lv36 : v36.toInt = (a_said_c 122).toInt := by rw [ev36]; rfl
      exact W.iret (v := v36) hx hb hr (fun t ht hW => ⟨⟨v36, (), rfl, (Or.inr (Or.inr (((iv_w h34 (by decide) (by decide)))))), trivial⟩, hS.F ht⟩) hS.2.2 dX12_count_131
    · refine lv_tableIn (off := 131) (tgt := 132) hx hb dX12_count_1 (by omega) (by omega) (by rw [c1e]; rfl) (by decide) ?_
      have h37 : IV 8 8 p0 := ⟨by omega, by omega⟩
      have ii38 : 8 ≤ p0.toInt ∧ p0.toInt ≤ 8 := h37
      refine lv_aload_n hx hb dX12_count_132 rfl (lv_at hl 0 rfl) ?_
      refine va_get (D := D) (ci := 12) (v := .int a__undone) (C := RX12) (T := TX12) (N := 37) hx hb hT i_X12 hown hK hP 1 rfl rfl 25 (by decide) (hT _ q_205) (fun _ h9 => h9) rfl dX12_count_133 ?_
      exact W.iret (v := a__undone) hx hb hr (fun t ht hW => ⟨⟨a__undone, (), rfl, (Or.inr (Or.inr (((iv_w h37 (by decide) (by decide)))))), trivial⟩, hS.F ht⟩) hS.2.2 dX12_count_136
    · refine lv_tableIn (off := 136) (tgt := 137) hx hb dX12_count_1 (by omega) (by omega) (by rw [c1e]; rfl) (by decide) ?_
      have h39 : IV 9 9 p0 := ⟨by omega, by omega⟩
      have ii40 : 9 ≤ p0.toInt ∧ p0.toInt ≤ 9 := h39
      refine lv_aload_n hx hb dX12_count_137 rfl (lv_at hl 0 rfl) ?_
      refine va_get (D := D) (ci := 12) (v := .int a__x) (C := RX12) (T := TX12) (N := 37) hx hb hT i_X12 hown hK hP 1 rfl rfl 21 (by decide) (hT _ q_211) (fun _ h9 => h9) rfl dX12_count_138 ?_
      exact W.iret (v := a__x) hx hb hr (fun t ht hW => ⟨⟨a__x, (), rfl, (Or.inr (Or.inr (((iv_w h39 (by decide) (by decide)))))), trivial⟩, hS.F ht⟩) hS.2.2 dX12_count_141
    · refine lv_tableIn (off := 141) (tgt := 142) hx hb dX12_count_1 (by omega) (by omega) (by rw [c1e]; rfl) (by decide) ?_
      have h41 : IV 10 10 p0 := ⟨by omega, by omega⟩
      have ii42 : 10 ≤ p0.toInt ∧ p0.toInt ≤ 10 := h41
      refine lv_aload_n hx hb dX12_count_142 rfl (lv_at hl 0 rfl) ?_
      refine va_get (D := D) (ci := 12) (v := .int a__taped) (C := RX12) (T := TX12) (N := 37) hx hb hT i_X12 hown hK hP 1 rfl rfl 1 (by decide) (hT _ q_195) (fun _ h9 => h9) rfl dX12_count_143 ?_
      exact W.iret (v := a__taped) hx hb hr (fun t ht hW => ⟨⟨a__taped, (), rfl, (Or.inr (Or.inr (((iv_w h41 (by decide) (by decide)))))), trivial⟩, hS.F ht⟩) hS.2.2 dX12_count_146
theorem dX12_image_0 : decode cX12_image 0 = .ok (.iload_n 1, 1) := by decide +kernel
theorem dX12_image_1 : decode cX12_image 1 = .ok (.i2l, 1) := by decide +kernel
theorem dX12_image_2 : decode cX12_image 2 = .ok (.lconst 0, 1) := by decide +kernel
theorem dX12_image_3 : decode cX12_image 3 = .ok (.ldc2_w 504, 3) := by decide +kernel
theorem dX12_image_6 : decode cX12_image 6 = .ok (.invokestatic 109, 3) := by decide +kernel
theorem dX12_image_9 : decode cX12_image 9 = .ok (.ifCond .ne 5, 3) := by decide +kernel
theorem dX12_image_12 : decode cX12_image 12 = .ok (.iconst (-1), 1) := by decide +kernel
theorem dX12_image_13 : decode cX12_image 13 = .ok (.ireturn, 1) := by decide +kernel
theorem dX12_image_14 : decode cX12_image 14 = .ok (.aload_n 0, 1) := by decide +kernel
theorem dX12_image_15 : decode cX12_image 15 = .ok (.getfield 66, 3) := by decide +kernel
theorem dX12_image_18 : decode cX12_image 18 = .ok (.iload_n 1, 1) := by decide +kernel
theorem dX12_image_19 : decode cX12_image 19 = .ok (.iconst 1, 1) := by decide +kernel
theorem dX12_image_20 : decode cX12_image 20 = .ok (.bastore, 1) := by decide +kernel
theorem dX12_image_21 : decode cX12_image 21 = .ok (.aload_n 0, 1) := by decide +kernel
theorem dX12_image_22 : decode cX12_image 22 = .ok (.getfield 63, 3) := by decide +kernel
theorem dX12_image_25 : decode cX12_image 25 = .ok (.iload_n 1, 1) := by decide +kernel
theorem dX12_image_26 : decode cX12_image 26 = .ok (.aload_n 0, 1) := by decide +kernel
theorem dX12_image_27 : decode cX12_image 27 = .ok (.getfield 479, 3) := by decide +kernel
theorem dX12_image_30 : decode cX12_image 30 = .ok (.iastore, 1) := by decide +kernel
theorem dX12_image_31 : decode cX12_image 31 = .ok (.iconst 0, 1) := by decide +kernel
theorem dX12_image_32 : decode cX12_image 32 = .ok (.istore_n 2, 1) := by decide +kernel
theorem dX12_image_33 : decode cX12_image 33 = .ok (.iload_n 2, 1) := by decide +kernel
theorem dX12_image_34 : decode cX12_image 34 = .ok (.bipush 123, 2) := by decide +kernel
theorem dX12_image_36 : decode cX12_image 36 = .ok (.if_icmp .ge 26, 3) := by decide +kernel
theorem dX12_image_39 : decode cX12_image 39 = .ok (.aload_n 0, 1) := by decide +kernel
theorem dX12_image_40 : decode cX12_image 40 = .ok (.getfield 60, 3) := by decide +kernel
theorem dX12_image_43 : decode cX12_image 43 = .ok (.bipush 123, 2) := by decide +kernel
theorem dX12_image_45 : decode cX12_image 45 = .ok (.iload_n 1, 1) := by decide +kernel
theorem dX12_image_46 : decode cX12_image 46 = .ok (.imul, 1) := by decide +kernel
theorem dX12_image_47 : decode cX12_image 47 = .ok (.iload_n 2, 1) := by decide +kernel
theorem dX12_image_48 : decode cX12_image 48 = .ok (.iadd, 1) := by decide +kernel
theorem dX12_image_49 : decode cX12_image 49 = .ok (.aload_n 0, 1) := by decide +kernel
theorem dX12_image_50 : decode cX12_image 50 = .ok (.getfield 39, 3) := by decide +kernel
theorem dX12_image_53 : decode cX12_image 53 = .ok (.iload_n 2, 1) := by decide +kernel
theorem dX12_image_54 : decode cX12_image 54 = .ok (.iaload, 1) := by decide +kernel
theorem dX12_image_55 : decode cX12_image 55 = .ok (.iastore, 1) := by decide +kernel
theorem dX12_image_56 : decode cX12_image 56 = .ok (.iinc 2 1, 3) := by decide +kernel
theorem dX12_image_59 : decode cX12_image 59 = .ok (.goto (-26), 3) := by decide +kernel
theorem dX12_image_62 : decode cX12_image 62 = .ok (.aload_n 0, 1) := by decide +kernel
theorem dX12_image_63 : decode cX12_image 63 = .ok (.getfield 39, 3) := by decide +kernel
theorem dX12_image_66 : decode cX12_image 66 = .ok (.iconst 3, 1) := by decide +kernel
theorem dX12_image_67 : decode cX12_image 67 = .ok (.iaload, 1) := by decide +kernel
theorem dX12_image_68 : decode cX12_image 68 = .ok (.ireturn, 1) := by decide +kernel
set_option maxHeartbeats 4000000 in
set_option maxRecDepth 100000 in
theorem c_X12_image (l : Launch) (D : va_G) (cs : Nat → ClassId) (kK kV : Nat → Nat) (a : Nat) (p0 : Int32) (a_said : Nat) (a_said_c : Nat → Int32) (a_isMade : Nat) (a_isMade_c : Nat → Int32) (a_images : Nat) (a_images_c : Nat → Int32) (a_tape : Nat) (a__taped : Int32) (a__rules : Int32) (a_sign : Nat) (a_length : Nat) (a_clause : Nat) (a_clauses : Nat) (a_read : Nat) (a__next : Int32) (a__wrong : Int32) (a__number : Int32) (a__text : Int32) (a__made : Int32) (a__deep : Int32) (a__lines : Int32) (a_open : Nat) (a__opened : Int32) (a_stack : Nat) (a__top : Int32) (a_word : Nat) (a__x : Int32) (a_worth : Nat) (a_mate : Nat) (a_wasSaid : Nat) (a__undone : Int32) (a__boughtNow : Int32) (a_wayBy : Nat) (a_wayThen : Nat) (a__walkMost : Int32) (a__walkGoing : Int32) (a__walkSet : Int32) (a_kept : Nat) (a__drawX : Int64) (a_imageX : Nat) (a_imageX_c : Nat → Int32) (h_a__taped : IV 0 400 a__taped) (h_a__rules : IV 0 6 a__rules) (h_a__next : IV 0 400 a__next) (h_a__text : IV 0 6 a__text) (h_a__made : IV 0 60 a__made) (h_a__lines : IV 0 40 a__lines) (h_a__opened : IV 0 400 a__opened) (h_a__top : IV 0 64 a__top) (h_a__x : IV 0 2147483647 a__x) (h_a__undone : IV 0 20 a__undone) (h_a_imageX_c : CI 4 0 2147483647 a_imageX_c) (hf0 : BS a_said_c 200) (hf1 : TR a_said_c) (hf2 : (a_said_c 3).toInt ≤ 99) (hf3 : IMG a_isMade_c a_images_c) (sz : Nat) : Met l yX12_image (hz_w yX12_image cX12_image 3 (some .int)) ({ frames := 1, cells := 0, slots := 0, locals := 25 }) (va_Pc [.ref a, .int p0] (hz_C D cs kK kV sz [(a_said, .inl (cs 0, 123, .inl a_said_c)), (a_isMade, .inl (cs 2, 4, .inl a_isMade_c)), (a_images, .inl (cs 0, 492, .inl a_images_c)), (a, .inr (12, [.ref a_tape, .int a__taped, .int a__rules, .ref a_sign, .ref a_length, .ref a_clause, .ref a_clauses, .ref a_read, .int a__next, .int a__wrong, .int a__number, .int a__text, .int a__made, .int a__deep, .int a__lines, .ref a_open, .int a__opened, .ref a_stack, .int a__top, .ref a_word, .ref a_said, .int a__x, .ref a_worth, .ref a_mate, .ref a_wasSaid, .int a__undone, .int a__boughtNow, .ref a_wayBy, .ref a_wayThen, .int a__walkMost, .int a__walkGoing, .int a__walkSet, .ref a_kept, .long a__drawX, .ref a_images, .ref a_imageX, .ref a_isMade])), (a_imageX, .inl (cs 0, 4, .inl a_imageX_c))])) (va_Qi (fun (r : Int32) (u : (Nat → Int32) × (Nat → Nat → Int32)) => (r = (-1) ∧ CI 4 0 2147483647 (u.2 0) ∧ (IMG (u.2 2) (u.2 1)) ∧ (¬ (0 ≤ p0.toInt ∧ p0.toInt ≤ 3)) ∧ ((u.2 2) = a_isMade_c) ∧ ((u.2 0) = a_imageX_c)) ∨ (IV 0 200 r ∧ IV 0 3 p0 ∧ CI 4 0 2147483647 (u.2 0) ∧ (IMG (u.2 2) (u.2 1)) ∧ (0 ≤ p0.toInt ∧ p0.toInt ≤ 3) ∧ ((u.2 2) = upd a_isMade_c (Int32.toNatClampNeg p0) (vp_nar .boolean 1)) ∧ ((u.2 0) = upd a_imageX_c (Int32.toNatClampNeg p0) a__x))) (fun u t => va_P D classes [(a_said, .inl (cs 0, 123, .inl a_said_c)), (a_isMade, .inl (cs 2, 4, .inl (u.2 2))), (a_images, .inl (cs 0, 492, .inl (u.2 1))), (a, .inr (12, [.ref a_tape, .int a__taped, .int a__rules, .ref a_sign, .ref a_length, .ref a_clause, .ref a_clauses, .ref a_read, .int a__next, .int a__wrong, .int a__number, .int a__text, .int a__made, .int a__deep, .int a__lines, .ref a_open, .int a__opened, .ref a_stack, .int a__top, .ref a_word, .ref a_said, .int a__x, .ref a_worth, .ref a_mate, .ref a_wasSaid, .int a__undone, .int a__boughtNow, .ref a_wayBy, .ref a_wayThen, .int a__walkMost, .int a__walkGoing, .int a__walkSet, .ref a_kept, .long a__drawX, .ref a_images, .ref a_imageX, .ref a_isMade])), (a_imageX, .inl (cs 0, 4, .inl (u.2 0)))] t.heap ∧ va_D (va_A [(a_said, .inl (cs 0, 123, .inl a_said_c)), (a_isMade, .inl (cs 2, 4, .inl a_isMade_c)), (a_images, .inl (cs 0, 492, .inl a_images_c)), (a, .inr (12, [.ref a_tape, .int a__taped, .int a__rules, .ref a_sign, .ref a_length, .ref a_clause, .ref a_clauses, .ref a_read, .int a__next, .int a__wrong, .int a__number, .int a__text, .int a__made, .int a__deep, .int a__lines, .ref a_open, .int a__opened, .ref a_stack, .int a__top, .ref a_word, .ref a_said, .int a__x, .ref a_worth, .ref a_mate, .ref a_wasSaid, .int a__undone, .int a__boughtNow, .ref a_wayBy, .ref a_wayThen, .int a__walkMost, .int a__walkGoing, .int a__walkSet, .ref a_kept, .long a__drawX, .ref a_images, .ref a_imageX, .ref a_isMade])), (a_imageX, .inl (cs 0, 4, .inl a_imageX_c))] sz) [(a_said, .inl (cs 0, 123, .inl a_said_c)), (a_isMade, .inl (cs 2, 4, .inl (u.2 2))), (a_images, .inl (cs 0, 492, .inl (u.2 1))), (a, .inr (12, [.ref a_tape, .int a__taped, .int a__rules, .ref a_sign, .ref a_length, .ref a_clause, .ref a_clauses, .ref a_read, .int a__next, .int a__wrong, .int a__number, .int a__text, .int a__made, .int a__deep, .int a__lines, .ref a_open, .int a__opened, .ref a_stack, .int a__top, .ref a_word, .ref a_said, .int a__x, .ref a_worth, .ref a_mate, .ref a_wasSaid, .int a__undone, .int a__boughtNow, .ref a_wayBy, .ref a_wayThen, .int a__walkMost, .int a__walkGoing, .int a__walkSet, .ref a_kept, .long a__drawX, .ref a_images, .ref a_imageX, .ref a_isMade])), (a_imageX, .inl (cs 0, 4, .inl (u.2 0)))]) (va_A [(a_said, .inl (cs 0, 123, .inl a_said_c)), (a_isMade, .inl (cs 2, 4, .inl a_isMade_c)), (a_images, .inl (cs 0, 492, .inl a_images_c)), (a, .inr (12, [.ref a_tape, .int a__taped, .int a__rules, .ref a_sign, .ref a_length, .ref a_clause, .ref a_clauses, .ref a_read, .int a__next, .int a__wrong, .int a__number, .int a__text, .int a__made, .int a__deep, .int a__lines, .ref a_open, .int a__opened, .ref a_stack, .int a__top, .ref a_word, .ref a_said, .int a__x, .ref a_worth, .ref a_mate, .ref a_wasSaid, .int a__undone, .int a__boughtNow, .ref a_wayBy, .ref a_wayThen, .int a__walkMost, .int a__walkGoing, .int a__walkSet, .ref a_kept, .long a__drawX, .ref a_images, .ref a_imageX, .ref a_isMade])), (a_imageX, .inl (cs 0, 4, .inl a_imageX_c))] sz)) 0 0 (va_A [(a_said, .inl (cs 0, 123, .inl a_said_c)), (a_isMade, .inl (cs 2, 4, .inl a_isMade_c)), (a_images, .inl (cs 0, 492, .inl a_images_c)), (a, .inr (12, [.ref a_tape, .int a__taped, .int a__rules, .ref a_sign, .ref a_length, .ref a_clause, .ref a_clauses, .ref a_read, .int a__next, .int a__wrong, .int a__number, .int a__text, .int a__made, .int a__deep, .int a__lines, .ref a_open, .int a__opened, .ref a_stack, .int a__top, .ref a_word, .ref a_said, .int a__x, .ref a_worth, .ref a_mate, .ref a_wasSaid, .int a__undone, .int a__boughtNow, .ref a_wayBy, .ref a_wayThen, .int a__walkMost, .int a__walkGoing, .int a__walkSet, .ref a_kept, .long a__drawX, .ref a_images, .ref a_imageX, .ref a_isMade])), (a_imageX, .inl (cs 0, 4, .inl a_imageX_c))] sz) := by
  refine Met.ofW (cc := cX12_image) (maxL := 3) (ret := (some .int)) (by decide) rfl ?_
  intro p e s m args below meth c s₁ B hml hv
  obtain ⟨rfl, hsz, hP, hD0, hE⟩ := hv
  have hx := B.exec
  have hb := B.bytes
  have hr := B.returns
  have hT : ∀ w ∈ TB, w.before _ s = true := fun w h => atoms_spec (ws := hz_w yX12_image cX12_image 3 (some .int)) B.pre w (List.mem_cons_of_mem _ h)
  have hown : s.vm.findClass RX12 = some m.cls := findClass_of_methodNamed B.named
  have hlocks := B.notSynchronized
  clear B
  subst hsz
  have hD := hD0.self (sz := s.heap.size)
  generalize hAe : va_A [(a_said, .inl (cs 0, 123, .inl a_said_c)), (a_isMade, .inl (cs 2, 4, .inl a_isMade_c)), (a_images, .inl (cs 0, 492, .inl a_images_c)), (a, .inr (12, [.ref a_tape, .int a__taped, .int a__rules, .ref a_sign, .ref a_length, .ref a_clause, .ref a_clauses, .ref a_read, .int a__next, .int a__wrong, .int a__number, .int a__text, .int a__made, .int a__deep, .int a__lines, .ref a_open, .int a__opened, .ref a_stack, .int a__top, .ref a_word, .ref a_said, .int a__x, .ref a_worth, .ref a_mate, .ref a_wasSaid, .int a__undone, .int a__boughtNow, .ref a_wayBy, .ref a_wayThen, .int a__walkMost, .int a__walkGoing, .int a__walkSet, .ref a_kept, .long a__drawX, .ref a_images, .ref a_imageX, .ref a_isMade])), (a_imageX, .inl (cs 0, 4, .inl a_imageX_c))] s.heap.size = A at hD hE ⊢
  have hA : ∀ q : Nat, s.heap.size ≤ q → A q := fun q h => by rw [← hAe]; exact Or.inr h
  clear hAe hD0
  have hS : va_S A s.heap s.heap [] := va_S.rf
  have hK := hE.1
  have hl := lv_entry ([.ref a, .int p0]) (n := 3) (Nat.le_of_ble_eq_true rfl)
  rw [lg_entry_eq]
  generalize (lg_sl ([.ref a, .int p0]) ++ List.replicate (3 - (lg_sl ([.ref a, .int p0])).length) Slot.unset).toArray = ls at hl ⊢
  have hl : lv_has ls 3 [(0, .ref a), (1, .int p0)] := hl
  obtain ⟨H, eH⟩ : ∃ z, z = s.heap := ⟨_, rfl⟩
  have hP : va_P D classes [(a_said, .inl (cs 0, 123, .inl a_said_c)), (a_isMade, .inl (cs 2, 4, .inl a_isMade_c)), (a_images, .inl (cs 0, 492, .inl a_images_c)), (a, .inr (12, [.ref a_tape, .int a__taped, .int a__rules, .ref a_sign, .ref a_length, .ref a_clause, .ref a_clauses, .ref a_read, .int a__next, .int a__wrong, .int a__number, .int a__text, .int a__made, .int a__deep, .int a__lines, .ref a_open, .int a__opened, .ref a_stack, .int a__top, .ref a_word, .ref a_said, .int a__x, .ref a_worth, .ref a_mate, .ref a_wasSaid, .int a__undone, .int a__boughtNow, .ref a_wayBy, .ref a_wayThen, .int a__walkMost, .int a__walkGoing, .int a__walkSet, .ref a_kept, .long a__drawX, .ref a_images, .ref a_imageX, .ref a_isMade])), (a_imageX, .inl (cs 0, 4, .inl a_imageX_c))] H := by rw [eH]; exact hP
  have hS : va_S A s.heap H [] := by rw [eH]; exact hS
  rw [← eH]
  clear eH
  obtain ⟨locs, el⟩ : ∃ z : List Loc, z = [] := ⟨_, rfl⟩
  rw [← el] at hS ⊢
  clear el
  have z0 : (0 : Int32).toInt = 0 := by decide
  have z1 : (1 : Int32).toInt = 1 := by decide
  have zm1 : (-1 : Int32).toInt = -1 := by decide
  have i_a__lines : 0 ≤ a__lines.toInt ∧ a__lines.toInt ≤ 40 := h_a__lines
  have i_a__made : 0 ≤ a__made.toInt ∧ a__made.toInt ≤ 60 := h_a__made
  have i_a__next : 0 ≤ a__next.toInt ∧ a__next.toInt ≤ 400 := h_a__next
  have i_a__opened : 0 ≤ a__opened.toInt ∧ a__opened.toInt ≤ 400 := h_a__opened
  have i_a__rules : 0 ≤ a__rules.toInt ∧ a__rules.toInt ≤ 6 := h_a__rules
  have i_a__taped : 0 ≤ a__taped.toInt ∧ a__taped.toInt ≤ 400 := h_a__taped
  have i_a__text : 0 ≤ a__text.toInt ∧ a__text.toInt ≤ 6 := h_a__text
  have i_a__top : 0 ≤ a__top.toInt ∧ a__top.toInt ≤ 64 := h_a__top
  have i_a__undone : 0 ≤ a__undone.toInt ∧ a__undone.toInt ≤ 20 := h_a__undone
  have i_a__x : 0 ≤ a__x.toInt ∧ a__x.toInt ≤ 2147483647 := h_a__x
  have K33 : ∀ (n : Nat) (k33_L_2 : Int32) (k33_C_a_isMade : Nat → Int32) (k33_C_a_images : Nat → Int32) (k33_C_a_imageX : Nat → Int32), (123 - k33_L_2.toInt + 1).toNat ≤ n → IV 0 123 k33_L_2 → IV 0 3 p0 → CI 4 0 2147483647 k33_C_a_imageX → (CPT k33_C_a_images a_said_c (123 * p0.toInt.toNat) k33_L_2.toInt.toNat) → (∀ j : Nat, (j < 123 * p0.toInt.toNat ∨ 123 * p0.toInt.toNat + 123 ≤ j) → k33_C_a_images j = a_images_c j) → (k33_C_a_isMade = upd a_isMade_c (Int32.toNatClampNeg p0) (vp_nar .boolean 1)) → (k33_C_a_imageX = upd a_imageX_c (Int32.toNatClampNeg p0) a__x) → ∀ (H : Heap) (locs : List Loc), va_P D classes [(a_said, .inl (cs 0, 123, .inl a_said_c)), (a_isMade, .inl (cs 2, 4, .inl k33_C_a_isMade)), (a_images, .inl (cs 0, 492, .inl k33_C_a_images)), (a, .inr (12, [.ref a_tape, .int a__taped, .int a__rules, .ref a_sign, .ref a_length, .ref a_clause, .ref a_clauses, .ref a_read, .int a__next, .int a__wrong, .int a__number, .int a__text, .int a__made, .int a__deep, .int a__lines, .ref a_open, .int a__opened, .ref a_stack, .int a__top, .ref a_word, .ref a_said, .int a__x, .ref a_worth, .ref a_mate, .ref a_wasSaid, .int a__undone, .int a__boughtNow, .ref a_wayBy, .ref a_wayThen, .int a__walkMost, .int a__walkGoing, .int a__walkSet, .ref a_kept, .long a__drawX, .ref a_images, .ref a_imageX, .ref a_isMade])), (a_imageX, .inl (cs 0, 4, .inl k33_C_a_imageX))] H → va_D A [(a_said, .inl (cs 0, 123, .inl a_said_c)), (a_isMade, .inl (cs 2, 4, .inl k33_C_a_isMade)), (a_images, .inl (cs 0, 492, .inl k33_C_a_images)), (a, .inr (12, [.ref a_tape, .int a__taped, .int a__rules, .ref a_sign, .ref a_length, .ref a_clause, .ref a_clauses, .ref a_read, .int a__next, .int a__wrong, .int a__number, .int a__text, .int a__made, .int a__deep, .int a__lines, .ref a_open, .int a__opened, .ref a_stack, .int a__top, .ref a_word, .ref a_said, .int a__x, .ref a_worth, .ref a_mate, .ref a_wasSaid, .int a__undone, .int a__boughtNow, .ref a_wayBy, .ref a_wayThen, .int a__walkMost, .int a__walkGoing, .int a__walkSet, .ref a_kept, .long a__drawX, .ref a_images, .ref a_imageX, .ref a_isMade])), (a_imageX, .inl (cs 0, 4, .inl k33_C_a_imageX))] → va_S A s.heap H locs → ∀ ls : Array Slot, lv_has ls 3 [(2, .int k33_L_2), (0, .ref a), (1, .int p0)] → W p l e (headSpec (hz_w yX12_image cX12_image 3 (some .int)) ({ frames := 1, cells := 0, slots := 0, locals := 25 })).room s m [.ref a, .int p0].toArray below meth c H locs 0 0 (MQ below (va_Qi (fun (r : Int32) (u : (Nat → Int32) × (Nat → Nat → Int32)) => (r = (-1) ∧ CI 4 0 2147483647 (u.2 0) ∧ (IMG (u.2 2) (u.2 1)) ∧ (¬ (0 ≤ p0.toInt ∧ p0.toInt ≤ 3)) ∧ ((u.2 2) = a_isMade_c) ∧ ((u.2 0) = a_imageX_c)) ∨ (IV 0 200 r ∧ IV 0 3 p0 ∧ CI 4 0 2147483647 (u.2 0) ∧ (IMG (u.2 2) (u.2 1)) ∧ (0 ≤ p0.toInt ∧ p0.toInt ≤ 3) ∧ ((u.2 2) = upd a_isMade_c (Int32.toNatClampNeg p0) (vp_nar .boolean 1)) ∧ ((u.2 0) = upd a_imageX_c (Int32.toNatClampNeg p0) a__x))) (fun u t => va_P D classes [(a_said, .inl (cs 0, 123, .inl a_said_c)), (a_isMade, .inl (cs 2, 4, .inl (u.2 2))), (a_images, .inl (cs 0, 492, .inl (u.2 1))), (a, .inr (12, [.ref a_tape, .int a__taped, .int a__rules, .ref a_sign, .ref a_length, .ref a_clause, .ref a_clauses, .ref a_read, .int a__next, .int a__wrong, .int a__number, .int a__text, .int a__made, .int a__deep, .int a__lines, .ref a_open, .int a__opened, .ref a_stack, .int a__top, .ref a_word, .ref a_said, .int a__x, .ref a_worth, .ref a_mate, .ref a_wasSaid, .int a__undone, .int a__boughtNow, .ref a_wayBy, .ref a_wayThen, .int a__walkMost, .int a__walkGoing, .int a__walkSet, .ref a_kept, .long a__drawX, .ref a_images, .ref a_imageX, .ref a_isMade])), (a_imageX, .inl (cs 0, 4, .inl (u.2 0)))] t.heap ∧ va_D A [(a_said, .inl (cs 0, 123, .inl a_said_c)), (a_isMade, .inl (cs 2, 4, .inl (u.2 2))), (a_images, .inl (cs 0, 492, .inl (u.2 1))), (a, .inr (12, [.ref a_tape, .int a__taped, .int a__rules, .ref a_sign, .ref a_length, .ref a_clause, .ref a_clauses, .ref a_read, .int a__next, .int a__wrong, .int a__number, .int a__text, .int a__made, .int a__deep, .int a__lines, .ref a_open, .int a__opened, .ref a_stack, .int a__top, .ref a_word, .ref a_said, .int a__x, .ref a_worth, .ref a_mate, .ref a_wasSaid, .int a__undone, .int a__boughtNow, .ref a_wayBy, .ref a_wayThen, .int a__walkMost, .int a__walkGoing, .int a__walkSet, .ref a_kept, .long a__drawX, .ref a_images, .ref a_imageX, .ref a_isMade])), (a_imageX, .inl (cs 0, 4, .inl (u.2 0)))]) A) [.ref a, .int p0].toArray s 0 0 A) (F0 m 33 ls []) := by
    intro n
    induction n with
    | zero =>
      intro k33_L_2 k33_C_a_isMade k33_C_a_images k33_C_a_imageX hn q33_10 q33_11 z33_0 x33_0 x33_1 x33_2 x33_3 H locs hP hD hS ls hl
      exact absurd hn (by unfold IV at q33_10; omega)
    | succ n ih33 =>
      intro k33_L_2 k33_C_a_isMade k33_C_a_images k33_C_a_imageX hn q33_10 q33_11 z33_0 x33_0 x33_1 x33_2 x33_3 H locs hP hD hS ls hl
      have i_a__lines : 0 ≤ a__lines.toInt ∧ a__lines.toInt ≤ 40 := h_a__lines
      have i_a__made : 0 ≤ a__made.toInt ∧ a__made.toInt ≤ 60 := h_a__made
      have i_a__next : 0 ≤ a__next.toInt ∧ a__next.toInt ≤ 400 := h_a__next
      have i_a__opened : 0 ≤ a__opened.toInt ∧ a__opened.toInt ≤ 400 := h_a__opened
      have i_a__rules : 0 ≤ a__rules.toInt ∧ a__rules.toInt ≤ 6 := h_a__rules
      have i_a__taped : 0 ≤ a__taped.toInt ∧ a__taped.toInt ≤ 400 := h_a__taped
      have i_a__text : 0 ≤ a__text.toInt ∧ a__text.toInt ≤ 6 := h_a__text
      have i_a__top : 0 ≤ a__top.toInt ∧ a__top.toInt ≤ 64 := h_a__top
      have i_a__undone : 0 ≤ a__undone.toInt ∧ a__undone.toInt ≤ 20 := h_a__undone
      have i_a__x : 0 ≤ a__x.toInt ∧ a__x.toInt ≤ 2147483647 := h_a__x
      have i_k33_L_2 : 0 ≤ k33_L_2.toInt ∧ k33_L_2.toInt ≤ 123 := q33_10
      have i_p0 : 0 ≤ p0.toInt ∧ p0.toInt ≤ 3 := q33_11
      refine lv_iload_n hx hb dX12_image_33 rfl (lv_at hl 0 rfl) ?_
      refine lv_bipush (v := 123) hx hb dX12_image_34 (by decide) ?_
      refine lv_icmp_ge (tgt := 62) hx hb dX12_image_36 (by decide) (fun c1 => ?_) (fun c1 => ?_)
      · have t2 : k33_L_2.toInt ≥ 123 := lin_ge c1 rfl (by decide)
        have h3 : IV 123 123 k33_L_2 := iv_le2 c1 (iv_c (a := 123) (b := 123) (by decide)) q33_10 (by decide)
        have ii4 : 123 ≤ k33_L_2.toInt ∧ k33_L_2.toInt ≤ 123 := h3
        refine lv_aload_n hx hb dX12_image_62 rfl (lv_at hl 1 rfl) ?_
        refine va_get (D := D) (ci := 12) (v := .ref a_said) (C := RX12) (T := TX12) (N := 37) hx hb hT i_X12 hown hK hP 3 rfl rfl 20 (by decide) (hT _ q_185) (fun _ h9 => h9) rfl dX12_image_63 ?_
        refine lv_iconst (v := 3) hx hb dX12_image_66 (by decide) ?_
        refine va_iald hx hb hK hP 0 0 rfl rfl (iv_vc (by decide)) dX12_image_67 ?_
        refine lv_topi (fun v5 ev5 => ?_)
        have h6 : IV 0 200 v5 := (by rw [ev5]; exact bs_i3 hf0)
        have ii7 : 0 ≤ v5.toInt ∧ v5.toInt ≤ 200 := h6
        have lv5 : v5.toInt = (a_said_c 3).toInt := by rw [ev5]; rfl
        refine W.widen (k := 0) (n := 0) (Nat.le_of_ble_eq_true rfl) (Nat.le_of_ble_eq_true rfl) ?_
        have g8 : IMG k33_C_a_isMade k33_C_a_images := (img_new hf3 x33_2 ⟨by omega, by omega⟩ x33_0 (by omega) x33_1 (bs_99 hf0 (by omega)) hf1)
        have g9 : 0 ≤ p0.toInt ∧ p0.toInt ≤ 3 := (by omega)
        exact W.iret (v := v5) hx hb hr (fun t ht hW => ⟨⟨v5, (fun k => match k with | 0 => 0 | _ => 0, fun k => match k with | 0 => k33_C_a_imageX | 1 => k33_C_a_images | 2 => k33_C_a_isMade | _ => fun _ => 0), rfl, (Or.inr ((⟨h6, q33_11, z33_0, g8, g9, x33_2, x33_3⟩))), by rw [ht]; exact hP.sub [0, 1, 2, 3, 4] rfl, hD.sub [0, 1, 2, 3, 4] (by decide) rfl⟩, hS.F ht⟩) hS.2.2 dX12_image_68
      · have t10 : k33_L_2.toInt < 123 := lin_geN c1 rfl (by decide)
        have h11 : IV 0 122 k33_L_2 := iv_lt1 (Int32.not_le.mp c1) q33_10 (iv_c (a := 123) (b := 123) (by decide)) (by decide)
        have ii12 : 0 ≤ k33_L_2.toInt ∧ k33_L_2.toInt ≤ 122 := h11
        refine lv_aload_n hx hb dX12_image_39 rfl (lv_at hl 1 rfl) ?_
        refine va_get (D := D) (ci := 12) (v := .ref a_images) (C := RX12) (T := TX12) (N := 37) hx hb hT i_X12 hown hK hP 3 rfl rfl 34 (by decide) (hT _ q_192) (fun _ h9 => h9) rfl dX12_image_40 ?_
        refine lv_bipush (v := 123) hx hb dX12_image_43 (by decide) ?_
        refine lv_iload_n hx hb dX12_image_45 rfl (lv_at hl 2 rfl) ?_
        refine lv_imul hx hb dX12_image_46 ?_
        refine lv_topi (fun v13 ev13 => ?_)
        have hv13 : IV 0 369 v13 := iv_mul ev13 (iv_c (a := 123) (b := 123) (by decide)) q33_11 (by decide) (by decide) (by decide) (by decide)
        have ii14 : 0 ≤ v13.toInt ∧ v13.toInt ≤ 369 := hv13
        have lv13 : v13.toInt = 123 * p0.toInt := lin_mul ev13 (iv_c (a := 123) (b := 123) (by decide)) q33_11 (by decide) rfl (by decide) (by decide) (by decide) (by decide)
        refine lv_iload_n hx hb dX12_image_47 rfl (lv_at hl 0 rfl) ?_
        refine lv_iadd hx hb dX12_image_48 ?_
        refine lv_topi (fun v15 ev15 => ?_)
        have hv15 : IV 0 491 v15 := iv_add ev15 hv13 h11 (by decide) (by decide)
        have ii16 : 0 ≤ v15.toInt ∧ v15.toInt ≤ 491 := hv15
        have lv15 : v15.toInt = v13.toInt + k33_L_2.toInt := lin_add ev15 hv13 h11 rfl rfl (by decide) (by decide)
        refine lv_aload_n hx hb dX12_image_49 rfl (lv_at hl 1 rfl) ?_
        refine va_get (D := D) (ci := 12) (v := .ref a_said) (C := RX12) (T := TX12) (N := 37) hx hb hT i_X12 hown hK hP 3 rfl rfl 20 (by decide) (hT _ q_185) (fun _ h9 => h9) rfl dX12_image_50 ?_
        refine lv_iload_n hx hb dX12_image_53 rfl (lv_at hl 0 rfl) ?_
        refine va_iald hx hb hK hP 0 0 rfl rfl (iv_v h11 (by decide) (by decide)) dX12_image_54 ?_
        refine lv_topi (fun v17 ev17 => ?_)
        have lv17 : v17.toInt = (a_said_c (Int32.toNatClampNeg k33_L_2)).toInt := by rw [ev17]
        refine va_iast hx hb hK hP hD hS 2 0 rfl rfl (iv_v hv15 (by decide) (by decide)) dX12_image_55 (fun H locs hP hD hS => ?_)
        have hP : va_P D classes [(a_said, .inl (cs 0, 123, .inl a_said_c)), (a_isMade, .inl (cs 2, 4, .inl k33_C_a_isMade)), (a_images, .inl (cs 0, 492, .inl (upd k33_C_a_images (Int32.toNatClampNeg v15) v17))), (a, .inr (12, [.ref a_tape, .int a__taped, .int a__rules, .ref a_sign, .ref a_length, .ref a_clause, .ref a_clauses, .ref a_read, .int a__next, .int a__wrong, .int a__number, .int a__text, .int a__made, .int a__deep, .int a__lines, .ref a_open, .int a__opened, .ref a_stack, .int a__top, .ref a_word, .ref a_said, .int a__x, .ref a_worth, .ref a_mate, .ref a_wasSaid, .int a__undone, .int a__boughtNow, .ref a_wayBy, .ref a_wayThen, .int a__walkMost, .int a__walkGoing, .int a__walkSet, .ref a_kept, .long a__drawX, .ref a_images, .ref a_imageX, .ref a_isMade])), (a_imageX, .inl (cs 0, 4, .inl k33_C_a_imageX))] H := hP
        have hD : va_D A [(a_said, .inl (cs 0, 123, .inl a_said_c)), (a_isMade, .inl (cs 2, 4, .inl k33_C_a_isMade)), (a_images, .inl (cs 0, 492, .inl (upd k33_C_a_images (Int32.toNatClampNeg v15) v17))), (a, .inr (12, [.ref a_tape, .int a__taped, .int a__rules, .ref a_sign, .ref a_length, .ref a_clause, .ref a_clauses, .ref a_read, .int a__next, .int a__wrong, .int a__number, .int a__text, .int a__made, .int a__deep, .int a__lines, .ref a_open, .int a__opened, .ref a_stack, .int a__top, .ref a_word, .ref a_said, .int a__x, .ref a_worth, .ref a_mate, .ref a_wasSaid, .int a__undone, .int a__boughtNow, .ref a_wayBy, .ref a_wayThen, .int a__walkMost, .int a__walkGoing, .int a__walkSet, .ref a_kept, .long a__drawX, .ref a_images, .ref a_imageX, .ref a_isMade])), (a_imageX, .inl (cs 0, 4, .inl k33_C_a_imageX))] := hD
        obtain ⟨f18, uf18⟩ : ∃ z, z = upd k33_C_a_images (Int32.toNatClampNeg v15) v17 := ⟨_, rfl⟩
        rw [← uf18] at hP hD
        have wf18 : (f18 (Int32.toNatClampNeg v15)).toInt = v17.toInt := lin_us uf18 rfl
        obtain ⟨v19, ev19⟩ : ∃ z : Int32, z = k33_L_2 + 1 := ⟨_, rfl⟩
        have hv19 : IV 1 123 v19 := iv_add ev19 h11 (iv_c (a := 1) (b := 1) (by decide)) (by decide) (by decide)
        have dv19 : v19.toInt = k33_L_2.toInt + 1 := iv_addE ev19 h11 (iv_c (a := 1) (b := 1) (by decide)) (by decide) (by decide) (by decide)
        refine lv_iinc (v := v19) (lv' := [(2, .int v19), (0, .ref a), (1, .int p0)]) hx hb dX12_image_56 hl (k := 0) rfl (by rw [ev19]; rfl) (by decide) rfl (fun ls hl => ?_)
        refine lv_goto (tgt := 33) hx hb dX12_image_59 (by decide) ?_
        exact ih33 v19 k33_C_a_isMade f18 k33_C_a_imageX (by have h9 := h11; unfold IV at h9; have := dv19; omega) (iv_w hv19 (by decide) (by decide)) q33_11 z33_0 (cpt_step x33_0 uf18 ev17 (by omega) (by omega) (by omega)) (fun j hj => by rw [uf18, pk_un (show j ≠ Int32.toNatClampNeg v15 from (show j ≠ v15.toInt.toNat by omega))]; exact x33_1 j hj) x33_2 x33_3 H locs (hP.sub (ws' := [(a_said, .inl (cs 0, 123, .inl a_said_c)), (a_isMade, .inl (cs 2, 4, .inl k33_C_a_isMade)), (a_images, .inl (cs 0, 492, .inl f18)), (a, .inr (12, [.ref a_tape, .int a__taped, .int a__rules, .ref a_sign, .ref a_length, .ref a_clause, .ref a_clauses, .ref a_read, .int a__next, .int a__wrong, .int a__number, .int a__text, .int a__made, .int a__deep, .int a__lines, .ref a_open, .int a__opened, .ref a_stack, .int a__top, .ref a_word, .ref a_said, .int a__x, .ref a_worth, .ref a_mate, .ref a_wasSaid, .int a__undone, .int a__boughtNow, .ref a_wayBy, .ref a_wayThen, .int a__walkMost, .int a__walkGoing, .int a__walkSet, .ref a_kept, .long a__drawX, .ref a_images, .ref a_imageX, .ref a_isMade])), (a_imageX, .inl (cs 0, 4, .inl k33_C_a_imageX))]) [0, 1, 2, 3, 4] rfl) (hD.sub (ws' := [(a_said, .inl (cs 0, 123, .inl a_said_c)), (a_isMade, .inl (cs 2, 4, .inl k33_C_a_isMade)), (a_images, .inl (cs 0, 492, .inl f18)), (a, .inr (12, [.ref a_tape, .int a__taped, .int a__rules, .ref a_sign, .ref a_length, .ref a_clause, .ref a_clauses, .ref a_read, .int a__next, .int a__wrong, .int a__number, .int a__text, .int a__made, .int a__deep, .int a__lines, .ref a_open, .int a__opened, .ref a_stack, .int a__top, .ref a_word, .ref a_said, .int a__x, .ref a_worth, .ref a_mate, .ref a_wasSaid, .int a__undone, .int a__boughtNow, .ref a_wayBy, .ref a_wayThen, .int a__walkMost, .int a__walkGoing, .int a__walkSet, .ref a_kept, .long a__drawX, .ref a_images, .ref a_imageX, .ref a_isMade])), (a_imageX, .inl (cs 0, 4, .inl k33_C_a_imageX))]) [0, 1, 2, 3, 4] (by decide) rfl) hS ls (lv_sub hl [0, 1, 2] rfl)
  refine lv_iload_n hx hb dX12_image_0 rfl (lv_at hl 1 rfl) ?_
  refine lv_i2l (v := p0.toInt64) hx hb dX12_image_1 rfl ?_
  refine lv_lconst (v := 0) hx hb dX12_image_2 (by decide) ?_
  refine lv_ldc2 hx hb hown (hT _ q_1428) dX12_image_3 ?_
  refine va_calli (va_runS (As := [.long p0.toInt64, .long 0, .long 3]) (rest := []) ⟨hx, hb, hml, hown, hT⟩ (c_X12_in l D cs kK kV p0.toInt64 0 3) (va_cwS 3 hT (hz_gS q_964 q_965 q_701 q_966) rfl rfl rfl (by decide +kernel) ⟨(Nat.le_of_ble_eq_true rfl), (Nat.le_of_ble_eq_true rfl)⟩) ⟨hz_P.blind, hz_P.mk (hP.sub (ws' := []) [] rfl) hE hS⟩ rfl rfl hl.1 rfl (lv_room (Nat.le_of_ble_eq_true rfl)) dX12_image_6 ⟨(Nat.le_of_ble_eq_true rfl), (Nat.le_of_ble_eq_true rfl)⟩) hS (fun _ _ h => h.elim) (fun _ h => h.elim) (fun r20 u t H1 locs ht hvm hw hB hz1 hk1 hS => ?_)
  have hP := hz_keep hP hk1
  clear hk1 hB hz1
  generalize H1 = H at hP hS ⊢
  rcases hw with ⟨rfl, x21⟩ | ⟨rfl, x22, x23⟩
  · have t24 : ¬ (0 ≤ p0.toInt ∧ p0.toInt ≤ 3) := fun z => x21 ⟨l64_clI z.1 (by decide), l64_lcI z.2 (by decide)⟩
    refine lv_if_ne (tgt := 14) hx hb dX12_image_9 (by decide) (fun z => absurd (by decide) z) (fun _ => ?_)
    refine lv_iconst (v := (-1)) hx hb dX12_image_12 (by decide) ?_
    refine W.widen (k := 0) (n := 0) (Nat.le_of_ble_eq_true rfl) (Nat.le_of_ble_eq_true rfl) ?_
    have g25 : ¬ (0 ≤ p0.toInt ∧ p0.toInt ≤ 3) := (by assumption)
    have g26 : a_isMade_c = a_isMade_c := (rfl)
    have g27 : a_imageX_c = a_imageX_c := (rfl)
    exact W.iret (v := (-1)) hx hb hr (fun t ht hW => ⟨⟨(-1), (fun k => match k with | 0 => 0 | _ => 0, fun k => match k with | 0 => a_imageX_c | 1 => a_images_c | 2 => a_isMade_c | _ => fun _ => 0), rfl, (Or.inl (⟨rfl, h_a_imageX_c, hf3, g25, g26, g27⟩)), by rw [ht]; exact hP.sub [0, 1, 2, 3, 4] rfl, hD.sub [0, 1, 2, 3, 4] (by decide) rfl⟩, hS.F ht⟩) hS.2.2 dX12_image_13
  · have h28 : IV 0 2147483647 p0 := ⟨l64_cle x22 (by decide), iv_top.2⟩
    have ii29 : 0 ≤ p0.toInt ∧ p0.toInt ≤ 2147483647 := h28
    have h30 : IV 0 3 p0 := ⟨(h28).1, l64_lec x23 (by decide)⟩
    have ii31 : 0 ≤ p0.toInt ∧ p0.toInt ≤ 3 := h30
    refine lv_if_ne (tgt := 14) hx hb dX12_image_9 (by decide) (fun _ => ?_) (fun z => absurd z (by decide))
    refine lv_aload_n hx hb dX12_image_14 rfl (lv_at hl 0 rfl) ?_
    refine va_get (D := D) (ci := 12) (v := .ref a_isMade) (C := RX12) (T := TX12) (N := 37) hx hb hT i_X12 hown hK hP 3 rfl rfl 36 (by decide) (hT _ q_194) (fun _ h9 => h9) rfl dX12_image_15 ?_
    refine lv_iload_n hx hb dX12_image_18 rfl (lv_at hl 1 rfl) ?_
    refine lv_iconst (v := 1) hx hb dX12_image_19 (by decide) ?_
    refine va_zast hx hb hK hP hD hS 1 2 rfl rfl (iv_v h30 (by decide) (by decide)) dX12_image_20 (fun H locs hP hD hS => ?_)
    have hP : va_P D classes [(a_said, .inl (cs 0, 123, .inl a_said_c)), (a_isMade, .inl (cs 2, 4, .inl (upd a_isMade_c (Int32.toNatClampNeg p0) (vp_nar .boolean (1 : Int32))))), (a_images, .inl (cs 0, 492, .inl a_images_c)), (a, .inr (12, [.ref a_tape, .int a__taped, .int a__rules, .ref a_sign, .ref a_length, .ref a_clause, .ref a_clauses, .ref a_read, .int a__next, .int a__wrong, .int a__number, .int a__text, .int a__made, .int a__deep, .int a__lines, .ref a_open, .int a__opened, .ref a_stack, .int a__top, .ref a_word, .ref a_said, .int a__x, .ref a_worth, .ref a_mate, .ref a_wasSaid, .int a__undone, .int a__boughtNow, .ref a_wayBy, .ref a_wayThen, .int a__walkMost, .int a__walkGoing, .int a__walkSet, .ref a_kept, .long a__drawX, .ref a_images, .ref a_imageX, .ref a_isMade])), (a_imageX, .inl (cs 0, 4, .inl a_imageX_c))] H := hP
    have hD : va_D A [(a_said, .inl (cs 0, 123, .inl a_said_c)), (a_isMade, .inl (cs 2, 4, .inl (upd a_isMade_c (Int32.toNatClampNeg p0) (vp_nar .boolean (1 : Int32))))), (a_images, .inl (cs 0, 492, .inl a_images_c)), (a, .inr (12, [.ref a_tape, .int a__taped, .int a__rules, .ref a_sign, .ref a_length, .ref a_clause, .ref a_clauses, .ref a_read, .int a__next, .int a__wrong, .int a__number, .int a__text, .int a__made, .int a__deep, .int a__lines, .ref a_open, .int a__opened, .ref a_stack, .int a__top, .ref a_word, .ref a_said, .int a__x, .ref a_worth, .ref a_mate, .ref a_wasSaid, .int a__undone, .int a__boughtNow, .ref a_wayBy, .ref a_wayThen, .int a__walkMost, .int a__walkGoing, .int a__walkSet, .ref a_kept, .long a__drawX, .ref a_images, .ref a_imageX, .ref a_isMade])), (a_imageX, .inl (cs 0, 4, .inl a_imageX_c))] := hD
    obtain ⟨f32, uf32⟩ : ∃ z, z = upd a_isMade_c (Int32.toNatClampNeg p0) (vp_nar .boolean (1 : Int32)) := ⟨_, rfl⟩
    rw [← uf32] at hP hD
    refine lv_aload_n hx hb dX12_image_21 rfl (lv_at hl 0 rfl) ?_
    refine va_get (D := D) (ci := 12) (v := .ref a_imageX) (C := RX12) (T := TX12) (N := 37) hx hb hT i_X12 hown hK hP 3 rfl rfl 35 (by decide) (hT _ q_193) (fun _ h9 => h9) rfl dX12_image_22 ?_
    refine lv_iload_n hx hb dX12_image_25 rfl (lv_at hl 1 rfl) ?_
    refine lv_aload_n hx hb dX12_image_26 rfl (lv_at hl 0 rfl) ?_
    refine va_get (D := D) (ci := 12) (v := .int a__x) (C := RX12) (T := TX12) (N := 37) hx hb hT i_X12 hown hK hP 3 rfl rfl 21 (by decide) (hT _ q_211) (fun _ h9 => h9) rfl dX12_image_27 ?_
    refine va_iast hx hb hK hP hD hS 4 0 rfl rfl (iv_v h30 (by decide) (by decide)) dX12_image_30 (fun H locs hP hD hS => ?_)
    have hf33 := ci_upd (i := p0) h_a_imageX_c h_a__x
    have hP : va_P D classes [(a_said, .inl (cs 0, 123, .inl a_said_c)), (a_isMade, .inl (cs 2, 4, .inl f32)), (a_images, .inl (cs 0, 492, .inl a_images_c)), (a, .inr (12, [.ref a_tape, .int a__taped, .int a__rules, .ref a_sign, .ref a_length, .ref a_clause, .ref a_clauses, .ref a_read, .int a__next, .int a__wrong, .int a__number, .int a__text, .int a__made, .int a__deep, .int a__lines, .ref a_open, .int a__opened, .ref a_stack, .int a__top, .ref a_word, .ref a_said, .int a__x, .ref a_worth, .ref a_mate, .ref a_wasSaid, .int a__undone, .int a__boughtNow, .ref a_wayBy, .ref a_wayThen, .int a__walkMost, .int a__walkGoing, .int a__walkSet, .ref a_kept, .long a__drawX, .ref a_images, .ref a_imageX, .ref a_isMade])), (a_imageX, .inl (cs 0, 4, .inl (upd a_imageX_c (Int32.toNatClampNeg p0) a__x)))] H := hP
    have hD : va_D A [(a_said, .inl (cs 0, 123, .inl a_said_c)), (a_isMade, .inl (cs 2, 4, .inl f32)), (a_images, .inl (cs 0, 492, .inl a_images_c)), (a, .inr (12, [.ref a_tape, .int a__taped, .int a__rules, .ref a_sign, .ref a_length, .ref a_clause, .ref a_clauses, .ref a_read, .int a__next, .int a__wrong, .int a__number, .int a__text, .int a__made, .int a__deep, .int a__lines, .ref a_open, .int a__opened, .ref a_stack, .int a__top, .ref a_word, .ref a_said, .int a__x, .ref a_worth, .ref a_mate, .ref a_wasSaid, .int a__undone, .int a__boughtNow, .ref a_wayBy, .ref a_wayThen, .int a__walkMost, .int a__walkGoing, .int a__walkSet, .ref a_kept, .long a__drawX, .ref a_images, .ref a_imageX, .ref a_isMade])), (a_imageX, .inl (cs 0, 4, .inl (upd a_imageX_c (Int32.toNatClampNeg p0) a__x)))] := hD
    obtain ⟨f33, uf33⟩ : ∃ z, z = upd a_imageX_c (Int32.toNatClampNeg p0) a__x := ⟨_, rfl⟩
    rw [← uf33] at hP hD hf33
    have wf33 : (f33 (Int32.toNatClampNeg p0)).toInt = a__x.toInt := lin_us uf33 rfl
    refine lv_iconst (v := 0) hx hb dX12_image_31 (by decide) ?_
    refine lv_istore_n (lv' := [(2, .int 0), (0, .ref a), (1, .int p0)]) hx hb dX12_image_32 rfl hl (by decide) rfl (fun ls hl => ?_)
    exact K33 _ ((0 : Int32)) f32 a_images_c f33 (Nat.le_refl _) (iv_c (by decide)) h30 hf33 (cpt_0) (fun _ _ => rfl) uf32 uf33 H locs (hP.sub (ws' := [(a_said, .inl (cs 0, 123, .inl a_said_c)), (a_isMade, .inl (cs 2, 4, .inl f32)), (a_images, .inl (cs 0, 492, .inl a_images_c)), (a, .inr (12, [.ref a_tape, .int a__taped, .int a__rules, .ref a_sign, .ref a_length, .ref a_clause, .ref a_clauses, .ref a_read, .int a__next, .int a__wrong, .int a__number, .int a__text, .int a__made, .int a__deep, .int a__lines, .ref a_open, .int a__opened, .ref a_stack, .int a__top, .ref a_word, .ref a_said, .int a__x, .ref a_worth, .ref a_mate, .ref a_wasSaid, .int a__undone, .int a__boughtNow, .ref a_wayBy, .ref a_wayThen, .int a__walkMost, .int a__walkGoing, .int a__walkSet, .ref a_kept, .long a__drawX, .ref a_images, .ref a_imageX, .ref a_isMade])), (a_imageX, .inl (cs 0, 4, .inl f33))]) [0, 1, 2, 3, 4] rfl) (hD.sub (ws' := [(a_said, .inl (cs 0, 123, .inl a_said_c)), (a_isMade, .inl (cs 2, 4, .inl f32)), (a_images, .inl (cs 0, 492, .inl a_images_c)), (a, .inr (12, [.ref a_tape, .int a__taped, .int a__rules, .ref a_sign, .ref a_length, .ref a_clause, .ref a_clauses, .ref a_read, .int a__next, .int a__wrong, .int a__number, .int a__text, .int a__made, .int a__deep, .int a__lines, .ref a_open, .int a__opened, .ref a_stack, .int a__top, .ref a_word, .ref a_said, .int a__x, .ref a_worth, .ref a_mate, .ref a_wasSaid, .int a__undone, .int a__boughtNow, .ref a_wayBy, .ref a_wayThen, .int a__walkMost, .int a__walkGoing, .int a__walkSet, .ref a_kept, .long a__drawX, .ref a_images, .ref a_imageX, .ref a_isMade])), (a_imageX, .inl (cs 0, 4, .inl f33))]) [0, 1, 2, 3, 4] (by decide) rfl) hS ls (lv_sub hl [0, 1, 2] rfl)
theorem dX12_back_0 : decode cX12_back 0 = .ok (.iload_n 1, 1) := by decide +kernel
theorem dX12_back_1 : decode cX12_back 1 = .ok (.i2l, 1) := by decide +kernel
theorem dX12_back_2 : decode cX12_back 2 = .ok (.lconst 0, 1) := by decide +kernel
theorem dX12_back_3 : decode cX12_back 3 = .ok (.ldc2_w 504, 3) := by decide +kernel
theorem dX12_back_6 : decode cX12_back 6 = .ok (.invokestatic 109, 3) := by decide +kernel
theorem dX12_back_9 : decode cX12_back 9 = .ok (.ifCond .eq 12, 3) := by decide +kernel
theorem dX12_back_12 : decode cX12_back 12 = .ok (.aload_n 0, 1) := by decide +kernel
theorem dX12_back_13 : decode cX12_back 13 = .ok (.getfield 66, 3) := by decide +kernel
theorem dX12_back_16 : decode cX12_back 16 = .ok (.iload_n 1, 1) := by decide +kernel
theorem dX12_back_17 : decode cX12_back 17 = .ok (.baload, 1) := by decide +kernel
theorem dX12_back_18 : decode cX12_back 18 = .ok (.ifCond .ne 5, 3) := by decide +kernel
theorem dX12_back_21 : decode cX12_back 21 = .ok (.iconst (-1), 1) := by decide +kernel
theorem dX12_back_22 : decode cX12_back 22 = .ok (.ireturn, 1) := by decide +kernel
theorem dX12_back_23 : decode cX12_back 23 = .ok (.aload_n 0, 1) := by decide +kernel
theorem dX12_back_24 : decode cX12_back 24 = .ok (.aload_n 0, 1) := by decide +kernel
theorem dX12_back_25 : decode cX12_back 25 = .ok (.getfield 63, 3) := by decide +kernel
theorem dX12_back_28 : decode cX12_back 28 = .ok (.iload_n 1, 1) := by decide +kernel
theorem dX12_back_29 : decode cX12_back 29 = .ok (.iaload, 1) := by decide +kernel
theorem dX12_back_30 : decode cX12_back 30 = .ok (.putfield 479, 3) := by decide +kernel
theorem dX12_back_33 : decode cX12_back 33 = .ok (.aload_n 0, 1) := by decide +kernel
theorem dX12_back_34 : decode cX12_back 34 = .ok (.iconst 0, 1) := by decide +kernel
theorem dX12_back_35 : decode cX12_back 35 = .ok (.putfield 274, 3) := by decide +kernel
theorem dX12_back_38 : decode cX12_back 38 = .ok (.iconst 0, 1) := by decide +kernel
theorem dX12_back_39 : decode cX12_back 39 = .ok (.istore_n 2, 1) := by decide +kernel
theorem dX12_back_40 : decode cX12_back 40 = .ok (.iload_n 2, 1) := by decide +kernel
theorem dX12_back_41 : decode cX12_back 41 = .ok (.bipush 123, 2) := by decide +kernel
theorem dX12_back_43 : decode cX12_back 43 = .ok (.if_icmp .ge 26, 3) := by decide +kernel
theorem dX12_back_46 : decode cX12_back 46 = .ok (.aload_n 0, 1) := by decide +kernel
theorem dX12_back_47 : decode cX12_back 47 = .ok (.getfield 39, 3) := by decide +kernel
theorem dX12_back_50 : decode cX12_back 50 = .ok (.iload_n 2, 1) := by decide +kernel
theorem dX12_back_51 : decode cX12_back 51 = .ok (.aload_n 0, 1) := by decide +kernel
theorem dX12_back_52 : decode cX12_back 52 = .ok (.getfield 60, 3) := by decide +kernel
theorem dX12_back_55 : decode cX12_back 55 = .ok (.bipush 123, 2) := by decide +kernel
theorem dX12_back_57 : decode cX12_back 57 = .ok (.iload_n 1, 1) := by decide +kernel
theorem dX12_back_58 : decode cX12_back 58 = .ok (.imul, 1) := by decide +kernel
theorem dX12_back_59 : decode cX12_back 59 = .ok (.iload_n 2, 1) := by decide +kernel
theorem dX12_back_60 : decode cX12_back 60 = .ok (.iadd, 1) := by decide +kernel
theorem dX12_back_61 : decode cX12_back 61 = .ok (.iaload, 1) := by decide +kernel
theorem dX12_back_62 : decode cX12_back 62 = .ok (.iastore, 1) := by decide +kernel
theorem dX12_back_63 : decode cX12_back 63 = .ok (.iinc 2 1, 3) := by decide +kernel
theorem dX12_back_66 : decode cX12_back 66 = .ok (.goto (-26), 3) := by decide +kernel
theorem dX12_back_69 : decode cX12_back 69 = .ok (.aload_n 0, 1) := by decide +kernel
theorem dX12_back_70 : decode cX12_back 70 = .ok (.invokevirtual 280, 3) := by decide +kernel
theorem dX12_back_73 : decode cX12_back 73 = .ok (.aload_n 0, 1) := by decide +kernel
theorem dX12_back_74 : decode cX12_back 74 = .ok (.getfield 39, 3) := by decide +kernel
theorem dX12_back_77 : decode cX12_back 77 = .ok (.iconst 3, 1) := by decide +kernel
theorem dX12_back_78 : decode cX12_back 78 = .ok (.iaload, 1) := by decide +kernel
theorem dX12_back_79 : decode cX12_back 79 = .ok (.ireturn, 1) := by decide +kernel
set_option maxHeartbeats 4000000 in
set_option maxRecDepth 100000 in
theorem c_X12_back (l : Launch) (D : va_G) (cs : Nat → ClassId) (kK kV : Nat → Nat) (a : Nat) (p0 : Int32) (a_said : Nat) (a_said_c : Nat → Int32) (a_isMade : Nat) (a_isMade_c : Nat → Int32) (a_images : Nat) (a_images_c : Nat → Int32) (a_wasSaid : Nat) (a_wasSaid_c : Nat → Int32) (a_tape : Nat) (a__taped : Int32) (a__rules : Int32) (a_sign : Nat) (a_length : Nat) (a_clause : Nat) (a_clauses : Nat) (a_read : Nat) (a__next : Int32) (a__wrong : Int32) (a__number : Int32) (a__text : Int32) (a__made : Int32) (a__deep : Int32) (a__lines : Int32) (a_open : Nat) (a__opened : Int32) (a_stack : Nat) (a__top : Int32) (a_word : Nat) (a__x : Int32) (a_worth : Nat) (a_mate : Nat) (a__undone : Int32) (a__boughtNow : Int32) (a_wayBy : Nat) (a_wayThen : Nat) (a__walkMost : Int32) (a__walkGoing : Int32) (a__walkSet : Int32) (a_kept : Nat) (a__drawX : Int64) (a_imageX : Nat) (a_imageX_c : Nat → Int32) (a_worth_c : Nat → Int32) (a_mate_c : Nat → Int32) (h_a__taped : IV 0 400 a__taped) (h_a__rules : IV 0 6 a__rules) (h_a__next : IV 0 400 a__next) (h_a__text : IV 0 6 a__text) (h_a__made : IV 0 60 a__made) (h_a__lines : IV 0 40 a__lines) (h_a__opened : IV 0 400 a__opened) (h_a__top : IV 0 64 a__top) (h_a__x : IV 0 2147483647 a__x) (h_a__undone : IV 0 20 a__undone) (h_a_imageX_c : CI 4 0 2147483647 a_imageX_c) (h_a_mate_c : CI 4096 (-1) 11 a_mate_c) (hf0 : BS a_said_c 200) (hf1 : TR a_said_c) (hf2 : (a_said_c 3).toInt ≤ 99) (hf3 : IMG a_isMade_c a_images_c) (hf4 : WSN a_wasSaid_c a__undone.toInt) (sz : Nat) : Met l yX12_back (hz_w yX12_back cX12_back 3 (some .int)) ({ frames := 4, cells := 0, slots := 0, locals := 93 }) (va_Pc [.ref a, .int p0] (hz_C D cs kK kV sz [(a_said, .inl (cs 0, 123, .inl a_said_c)), (a_isMade, .inl (cs 2, 4, .inl a_isMade_c)), (a_images, .inl (cs 0, 492, .inl a_images_c)), (a_wasSaid, .inl (cs 0, 1720, .inl a_wasSaid_c)), (a, .inr (12, [.ref a_tape, .int a__taped, .int a__rules, .ref a_sign, .ref a_length, .ref a_clause, .ref a_clauses, .ref a_read, .int a__next, .int a__wrong, .int a__number, .int a__text, .int a__made, .int a__deep, .int a__lines, .ref a_open, .int a__opened, .ref a_stack, .int a__top, .ref a_word, .ref a_said, .int a__x, .ref a_worth, .ref a_mate, .ref a_wasSaid, .int a__undone, .int a__boughtNow, .ref a_wayBy, .ref a_wayThen, .int a__walkMost, .int a__walkGoing, .int a__walkSet, .ref a_kept, .long a__drawX, .ref a_images, .ref a_imageX, .ref a_isMade])), (a_imageX, .inl (cs 0, 4, .inl a_imageX_c)), (a_worth, .inl (cs 0, 4096, .inl a_worth_c)), (a_mate, .inl (cs 0, 4096, .inl a_mate_c))])) (va_Qi (fun (r : Int32) (u : (Nat → Int32) × (Nat → Nat → Int32)) => (r = (-1) ∧ IV 0 2147483647 (u.1 1) ∧ IV 0 20 (u.1 2) ∧ CI 4096 (-1) 11 (u.2 0) ∧ (BS (u.2 1) 200) ∧ (TR (u.2 1)) ∧ (((u.2 1) 3).toInt ≤ 99) ∧ (WSN a_wasSaid_c (u.1 2).toInt) ∧ (¬ (0 ≤ p0.toInt ∧ p0.toInt ≤ 3) ∨ (a_isMade_c (Int32.toNatClampNeg p0)).toInt = 0) ∧ ((u.1 1) = a__x)) ∨ (IV 0 99 r ∧ IV 0 3 p0 ∧ IV 0 2147483647 (u.1 1) ∧ IV 0 0 (u.1 2) ∧ CI 4096 (-1) 11 (u.2 0) ∧ (BS (u.2 1) 200) ∧ (TR (u.2 1)) ∧ (((u.2 1) 3).toInt ≤ 99) ∧ (WSN a_wasSaid_c (u.1 2).toInt) ∧ (0 ≤ p0.toInt ∧ p0.toInt ≤ 3) ∧ ((a_isMade_c (Int32.toNatClampNeg p0)).toInt ≠ 0) ∧ ((u.1 1) = a_imageX_c (Int32.toNatClampNeg p0)))) (fun u t => va_P D classes [(a_said, .inl (cs 0, 123, .inl (u.2 1))), (a_isMade, .inl (cs 2, 4, .inl a_isMade_c)), (a_images, .inl (cs 0, 492, .inl a_images_c)), (a_wasSaid, .inl (cs 0, 1720, .inl a_wasSaid_c)), (a, .inr (12, [.ref a_tape, .int a__taped, .int a__rules, .ref a_sign, .ref a_length, .ref a_clause, .ref a_clauses, .ref a_read, .int a__next, .int a__wrong, .int a__number, .int a__text, .int a__made, .int a__deep, .int a__lines, .ref a_open, .int a__opened, .ref a_stack, .int a__top, .ref a_word, .ref a_said, .int (u.1 1), .ref a_worth, .ref a_mate, .ref a_wasSaid, .int (u.1 2), .int a__boughtNow, .ref a_wayBy, .ref a_wayThen, .int a__walkMost, .int a__walkGoing, .int a__walkSet, .ref a_kept, .long a__drawX, .ref a_images, .ref a_imageX, .ref a_isMade])), (a_imageX, .inl (cs 0, 4, .inl a_imageX_c)), (a_worth, .inl (cs 0, 4096, .inl (u.2 2))), (a_mate, .inl (cs 0, 4096, .inl (u.2 0)))] t.heap ∧ va_D (va_A [(a_said, .inl (cs 0, 123, .inl a_said_c)), (a_isMade, .inl (cs 2, 4, .inl a_isMade_c)), (a_images, .inl (cs 0, 492, .inl a_images_c)), (a_wasSaid, .inl (cs 0, 1720, .inl a_wasSaid_c)), (a, .inr (12, [.ref a_tape, .int a__taped, .int a__rules, .ref a_sign, .ref a_length, .ref a_clause, .ref a_clauses, .ref a_read, .int a__next, .int a__wrong, .int a__number, .int a__text, .int a__made, .int a__deep, .int a__lines, .ref a_open, .int a__opened, .ref a_stack, .int a__top, .ref a_word, .ref a_said, .int a__x, .ref a_worth, .ref a_mate, .ref a_wasSaid, .int a__undone, .int a__boughtNow, .ref a_wayBy, .ref a_wayThen, .int a__walkMost, .int a__walkGoing, .int a__walkSet, .ref a_kept, .long a__drawX, .ref a_images, .ref a_imageX, .ref a_isMade])), (a_imageX, .inl (cs 0, 4, .inl a_imageX_c)), (a_worth, .inl (cs 0, 4096, .inl a_worth_c)), (a_mate, .inl (cs 0, 4096, .inl a_mate_c))] sz) [(a_said, .inl (cs 0, 123, .inl (u.2 1))), (a_isMade, .inl (cs 2, 4, .inl a_isMade_c)), (a_images, .inl (cs 0, 492, .inl a_images_c)), (a_wasSaid, .inl (cs 0, 1720, .inl a_wasSaid_c)), (a, .inr (12, [.ref a_tape, .int a__taped, .int a__rules, .ref a_sign, .ref a_length, .ref a_clause, .ref a_clauses, .ref a_read, .int a__next, .int a__wrong, .int a__number, .int a__text, .int a__made, .int a__deep, .int a__lines, .ref a_open, .int a__opened, .ref a_stack, .int a__top, .ref a_word, .ref a_said, .int (u.1 1), .ref a_worth, .ref a_mate, .ref a_wasSaid, .int (u.1 2), .int a__boughtNow, .ref a_wayBy, .ref a_wayThen, .int a__walkMost, .int a__walkGoing, .int a__walkSet, .ref a_kept, .long a__drawX, .ref a_images, .ref a_imageX, .ref a_isMade])), (a_imageX, .inl (cs 0, 4, .inl a_imageX_c)), (a_worth, .inl (cs 0, 4096, .inl (u.2 2))), (a_mate, .inl (cs 0, 4096, .inl (u.2 0)))]) (va_A [(a_said, .inl (cs 0, 123, .inl a_said_c)), (a_isMade, .inl (cs 2, 4, .inl a_isMade_c)), (a_images, .inl (cs 0, 492, .inl a_images_c)), (a_wasSaid, .inl (cs 0, 1720, .inl a_wasSaid_c)), (a, .inr (12, [.ref a_tape, .int a__taped, .int a__rules, .ref a_sign, .ref a_length, .ref a_clause, .ref a_clauses, .ref a_read, .int a__next, .int a__wrong, .int a__number, .int a__text, .int a__made, .int a__deep, .int a__lines, .ref a_open, .int a__opened, .ref a_stack, .int a__top, .ref a_word, .ref a_said, .int a__x, .ref a_worth, .ref a_mate, .ref a_wasSaid, .int a__undone, .int a__boughtNow, .ref a_wayBy, .ref a_wayThen, .int a__walkMost, .int a__walkGoing, .int a__walkSet, .ref a_kept, .long a__drawX, .ref a_images, .ref a_imageX, .ref a_isMade])), (a_imageX, .inl (cs 0, 4, .inl a_imageX_c)), (a_worth, .inl (cs 0, 4096, .inl a_worth_c)), (a_mate, .inl (cs 0, 4096, .inl a_mate_c))] sz)) 0 0 (va_A [(a_said, .inl (cs 0, 123, .inl a_said_c)), (a_isMade, .inl (cs 2, 4, .inl a_isMade_c)), (a_images, .inl (cs 0, 492, .inl a_images_c)), (a_wasSaid, .inl (cs 0, 1720, .inl a_wasSaid_c)), (a, .inr (12, [.ref a_tape, .int a__taped, .int a__rules, .ref a_sign, .ref a_length, .ref a_clause, .ref a_clauses, .ref a_read, .int a__next, .int a__wrong, .int a__number, .int a__text, .int a__made, .int a__deep, .int a__lines, .ref a_open, .int a__opened, .ref a_stack, .int a__top, .ref a_word, .ref a_said, .int a__x, .ref a_worth, .ref a_mate, .ref a_wasSaid, .int a__undone, .int a__boughtNow, .ref a_wayBy, .ref a_wayThen, .int a__walkMost, .int a__walkGoing, .int a__walkSet, .ref a_kept, .long a__drawX, .ref a_images, .ref a_imageX, .ref a_isMade])), (a_imageX, .inl (cs 0, 4, .inl a_imageX_c)), (a_worth, .inl (cs 0, 4096, .inl a_worth_c)), (a_mate, .inl (cs 0, 4096, .inl a_mate_c))] sz) := by
  refine Met.ofW (cc := cX12_back) (maxL := 3) (ret := (some .int)) (by decide) rfl ?_
  intro p e s m args below meth c s₁ B hml hv
  obtain ⟨rfl, hsz, hP, hD0, hE⟩ := hv
  have hx := B.exec
  have hb := B.bytes
  have hr := B.returns
  have hT : ∀ w ∈ TB, w.before _ s = true := fun w h => atoms_spec (ws := hz_w yX12_back cX12_back 3 (some .int)) B.pre w (List.mem_cons_of_mem _ h)
  have hown : s.vm.findClass RX12 = some m.cls := findClass_of_methodNamed B.named
  have hlocks := B.notSynchronized
  clear B
  subst hsz
  have hD := hD0.self (sz := s.heap.size)
  generalize hAe : va_A [(a_said, .inl (cs 0, 123, .inl a_said_c)), (a_isMade, .inl (cs 2, 4, .inl a_isMade_c)), (a_images, .inl (cs 0, 492, .inl a_images_c)), (a_wasSaid, .inl (cs 0, 1720, .inl a_wasSaid_c)), (a, .inr (12, [.ref a_tape, .int a__taped, .int a__rules, .ref a_sign, .ref a_length, .ref a_clause, .ref a_clauses, .ref a_read, .int a__next, .int a__wrong, .int a__number, .int a__text, .int a__made, .int a__deep, .int a__lines, .ref a_open, .int a__opened, .ref a_stack, .int a__top, .ref a_word, .ref a_said, .int a__x, .ref a_worth, .ref a_mate, .ref a_wasSaid, .int a__undone, .int a__boughtNow, .ref a_wayBy, .ref a_wayThen, .int a__walkMost, .int a__walkGoing, .int a__walkSet, .ref a_kept, .long a__drawX, .ref a_images, .ref a_imageX, .ref a_isMade])), (a_imageX, .inl (cs 0, 4, .inl a_imageX_c)), (a_worth, .inl (cs 0, 4096, .inl a_worth_c)), (a_mate, .inl (cs 0, 4096, .inl a_mate_c))] s.heap.size = A at hD hE ⊢
  have hA : ∀ q : Nat, s.heap.size ≤ q → A q := fun q h => by rw [← hAe]; exact Or.inr h
  clear hAe hD0
  have hS : va_S A s.heap s.heap [] := va_S.rf
  have hK := hE.1
  have hl := lv_entry ([.ref a, .int p0]) (n := 3) (Nat.le_of_ble_eq_true rfl)
  rw [lg_entry_eq]
  generalize (lg_sl ([.ref a, .int p0]) ++ List.replicate (3 - (lg_sl ([.ref a, .int p0])).length) Slot.unset).toArray = ls at hl ⊢
  have hl : lv_has ls 3 [(0, .ref a), (1, .int p0)] := hl
  obtain ⟨H, eH⟩ : ∃ z, z = s.heap := ⟨_, rfl⟩
  have hP : va_P D classes [(a_said, .inl (cs 0, 123, .inl a_said_c)), (a_isMade, .inl (cs 2, 4, .inl a_isMade_c)), (a_images, .inl (cs 0, 492, .inl a_images_c)), (a_wasSaid, .inl (cs 0, 1720, .inl a_wasSaid_c)), (a, .inr (12, [.ref a_tape, .int a__taped, .int a__rules, .ref a_sign, .ref a_length, .ref a_clause, .ref a_clauses, .ref a_read, .int a__next, .int a__wrong, .int a__number, .int a__text, .int a__made, .int a__deep, .int a__lines, .ref a_open, .int a__opened, .ref a_stack, .int a__top, .ref a_word, .ref a_said, .int a__x, .ref a_worth, .ref a_mate, .ref a_wasSaid, .int a__undone, .int a__boughtNow, .ref a_wayBy, .ref a_wayThen, .int a__walkMost, .int a__walkGoing, .int a__walkSet, .ref a_kept, .long a__drawX, .ref a_images, .ref a_imageX, .ref a_isMade])), (a_imageX, .inl (cs 0, 4, .inl a_imageX_c)), (a_worth, .inl (cs 0, 4096, .inl a_worth_c)), (a_mate, .inl (cs 0, 4096, .inl a_mate_c))] H := by rw [eH]; exact hP
  have hS : va_S A s.heap H [] := by rw [eH]; exact hS
  rw [← eH]
  clear eH
  obtain ⟨locs, el⟩ : ∃ z : List Loc, z = [] := ⟨_, rfl⟩
  rw [← el] at hS ⊢
  clear el
  have z0 : (0 : Int32).toInt = 0 := by decide
  have z1 : (1 : Int32).toInt = 1 := by decide
  have zm1 : (-1 : Int32).toInt = -1 := by decide
  have i_a__lines : 0 ≤ a__lines.toInt ∧ a__lines.toInt ≤ 40 := h_a__lines
  have i_a__made : 0 ≤ a__made.toInt ∧ a__made.toInt ≤ 60 := h_a__made
  have i_a__next : 0 ≤ a__next.toInt ∧ a__next.toInt ≤ 400 := h_a__next
  have i_a__opened : 0 ≤ a__opened.toInt ∧ a__opened.toInt ≤ 400 := h_a__opened
  have i_a__rules : 0 ≤ a__rules.toInt ∧ a__rules.toInt ≤ 6 := h_a__rules
  have i_a__taped : 0 ≤ a__taped.toInt ∧ a__taped.toInt ≤ 400 := h_a__taped
  have i_a__text : 0 ≤ a__text.toInt ∧ a__text.toInt ≤ 6 := h_a__text
  have i_a__top : 0 ≤ a__top.toInt ∧ a__top.toInt ≤ 64 := h_a__top
  have i_a__undone : 0 ≤ a__undone.toInt ∧ a__undone.toInt ≤ 20 := h_a__undone
  have i_a__x : 0 ≤ a__x.toInt ∧ a__x.toInt ≤ 2147483647 := h_a__x
  have K40 : ∀ (n : Nat) (k40_L_2 : Int32) (k40_C_a_said : Nat → Int32) (k40_F_a_21 : Int32), (123 - k40_L_2.toInt + 1).toNat ≤ n → IV 0 2147483647 k40_F_a_21 → IV 0 123 k40_L_2 → IV 0 3 p0 → (CPF k40_C_a_said a_images_c (123 * p0.toInt.toNat) k40_L_2.toInt.toNat) → (k40_F_a_21 = a_imageX_c (Int32.toNatClampNeg p0)) → ((a_isMade_c (Int32.toNatClampNeg p0)).toInt ≠ 0) → ∀ (H : Heap) (locs : List Loc), va_P D classes [(a_said, .inl (cs 0, 123, .inl k40_C_a_said)), (a_isMade, .inl (cs 2, 4, .inl a_isMade_c)), (a_images, .inl (cs 0, 492, .inl a_images_c)), (a_wasSaid, .inl (cs 0, 1720, .inl a_wasSaid_c)), (a, .inr (12, [.ref a_tape, .int a__taped, .int a__rules, .ref a_sign, .ref a_length, .ref a_clause, .ref a_clauses, .ref a_read, .int a__next, .int a__wrong, .int a__number, .int a__text, .int a__made, .int a__deep, .int a__lines, .ref a_open, .int a__opened, .ref a_stack, .int a__top, .ref a_word, .ref a_said, .int k40_F_a_21, .ref a_worth, .ref a_mate, .ref a_wasSaid, .int 0, .int a__boughtNow, .ref a_wayBy, .ref a_wayThen, .int a__walkMost, .int a__walkGoing, .int a__walkSet, .ref a_kept, .long a__drawX, .ref a_images, .ref a_imageX, .ref a_isMade])), (a_imageX, .inl (cs 0, 4, .inl a_imageX_c)), (a_worth, .inl (cs 0, 4096, .inl a_worth_c)), (a_mate, .inl (cs 0, 4096, .inl a_mate_c))] H → va_D A [(a_said, .inl (cs 0, 123, .inl k40_C_a_said)), (a_isMade, .inl (cs 2, 4, .inl a_isMade_c)), (a_images, .inl (cs 0, 492, .inl a_images_c)), (a_wasSaid, .inl (cs 0, 1720, .inl a_wasSaid_c)), (a, .inr (12, [.ref a_tape, .int a__taped, .int a__rules, .ref a_sign, .ref a_length, .ref a_clause, .ref a_clauses, .ref a_read, .int a__next, .int a__wrong, .int a__number, .int a__text, .int a__made, .int a__deep, .int a__lines, .ref a_open, .int a__opened, .ref a_stack, .int a__top, .ref a_word, .ref a_said, .int k40_F_a_21, .ref a_worth, .ref a_mate, .ref a_wasSaid, .int 0, .int a__boughtNow, .ref a_wayBy, .ref a_wayThen, .int a__walkMost, .int a__walkGoing, .int a__walkSet, .ref a_kept, .long a__drawX, .ref a_images, .ref a_imageX, .ref a_isMade])), (a_imageX, .inl (cs 0, 4, .inl a_imageX_c)), (a_worth, .inl (cs 0, 4096, .inl a_worth_c)), (a_mate, .inl (cs 0, 4096, .inl a_mate_c))] → va_S A s.heap H locs → ∀ ls : Array Slot, lv_has ls 3 [(2, .int k40_L_2), (0, .ref a), (1, .int p0)] → W p l e (headSpec (hz_w yX12_back cX12_back 3 (some .int)) ({ frames := 4, cells := 0, slots := 0, locals := 93 })).room s m [.ref a, .int p0].toArray below meth c H locs 0 0 (MQ below (va_Qi (fun (r : Int32) (u : (Nat → Int32) × (Nat → Nat → Int32)) => (r = (-1) ∧ IV 0 2147483647 (u.1 1) ∧ IV 0 20 (u.1 2) ∧ CI 4096 (-1) 11 (u.2 0) ∧ (BS (u.2 1) 200) ∧ (TR (u.2 1)) ∧ (((u.2 1) 3).toInt ≤ 99) ∧ (WSN a_wasSaid_c (u.1 2).toInt) ∧ (¬ (0 ≤ p0.toInt ∧ p0.toInt ≤ 3) ∨ (a_isMade_c (Int32.toNatClampNeg p0)).toInt = 0) ∧ ((u.1 1) = a__x)) ∨ (IV 0 99 r ∧ IV 0 3 p0 ∧ IV 0 2147483647 (u.1 1) ∧ IV 0 0 (u.1 2) ∧ CI 4096 (-1) 11 (u.2 0) ∧ (BS (u.2 1) 200) ∧ (TR (u.2 1)) ∧ (((u.2 1) 3).toInt ≤ 99) ∧ (WSN a_wasSaid_c (u.1 2).toInt) ∧ (0 ≤ p0.toInt ∧ p0.toInt ≤ 3) ∧ ((a_isMade_c (Int32.toNatClampNeg p0)).toInt ≠ 0) ∧ ((u.1 1) = a_imageX_c (Int32.toNatClampNeg p0)))) (fun u t => va_P D classes [(a_said, .inl (cs 0, 123, .inl (u.2 1))), (a_isMade, .inl (cs 2, 4, .inl a_isMade_c)), (a_images, .inl (cs 0, 492, .inl a_images_c)), (a_wasSaid, .inl (cs 0, 1720, .inl a_wasSaid_c)), (a, .inr (12, [.ref a_tape, .int a__taped, .int a__rules, .ref a_sign, .ref a_length, .ref a_clause, .ref a_clauses, .ref a_read, .int a__next, .int a__wrong, .int a__number, .int a__text, .int a__made, .int a__deep, .int a__lines, .ref a_open, .int a__opened, .ref a_stack, .int a__top, .ref a_word, .ref a_said, .int (u.1 1), .ref a_worth, .ref a_mate, .ref a_wasSaid, .int (u.1 2), .int a__boughtNow, .ref a_wayBy, .ref a_wayThen, .int a__walkMost, .int a__walkGoing, .int a__walkSet, .ref a_kept, .long a__drawX, .ref a_images, .ref a_imageX, .ref a_isMade])), (a_imageX, .inl (cs 0, 4, .inl a_imageX_c)), (a_worth, .inl (cs 0, 4096, .inl (u.2 2))), (a_mate, .inl (cs 0, 4096, .inl (u.2 0)))] t.heap ∧ va_D A [(a_said, .inl (cs 0, 123, .inl (u.2 1))), (a_isMade, .inl (cs 2, 4, .inl a_isMade_c)), (a_images, .inl (cs 0, 492, .inl a_images_c)), (a_wasSaid, .inl (cs 0, 1720, .inl a_wasSaid_c)), (a, .inr (12, [.ref a_tape, .int a__taped, .int a__rules, .ref a_sign, .ref a_length, .ref a_clause, .ref a_clauses, .ref a_read, .int a__next, .int a__wrong, .int a__number, .int a__text, .int a__made, .int a__deep, .int a__lines, .ref a_open, .int a__opened, .ref a_stack, .int a__top, .ref a_word, .ref a_said, .int (u.1 1), .ref a_worth, .ref a_mate, .ref a_wasSaid, .int (u.1 2), .int a__boughtNow, .ref a_wayBy, .ref a_wayThen, .int a__walkMost, .int a__walkGoing, .int a__walkSet, .ref a_kept, .long a__drawX, .ref a_images, .ref a_imageX, .ref a_isMade])), (a_imageX, .inl (cs 0, 4, .inl a_imageX_c)), (a_worth, .inl (cs 0, 4096, .inl (u.2 2))), (a_mate, .inl (cs 0, 4096, .inl (u.2 0)))]) A) [.ref a, .int p0].toArray s 0 0 A) (F0 m 40 ls []) := by
    intro n
    induction n with
    | zero =>
      intro k40_L_2 k40_C_a_said k40_F_a_21 hn q40_8 q40_9 q40_10 x40_0 x40_1 x40_2 H locs hP hD hS ls hl
      exact absurd hn (by unfold IV at q40_9; omega)
    | succ n ih40 =>
      intro k40_L_2 k40_C_a_said k40_F_a_21 hn q40_8 q40_9 q40_10 x40_0 x40_1 x40_2 H locs hP hD hS ls hl
      have i_a__lines : 0 ≤ a__lines.toInt ∧ a__lines.toInt ≤ 40 := h_a__lines
      have i_a__made : 0 ≤ a__made.toInt ∧ a__made.toInt ≤ 60 := h_a__made
      have i_a__next : 0 ≤ a__next.toInt ∧ a__next.toInt ≤ 400 := h_a__next
      have i_a__opened : 0 ≤ a__opened.toInt ∧ a__opened.toInt ≤ 400 := h_a__opened
      have i_a__rules : 0 ≤ a__rules.toInt ∧ a__rules.toInt ≤ 6 := h_a__rules
      have i_a__taped : 0 ≤ a__taped.toInt ∧ a__taped.toInt ≤ 400 := h_a__taped
      have i_a__text : 0 ≤ a__text.toInt ∧ a__text.toInt ≤ 6 := h_a__text
      have i_a__top : 0 ≤ a__top.toInt ∧ a__top.toInt ≤ 64 := h_a__top
      have i_k40_F_a_21 : 0 ≤ k40_F_a_21.toInt ∧ k40_F_a_21.toInt ≤ 2147483647 := q40_8
      have i_k40_L_2 : 0 ≤ k40_L_2.toInt ∧ k40_L_2.toInt ≤ 123 := q40_9
      have i_p0 : 0 ≤ p0.toInt ∧ p0.toInt ≤ 3 := q40_10
      refine lv_iload_n hx hb dX12_back_40 rfl (lv_at hl 0 rfl) ?_
      refine lv_bipush (v := 123) hx hb dX12_back_41 (by decide) ?_
      refine lv_icmp_ge (tgt := 69) hx hb dX12_back_43 (by decide) (fun c1 => ?_) (fun c1 => ?_)
      · have t2 : k40_L_2.toInt ≥ 123 := lin_ge c1 rfl (by decide)
        have h3 : IV 123 123 k40_L_2 := iv_le2 c1 (iv_c (a := 123) (b := 123) (by decide)) q40_9 (by decide)
        have ii4 : 123 ≤ k40_L_2.toInt ∧ k40_L_2.toInt ≤ 123 := h3
        have fa5 : BS k40_C_a_said 99 := bs_congr (hf3 p0.toInt.toNat (by omega) x40_2).1 (fun j hj => x40_0 j (by omega))
        have fa6 : BS k40_C_a_said 200 := (bs_hi fa5 (by decide))
        have fa7 : TR k40_C_a_said := tr_cg (hf3 p0.toInt.toNat (by omega) x40_2).2 (fun j hj => x40_0 j (by omega))
        have h3 := fa5.2.2.2.1.2
        refine lv_aload_n hx hb dX12_back_69 rfl (lv_at hl 1 rfl) ?_
        have hFc := va_free (wc := [(a_said, .inl (cs 0, 123, .inl k40_C_a_said)), (a, .inr (12, [.ref a_tape, .int a__taped, .int a__rules, .ref a_sign, .ref a_length, .ref a_clause, .ref a_clauses, .ref a_read, .int a__next, .int a__wrong, .int a__number, .int a__text, .int a__made, .int a__deep, .int a__lines, .ref a_open, .int a__opened, .ref a_stack, .int a__top, .ref a_word, .ref a_said, .int k40_F_a_21, .ref a_worth, .ref a_mate, .ref a_wasSaid, .int 0, .int a__boughtNow, .ref a_wayBy, .ref a_wayThen, .int a__walkMost, .int a__walkGoing, .int a__walkSet, .ref a_kept, .long a__drawX, .ref a_images, .ref a_imageX, .ref a_isMade])), (a_worth, .inl (cs 0, 4096, .inl a_worth_c)), (a_mate, .inl (cs 0, 4096, .inl a_mate_c))]) hD hS hA [0,4,6,7] rfl
        refine va_callv (va_runV (As := []) (rest := []) ⟨hx, hb, hml, hown, hT⟩ (c_X12_fillsWorth l D cs kK kV a a_said k40_C_a_said a_tape a__taped a__rules a_sign a_length a_clause a_clauses a_read a__next a__wrong a__number a__text a__made a__deep a__lines a_open a__opened a_stack a__top a_word k40_F_a_21 a_worth a_mate a_wasSaid 0 a__boughtNow a_wayBy a_wayThen a__walkMost a__walkGoing a__walkSet a_kept a__drawX a_images a_imageX a_isMade a_worth_c a_mate_c h_a__taped h_a__rules h_a__next h_a__text h_a__made h_a__lines h_a__opened h_a__top q40_8 ((iv_c (by decide))) h_a_mate_c fa6 H.size) (cwV 0 hT (hz_gV q_1085 q_1086 q_1087 q_701 q_1088) rfl rfl rfl (by decide +kernel) ⟨(Nat.le_of_ble_eq_true rfl), (Nat.le_of_ble_eq_true rfl)⟩) ⟨hz_C.blind, va_recv hK hP (ci := 12) (q0 := 4) rfl rfl, hz_C.mk (hP.sub (ws' := [(a_said, .inl (cs 0, 123, .inl k40_C_a_said)), (a, .inr (12, [.ref a_tape, .int a__taped, .int a__rules, .ref a_sign, .ref a_length, .ref a_clause, .ref a_clauses, .ref a_read, .int a__next, .int a__wrong, .int a__number, .int a__text, .int a__made, .int a__deep, .int a__lines, .ref a_open, .int a__opened, .ref a_stack, .int a__top, .ref a_word, .ref a_said, .int k40_F_a_21, .ref a_worth, .ref a_mate, .ref a_wasSaid, .int 0, .int a__boughtNow, .ref a_wayBy, .ref a_wayThen, .int a__walkMost, .int a__walkGoing, .int a__walkSet, .ref a_kept, .long a__drawX, .ref a_images, .ref a_imageX, .ref a_isMade])), (a_worth, .inl (cs 0, 4096, .inl a_worth_c)), (a_mate, .inl (cs 0, 4096, .inl a_mate_c))]) [0,4,6,7] rfl) (hD.sub (ws' := [(a_said, .inl (cs 0, 123, .inl k40_C_a_said)), (a, .inr (12, [.ref a_tape, .int a__taped, .int a__rules, .ref a_sign, .ref a_length, .ref a_clause, .ref a_clauses, .ref a_read, .int a__next, .int a__wrong, .int a__number, .int a__text, .int a__made, .int a__deep, .int a__lines, .ref a_open, .int a__opened, .ref a_stack, .int a__top, .ref a_word, .ref a_said, .int k40_F_a_21, .ref a_worth, .ref a_mate, .ref a_wasSaid, .int 0, .int a__boughtNow, .ref a_wayBy, .ref a_wayThen, .int a__walkMost, .int a__walkGoing, .int a__walkSet, .ref a_kept, .long a__drawX, .ref a_images, .ref a_imageX, .ref a_isMade])), (a_worth, .inl (cs 0, 4096, .inl a_worth_c)), (a_mate, .inl (cs 0, 4096, .inl a_mate_c))]) [0,4,6,7] (by decide) rfl) hE hS hFc⟩ rfl rfl hl.1 rfl (lv_room (Nat.le_of_ble_eq_true rfl)) dX12_back_70 ⟨(Nat.le_of_ble_eq_true rfl), (Nat.le_of_ble_eq_true rfl)⟩) hS (fun q _ h => hFc q h) hFc (fun o9 t H1 locs ht hvm hw hB hz1 hk1 hS => ?_)
        obtain ⟨hP1, hD1⟩ := hB
        rw [ht] at hP1
        obtain ⟨hP, hD⟩ := va_join (wr := [(a_isMade, .inl (cs 2, 4, .inl a_isMade_c)), (a_images, .inl (cs 0, 492, .inl a_images_c)), (a_wasSaid, .inl (cs 0, 1720, .inl a_wasSaid_c)), (a_imageX, .inl (cs 0, 4, .inl a_imageX_c))]) (w1 := [(a_said, .inl (cs 0, 123, .inl k40_C_a_said)), (a, .inr (12, [.ref a_tape, .int a__taped, .int a__rules, .ref a_sign, .ref a_length, .ref a_clause, .ref a_clauses, .ref a_read, .int a__next, .int a__wrong, .int a__number, .int a__text, .int a__made, .int a__deep, .int a__lines, .ref a_open, .int a__opened, .ref a_stack, .int a__top, .ref a_word, .ref a_said, .int k40_F_a_21, .ref a_worth, .ref a_mate, .ref a_wasSaid, .int 0, .int a__boughtNow, .ref a_wayBy, .ref a_wayThen, .int a__walkMost, .int a__walkGoing, .int a__walkSet, .ref a_kept, .long a__drawX, .ref a_images, .ref a_imageX, .ref a_isMade])), (a_worth, .inl (cs 0, 4096, .inl (o9.2 1))), (a_mate, .inl (cs 0, 4096, .inl (o9.2 0)))]) hP hD [0, 4, 6, 7] [1, 2, 3, 5] rfl rfl (by decide) (by decide) hk1 hFc hP1 hD1
        generalize H1 = H at hP hS ⊢
        have hP : va_P D classes [(a_isMade, .inl (cs 2, 4, .inl a_isMade_c)), (a_images, .inl (cs 0, 492, .inl a_images_c)), (a_wasSaid, .inl (cs 0, 1720, .inl a_wasSaid_c)), (a_imageX, .inl (cs 0, 4, .inl a_imageX_c)), (a_said, .inl (cs 0, 123, .inl k40_C_a_said)), (a, .inr (12, [.ref a_tape, .int a__taped, .int a__rules, .ref a_sign, .ref a_length, .ref a_clause, .ref a_clauses, .ref a_read, .int a__next, .int a__wrong, .int a__number, .int a__text, .int a__made, .int a__deep, .int a__lines, .ref a_open, .int a__opened, .ref a_stack, .int a__top, .ref a_word, .ref a_said, .int k40_F_a_21, .ref a_worth, .ref a_mate, .ref a_wasSaid, .int 0, .int a__boughtNow, .ref a_wayBy, .ref a_wayThen, .int a__walkMost, .int a__walkGoing, .int a__walkSet, .ref a_kept, .long a__drawX, .ref a_images, .ref a_imageX, .ref a_isMade])), (a_worth, .inl (cs 0, 4096, .inl (o9.2 1))), (a_mate, .inl (cs 0, 4096, .inl (o9.2 0)))] H := hP
        have hD : va_D A [(a_isMade, .inl (cs 2, 4, .inl a_isMade_c)), (a_images, .inl (cs 0, 492, .inl a_images_c)), (a_wasSaid, .inl (cs 0, 1720, .inl a_wasSaid_c)), (a_imageX, .inl (cs 0, 4, .inl a_imageX_c)), (a_said, .inl (cs 0, 123, .inl k40_C_a_said)), (a, .inr (12, [.ref a_tape, .int a__taped, .int a__rules, .ref a_sign, .ref a_length, .ref a_clause, .ref a_clauses, .ref a_read, .int a__next, .int a__wrong, .int a__number, .int a__text, .int a__made, .int a__deep, .int a__lines, .ref a_open, .int a__opened, .ref a_stack, .int a__top, .ref a_word, .ref a_said, .int k40_F_a_21, .ref a_worth, .ref a_mate, .ref a_wasSaid, .int 0, .int a__boughtNow, .ref a_wayBy, .ref a_wayThen, .int a__walkMost, .int a__walkGoing, .int a__walkSet, .ref a_kept, .long a__drawX, .ref a_images, .ref a_imageX, .ref a_isMade])), (a_worth, .inl (cs 0, 4096, .inl (o9.2 1))), (a_mate, .inl (cs 0, 4096, .inl (o9.2 0)))] := hD
        clear hk1 hFc hP1 hD1 hz1
        have h10 := hw
        refine lv_aload_n hx hb dX12_back_73 rfl (lv_at hl 1 rfl) ?_
        refine va_get (D := D) (ci := 12) (v := .ref a_said) (C := RX12) (T := TX12) (N := 37) hx hb hT i_X12 hown hK hP 5 rfl rfl 20 (by decide) (hT _ q_185) (fun _ h9 => h9) rfl dX12_back_74 ?_
        refine lv_iconst (v := 3) hx hb dX12_back_77 (by decide) ?_
        refine va_iald hx hb hK hP 4 0 rfl rfl (iv_vc (by decide)) dX12_back_78 ?_
        refine lv_topi (fun v11 ev11 => ?_)
        have h12 : IV 0 99 v11 := (by rw [ev11]; exact bs_i3 fa5)
        have ii13 : 0 ≤ v11.toInt ∧ v11.toInt ≤ 99 := h12
        have lv11 : v11.toInt = (k40_C_a_said 3).toInt := by rw [ev11]; rfl
        refine W.widen (k := 0) (n := 0) (Nat.le_of_ble_eq_true rfl) (Nat.le_of_ble_eq_true rfl) ?_
        have g14 : (k40_C_a_said 3).toInt ≤ 99 := (by omega)
        have g15 : WSN a_wasSaid_c ((0 : Int32)).toInt := (wsn_0 (by decide))
        have g16 : 0 ≤ p0.toInt ∧ p0.toInt ≤ 3 := (by omega)
        exact W.iret (v := v11) hx hb hr (fun t ht hW => ⟨⟨v11, (fun k => match k with | 0 => 0 | 1 => k40_F_a_21 | 2 => 0 | _ => 0, fun k => match k with | 0 => o9.2 0 | 1 => k40_C_a_said | 2 => o9.2 1 | _ => fun _ => 0), rfl, (Or.inr ((⟨h12, q40_10, q40_8, iv_c (a := 0) (b := 0) (x := 0) (by decide), h10, fa6, fa7, g14, g15, g16, x40_2, x40_1⟩))), by rw [ht]; exact hP.sub [4, 0, 1, 2, 5, 3, 6, 7] rfl, hD.sub [4, 0, 1, 2, 5, 3, 6, 7] (by decide) rfl⟩, hS.F ht⟩) hS.2.2 dX12_back_79
      · have t17 : k40_L_2.toInt < 123 := lin_geN c1 rfl (by decide)
        have h18 : IV 0 122 k40_L_2 := iv_lt1 (Int32.not_le.mp c1) q40_9 (iv_c (a := 123) (b := 123) (by decide)) (by decide)
        have ii19 : 0 ≤ k40_L_2.toInt ∧ k40_L_2.toInt ≤ 122 := h18
        refine lv_aload_n hx hb dX12_back_46 rfl (lv_at hl 1 rfl) ?_
        refine va_get (D := D) (ci := 12) (v := .ref a_said) (C := RX12) (T := TX12) (N := 37) hx hb hT i_X12 hown hK hP 4 rfl rfl 20 (by decide) (hT _ q_185) (fun _ h9 => h9) rfl dX12_back_47 ?_
        refine lv_iload_n hx hb dX12_back_50 rfl (lv_at hl 0 rfl) ?_
        refine lv_aload_n hx hb dX12_back_51 rfl (lv_at hl 1 rfl) ?_
        refine va_get (D := D) (ci := 12) (v := .ref a_images) (C := RX12) (T := TX12) (N := 37) hx hb hT i_X12 hown hK hP 4 rfl rfl 34 (by decide) (hT _ q_192) (fun _ h9 => h9) rfl dX12_back_52 ?_
        refine lv_bipush (v := 123) hx hb dX12_back_55 (by decide) ?_
        refine lv_iload_n hx hb dX12_back_57 rfl (lv_at hl 2 rfl) ?_
        refine lv_imul hx hb dX12_back_58 ?_
        refine lv_topi (fun v20 ev20 => ?_)
        have hv20 : IV 0 369 v20 := iv_mul ev20 (iv_c (a := 123) (b := 123) (by decide)) q40_10 (by decide) (by decide) (by decide) (by decide)
        have ii21 : 0 ≤ v20.toInt ∧ v20.toInt ≤ 369 := hv20
        have lv20 : v20.toInt = 123 * p0.toInt := lin_mul ev20 (iv_c (a := 123) (b := 123) (by decide)) q40_10 (by decide) rfl (by decide) (by decide) (by decide) (by decide)
        refine lv_iload_n hx hb dX12_back_59 rfl (lv_at hl 0 rfl) ?_
        refine lv_iadd hx hb dX12_back_60 ?_
        refine lv_topi (fun v22 ev22 => ?_)
        have hv22 : IV 0 491 v22 := iv_add ev22 hv20 h18 (by decide) (by decide)
        have ii23 : 0 ≤ v22.toInt ∧ v22.toInt ≤ 491 := hv22
        have lv22 : v22.toInt = v20.toInt + k40_L_2.toInt := lin_add ev22 hv20 h18 rfl rfl (by decide) (by decide)
        refine va_iald hx hb hK hP 2 0 rfl rfl (iv_v hv22 (by decide) (by decide)) dX12_back_61 ?_
        refine lv_topi (fun v24 ev24 => ?_)
        have lv24 : v24.toInt = (a_images_c (Int32.toNatClampNeg v22)).toInt := by rw [ev24]
        refine va_iast hx hb hK hP hD hS 0 0 rfl rfl (iv_v h18 (by decide) (by decide)) dX12_back_62 (fun H locs hP hD hS => ?_)
        have hP : va_P D classes [(a_said, .inl (cs 0, 123, .inl (upd k40_C_a_said (Int32.toNatClampNeg k40_L_2) v24))), (a_isMade, .inl (cs 2, 4, .inl a_isMade_c)), (a_images, .inl (cs 0, 492, .inl a_images_c)), (a_wasSaid, .inl (cs 0, 1720, .inl a_wasSaid_c)), (a, .inr (12, [.ref a_tape, .int a__taped, .int a__rules, .ref a_sign, .ref a_length, .ref a_clause, .ref a_clauses, .ref a_read, .int a__next, .int a__wrong, .int a__number, .int a__text, .int a__made, .int a__deep, .int a__lines, .ref a_open, .int a__opened, .ref a_stack, .int a__top, .ref a_word, .ref a_said, .int k40_F_a_21, .ref a_worth, .ref a_mate, .ref a_wasSaid, .int 0, .int a__boughtNow, .ref a_wayBy, .ref a_wayThen, .int a__walkMost, .int a__walkGoing, .int a__walkSet, .ref a_kept, .long a__drawX, .ref a_images, .ref a_imageX, .ref a_isMade])), (a_imageX, .inl (cs 0, 4, .inl a_imageX_c)), (a_worth, .inl (cs 0, 4096, .inl a_worth_c)), (a_mate, .inl (cs 0, 4096, .inl a_mate_c))] H := hP
        have hD : va_D A [(a_said, .inl (cs 0, 123, .inl (upd k40_C_a_said (Int32.toNatClampNeg k40_L_2) v24))), (a_isMade, .inl (cs 2, 4, .inl a_isMade_c)), (a_images, .inl (cs 0, 492, .inl a_images_c)), (a_wasSaid, .inl (cs 0, 1720, .inl a_wasSaid_c)), (a, .inr (12, [.ref a_tape, .int a__taped, .int a__rules, .ref a_sign, .ref a_length, .ref a_clause, .ref a_clauses, .ref a_read, .int a__next, .int a__wrong, .int a__number, .int a__text, .int a__made, .int a__deep, .int a__lines, .ref a_open, .int a__opened, .ref a_stack, .int a__top, .ref a_word, .ref a_said, .int k40_F_a_21, .ref a_worth, .ref a_mate, .ref a_wasSaid, .int 0, .int a__boughtNow, .ref a_wayBy, .ref a_wayThen, .int a__walkMost, .int a__walkGoing, .int a__walkSet, .ref a_kept, .long a__drawX, .ref a_images, .ref a_imageX, .ref a_isMade])), (a_imageX, .inl (cs 0, 4, .inl a_imageX_c)), (a_worth, .inl (cs 0, 4096, .inl a_worth_c)), (a_mate, .inl (cs 0, 4096, .inl a_mate_c))] := hD
        obtain ⟨f25, uf25⟩ : ∃ z, z = upd k40_C_a_said (Int32.toNatClampNeg k40_L_2) v24 := ⟨_, rfl⟩
        rw [← uf25] at hP hD
        have wf25 : (f25 (Int32.toNatClampNeg k40_L_2)).toInt = v24.toInt := lin_us uf25 rfl
        obtain ⟨v26, ev26⟩ : ∃ z : Int32, z = k40_L_2 + 1 := ⟨_, rfl⟩
        have hv26 : IV 1 123 v26 := iv_add ev26 h18 (iv_c (a := 1) (b := 1) (by decide)) (by decide) (by decide)
        have dv26 : v26.toInt = k40_L_2.toInt + 1 := iv_addE ev26 h18 (iv_c (a := 1) (b := 1) (by decide)) (by decide) (by decide) (by decide)
        refine lv_iinc (v := v26) (lv' := [(2, .int v26), (0, .ref a), (1, .int p0)]) hx hb dX12_back_63 hl (k := 0) rfl (by rw [ev26]; rfl) (by decide) rfl (fun ls hl => ?_)
        refine lv_goto (tgt := 40) hx hb dX12_back_66 (by decide) ?_
        exact ih40 v26 f25 k40_F_a_21 (by have h9 := h18; unfold IV at h9; have := dv26; omega) q40_8 (iv_w hv26 (by decide) (by decide)) q40_10 (cpf_step x40_0 uf25 ev24 (by omega) (by omega) (by omega)) x40_1 x40_2 H locs (hP.sub (ws' := [(a_said, .inl (cs 0, 123, .inl f25)), (a_isMade, .inl (cs 2, 4, .inl a_isMade_c)), (a_images, .inl (cs 0, 492, .inl a_images_c)), (a_wasSaid, .inl (cs 0, 1720, .inl a_wasSaid_c)), (a, .inr (12, [.ref a_tape, .int a__taped, .int a__rules, .ref a_sign, .ref a_length, .ref a_clause, .ref a_clauses, .ref a_read, .int a__next, .int a__wrong, .int a__number, .int a__text, .int a__made, .int a__deep, .int a__lines, .ref a_open, .int a__opened, .ref a_stack, .int a__top, .ref a_word, .ref a_said, .int k40_F_a_21, .ref a_worth, .ref a_mate, .ref a_wasSaid, .int 0, .int a__boughtNow, .ref a_wayBy, .ref a_wayThen, .int a__walkMost, .int a__walkGoing, .int a__walkSet, .ref a_kept, .long a__drawX, .ref a_images, .ref a_imageX, .ref a_isMade])), (a_imageX, .inl (cs 0, 4, .inl a_imageX_c)), (a_worth, .inl (cs 0, 4096, .inl a_worth_c)), (a_mate, .inl (cs 0, 4096, .inl a_mate_c))]) [0, 1, 2, 3, 4, 5, 6, 7] rfl) (hD.sub (ws' := [(a_said, .inl (cs 0, 123, .inl f25)), (a_isMade, .inl (cs 2, 4, .inl a_isMade_c)), (a_images, .inl (cs 0, 492, .inl a_images_c)), (a_wasSaid, .inl (cs 0, 1720, .inl a_wasSaid_c)), (a, .inr (12, [.ref a_tape, .int a__taped, .int a__rules, .ref a_sign, .ref a_length, .ref a_clause, .ref a_clauses, .ref a_read, .int a__next, .int a__wrong, .int a__number, .int a__text, .int a__made, .int a__deep, .int a__lines, .ref a_open, .int a__opened, .ref a_stack, .int a__top, .ref a_word, .ref a_said, .int k40_F_a_21, .ref a_worth, .ref a_mate, .ref a_wasSaid, .int 0, .int a__boughtNow, .ref a_wayBy, .ref a_wayThen, .int a__walkMost, .int a__walkGoing, .int a__walkSet, .ref a_kept, .long a__drawX, .ref a_images, .ref a_imageX, .ref a_isMade])), (a_imageX, .inl (cs 0, 4, .inl a_imageX_c)), (a_worth, .inl (cs 0, 4096, .inl a_worth_c)), (a_mate, .inl (cs 0, 4096, .inl a_mate_c))]) [0, 1, 2, 3, 4, 5, 6, 7] (by decide) rfl) hS ls (lv_sub hl [0, 1, 2] rfl)
  refine lv_iload_n hx hb dX12_back_0 rfl (lv_at hl 1 rfl) ?_
  refine lv_i2l (v := p0.toInt64) hx hb dX12_back_1 rfl ?_
  refine lv_lconst (v := 0) hx hb dX12_back_2 (by decide) ?_
  refine lv_ldc2 hx hb hown (hT _ q_1428) dX12_back_3 ?_
  refine va_calli (va_runS (As := [.long p0.toInt64, .long 0, .long 3]) (rest := []) ⟨hx, hb, hml, hown, hT⟩ (c_X12_in l D cs kK kV p0.toInt64 0 3) (va_cwS 3 hT (hz_gS q_964 q_965 q_701 q_966) rfl rfl rfl (by decide +kernel) ⟨(Nat.le_of_ble_eq_true rfl), (Nat.le_of_ble_eq_true rfl)⟩) ⟨hz_P.blind, hz_P.mk (hP.sub (ws' := []) [] rfl) hE hS⟩ rfl rfl hl.1 rfl (lv_room (Nat.le_of_ble_eq_true rfl)) dX12_back_6 ⟨(Nat.le_of_ble_eq_true rfl), (Nat.le_of_ble_eq_true rfl)⟩) hS (fun _ _ h => h.elim) (fun _ h => h.elim) (fun r27 u t H1 locs ht hvm hw hB hz1 hk1 hS => ?_)
  have hP := hz_keep hP hk1
  clear hk1 hB hz1
  generalize H1 = H at hP hS ⊢
  rcases hw with ⟨rfl, x28⟩ | ⟨rfl, x29, x30⟩
  · have t31 : ¬ (0 ≤ p0.toInt ∧ p0.toInt ≤ 3) := fun z => x28 ⟨l64_clI z.1 (by decide), l64_lcI z.2 (by decide)⟩
    refine lv_if_eq (tgt := 21) hx hb dX12_back_9 (by decide) (fun _ => ?_) (fun z => absurd (by decide) z)
    refine lv_iconst (v := (-1)) hx hb dX12_back_21 (by decide) ?_
    refine W.widen (k := 0) (n := 0) (Nat.le_of_ble_eq_true rfl) (Nat.le_of_ble_eq_true rfl) ?_
    have g32 : ¬ (0 ≤ p0.toInt ∧ p0.toInt ≤ 3) ∨ (a_isMade_c (Int32.toNatClampNeg p0)).toInt = 0 := (Or.inl (by assumption))
    have g33 : a__x = a__x := (rfl)
    exact W.iret (v := (-1)) hx hb hr (fun t ht hW => ⟨⟨(-1), (fun k => match k with | 0 => 0 | 1 => a__x | 2 => a__undone | _ => 0, fun k => match k with | 0 => a_mate_c | 1 => a_said_c | 2 => a_worth_c | _ => fun _ => 0), rfl, (Or.inl (⟨rfl, h_a__x, h_a__undone, h_a_mate_c, hf0, hf1, hf2, hf4, g32, g33⟩)), by rw [ht]; exact hP.sub [0, 1, 2, 3, 4, 5, 6, 7] rfl, hD.sub [0, 1, 2, 3, 4, 5, 6, 7] (by decide) rfl⟩, hS.F ht⟩) hS.2.2 dX12_back_22
  · have h34 : IV 0 2147483647 p0 := ⟨l64_cle x29 (by decide), iv_top.2⟩
    have ii35 : 0 ≤ p0.toInt ∧ p0.toInt ≤ 2147483647 := h34
    have h36 : IV 0 3 p0 := ⟨(h34).1, l64_lec x30 (by decide)⟩
    have ii37 : 0 ≤ p0.toInt ∧ p0.toInt ≤ 3 := h36
    refine lv_if_eq (tgt := 21) hx hb dX12_back_9 (by decide) (fun z => absurd z (by decide)) (fun _ => ?_)
    refine lv_aload_n hx hb dX12_back_12 rfl (lv_at hl 0 rfl) ?_
    refine va_get (D := D) (ci := 12) (v := .ref a_isMade) (C := RX12) (T := TX12) (N := 37) hx hb hT i_X12 hown hK hP 4 rfl rfl 36 (by decide) (hT _ q_194) (fun _ h9 => h9) rfl dX12_back_13 ?_
    refine lv_iload_n hx hb dX12_back_16 rfl (lv_at hl 1 rfl) ?_
    refine va_zald hx hb hK hP 1 2 rfl rfl (iv_v h36 (by decide) (by decide)) dX12_back_17 ?_
    refine lv_topi (fun v38 ev38 => ?_)
    have lv38 : v38.toInt = (a_isMade_c (Int32.toNatClampNeg p0)).toInt := by rw [ev38]
    refine lv_if_ne (tgt := 23) hx hb dX12_back_18 (by decide) (fun c39 => ?_) (fun c39 => ?_)
    · have t40 : v38.toInt ≠ 0 := lin_ne c39 rfl (by decide)
      refine lv_aload_n hx hb dX12_back_23 rfl (lv_at hl 0 rfl) ?_
      refine lv_aload_n hx hb dX12_back_24 rfl (lv_at hl 0 rfl) ?_
      refine va_get (D := D) (ci := 12) (v := .ref a_imageX) (C := RX12) (T := TX12) (N := 37) hx hb hT i_X12 hown hK hP 4 rfl rfl 35 (by decide) (hT _ q_193) (fun _ h9 => h9) rfl dX12_back_25 ?_
      refine lv_iload_n hx hb dX12_back_28 rfl (lv_at hl 1 rfl) ?_
      refine va_iald hx hb hK hP 5 0 rfl rfl (iv_v h36 (by decide) (by decide)) dX12_back_29 ?_
      refine lv_topi (fun v41 ev41 => ?_)
      have hv41 : IV 0 2147483647 v41 := iv_ci ev41 h_a_imageX_c (iv_v h36 (by decide) (by decide))
      have ii42 : 0 ≤ v41.toInt ∧ v41.toInt ≤ 2147483647 := hv41
      have lv41 : v41.toInt = (a_imageX_c (Int32.toNatClampNeg p0)).toInt := by rw [ev41]
      refine va_put (D := D) (ci := 12) (v := .int v41) (ty := .int) (C := RX12) (T := TX12) (N := 37) hx hb hT i_X12 tyX12 tyX12_ok nmX12 hown hK hP hD hS 4 rfl rfl 21 (by decide) (hT _ q_211) (fun _ h9 => h9) rfl (by decide +kernel) rfl rfl (Nat.le_of_ble_eq_true rfl) dX12_back_30 (fun H locs hP hD hS => ?_)
      have hP : va_P D classes [(a_said, .inl (cs 0, 123, .inl a_said_c)), (a_isMade, .inl (cs 2, 4, .inl a_isMade_c)), (a_images, .inl (cs 0, 492, .inl a_images_c)), (a_wasSaid, .inl (cs 0, 1720, .inl a_wasSaid_c)), (a, .inr (12, [.ref a_tape, .int a__taped, .int a__rules, .ref a_sign, .ref a_length, .ref a_clause, .ref a_clauses, .ref a_read, .int a__next, .int a__wrong, .int a__number, .int a__text, .int a__made, .int a__deep, .int a__lines, .ref a_open, .int a__opened, .ref a_stack, .int a__top, .ref a_word, .ref a_said, .int v41, .ref a_worth, .ref a_mate, .ref a_wasSaid, .int a__undone, .int a__boughtNow, .ref a_wayBy, .ref a_wayThen, .int a__walkMost, .int a__walkGoing, .int a__walkSet, .ref a_kept, .long a__drawX, .ref a_images, .ref a_imageX, .ref a_isMade])), (a_imageX, .inl (cs 0, 4, .inl a_imageX_c)), (a_worth, .inl (cs 0, 4096, .inl a_worth_c)), (a_mate, .inl (cs 0, 4096, .inl a_mate_c))] H := hP
      have hD : va_D A [(a_said, .inl (cs 0, 123, .inl a_said_c)), (a_isMade, .inl (cs 2, 4, .inl a_isMade_c)), (a_images, .inl (cs 0, 492, .inl a_images_c)), (a_wasSaid, .inl (cs 0, 1720, .inl a_wasSaid_c)), (a, .inr (12, [.ref a_tape, .int a__taped, .int a__rules, .ref a_sign, .ref a_length, .ref a_clause, .ref a_clauses, .ref a_read, .int a__next, .int a__wrong, .int a__number, .int a__text, .int a__made, .int a__deep, .int a__lines, .ref a_open, .int a__opened, .ref a_stack, .int a__top, .ref a_word, .ref a_said, .int v41, .ref a_worth, .ref a_mate, .ref a_wasSaid, .int a__undone, .int a__boughtNow, .ref a_wayBy, .ref a_wayThen, .int a__walkMost, .int a__walkGoing, .int a__walkSet, .ref a_kept, .long a__drawX, .ref a_images, .ref a_imageX, .ref a_isMade])), (a_imageX, .inl (cs 0, 4, .inl a_imageX_c)), (a_worth, .inl (cs 0, 4096, .inl a_worth_c)), (a_mate, .inl (cs 0, 4096, .inl a_mate_c))] := hD
      refine lv_aload_n hx hb dX12_back_33 rfl (lv_at hl 0 rfl) ?_
      refine lv_iconst (v := 0) hx hb dX12_back_34 (by decide) ?_
      refine va_put (D := D) (ci := 12) (v := .int 0) (ty := .int) (C := RX12) (T := TX12) (N := 37) hx hb hT i_X12 tyX12 tyX12_ok nmX12 hown hK hP hD hS 4 rfl rfl 25 (by decide) (hT _ q_205) (fun _ h9 => h9) rfl (by decide +kernel) rfl rfl (Nat.le_of_ble_eq_true rfl) dX12_back_35 (fun H locs hP hD hS => ?_)
      have hP : va_P D classes [(a_said, .inl (cs 0, 123, .inl a_said_c)), (a_isMade, .inl (cs 2, 4, .inl a_isMade_c)), (a_images, .inl (cs 0, 492, .inl a_images_c)), (a_wasSaid, .inl (cs 0, 1720, .inl a_wasSaid_c)), (a, .inr (12, [.ref a_tape, .int a__taped, .int a__rules, .ref a_sign, .ref a_length, .ref a_clause, .ref a_clauses, .ref a_read, .int a__next, .int a__wrong, .int a__number, .int a__text, .int a__made, .int a__deep, .int a__lines, .ref a_open, .int a__opened, .ref a_stack, .int a__top, .ref a_word, .ref a_said, .int v41, .ref a_worth, .ref a_mate, .ref a_wasSaid, .int 0, .int a__boughtNow, .ref a_wayBy, .ref a_wayThen, .int a__walkMost, .int a__walkGoing, .int a__walkSet, .ref a_kept, .long a__drawX, .ref a_images, .ref a_imageX, .ref a_isMade])), (a_imageX, .inl (cs 0, 4, .inl a_imageX_c)), (a_worth, .inl (cs 0, 4096, .inl a_worth_c)), (a_mate, .inl (cs 0, 4096, .inl a_mate_c))] H := hP
      have hD : va_D A [(a_said, .inl (cs 0, 123, .inl a_said_c)), (a_isMade, .inl (cs 2, 4, .inl a_isMade_c)), (a_images, .inl (cs 0, 492, .inl a_images_c)), (a_wasSaid, .inl (cs 0, 1720, .inl a_wasSaid_c)), (a, .inr (12, [.ref a_tape, .int a__taped, .int a__rules, .ref a_sign, .ref a_length, .ref a_clause, .ref a_clauses, .ref a_read, .int a__next, .int a__wrong, .int a__number, .int a__text, .int a__made, .int a__deep, .int a__lines, .ref a_open, .int a__opened, .ref a_stack, .int a__top, .ref a_word, .ref a_said, .int v41, .ref a_worth, .ref a_mate, .ref a_wasSaid, .int 0, .int a__boughtNow, .ref a_wayBy, .ref a_wayThen, .int a__walkMost, .int a__walkGoing, .int a__walkSet, .ref a_kept, .long a__drawX, .ref a_images, .ref a_imageX, .ref a_isMade])), (a_imageX, .inl (cs 0, 4, .inl a_imageX_c)), (a_worth, .inl (cs 0, 4096, .inl a_worth_c)), (a_mate, .inl (cs 0, 4096, .inl a_mate_c))] := hD
      refine lv_iconst (v := 0) hx hb dX12_back_38 (by decide) ?_
      refine lv_istore_n (lv' := [(2, .int 0), (0, .ref a), (1, .int p0)]) hx hb dX12_back_39 rfl hl (by decide) rfl (fun ls hl => ?_)
      exact K40 _ ((0 : Int32)) a_said_c v41 (Nat.le_refl _) hv41 (iv_c (by decide)) h36 (cpf_0) ev41 (by omega) H locs (hP.sub (ws' := [(a_said, .inl (cs 0, 123, .inl a_said_c)), (a_isMade, .inl (cs 2, 4, .inl a_isMade_c)), (a_images, .inl (cs 0, 492, .inl a_images_c)), (a_wasSaid, .inl (cs 0, 1720, .inl a_wasSaid_c)), (a, .inr (12, [.ref a_tape, .int a__taped, .int a__rules, .ref a_sign, .ref a_length, .ref a_clause, .ref a_clauses, .ref a_read, .int a__next, .int a__wrong, .int a__number, .int a__text, .int a__made, .int a__deep, .int a__lines, .ref a_open, .int a__opened, .ref a_stack, .int a__top, .ref a_word, .ref a_said, .int v41, .ref a_worth, .ref a_mate, .ref a_wasSaid, .int 0, .int a__boughtNow, .ref a_wayBy, .ref a_wayThen, .int a__walkMost, .int a__walkGoing, .int a__walkSet, .ref a_kept, .long a__drawX, .ref a_images, .ref a_imageX, .ref a_isMade])), (a_imageX, .inl (cs 0, 4, .inl a_imageX_c)), (a_worth, .inl (cs 0, 4096, .inl a_worth_c)), (a_mate, .inl (cs 0, 4096, .inl a_mate_c))]) [0, 1, 2, 3, 4, 5, 6, 7] rfl) (hD.sub (ws' := [(a_said, .inl (cs 0, 123, .inl a_said_c)), (a_isMade, .inl (cs 2, 4, .inl a_isMade_c)), (a_images, .inl (cs 0, 492, .inl a_images_c)), (a_wasSaid, .inl (cs 0, 1720, .inl a_wasSaid_c)), (a, .inr (12, [.ref a_tape, .int a__taped, .int a__rules, .ref a_sign, .ref a_length, .ref a_clause, .ref a_clauses, .ref a_read, .int a__next, .int a__wrong, .int a__number, .int a__text, .int a__made, .int a__deep, .int a__lines, .ref a_open, .int a__opened, .ref a_stack, .int a__top, .ref a_word, .ref a_said, .int v41, .ref a_worth, .ref a_mate, .ref a_wasSaid, .int 0, .int a__boughtNow, .ref a_wayBy, .ref a_wayThen, .int a__walkMost, .int a__walkGoing, .int a__walkSet, .ref a_kept, .long a__drawX, .ref a_images, .ref a_imageX, .ref a_isMade])), (a_imageX, .inl (cs 0, 4, .inl a_imageX_c)), (a_worth, .inl (cs 0, 4096, .inl a_worth_c)), (a_mate, .inl (cs 0, 4096, .inl a_mate_c))]) [0, 1, 2, 3, 4, 5, 6, 7] (by decide) rfl) hS ls (lv_sub hl [0, 1, 2] rfl)
    · have t43 : v38.toInt = 0 := lin_eqN c39 rfl (by decide)
      have h44 : IV 0 0 v38 := iv_eq1 c39 iv_top (iv_c (a := 0) (b := 0) (by decide)) (by decide) (by decide)
      have ii45 : 0 ≤ v38.toInt ∧ v38.toInt ≤ 0 := h44
      refine lv_iconst (v := (-1)) hx hb dX12_back_21 (by decide) ?_
      refine W.widen (k := 0) (n := 0) (Nat.le_of_ble_eq_true rfl) (Nat.le_of_ble_eq_true rfl) ?_
      have g46 : ¬ (0 ≤ p0.toInt ∧ p0.toInt ≤ 3) ∨ (a_isMade_c (Int32.toNatClampNeg p0)).toInt = 0 := (Or.inr (by omega))
      have g47 : a__x = a__x := (rfl)
      exact W.iret (v := (-1)) hx hb hr (fun t ht hW => ⟨⟨(-1), (fun k => match k with | 0 => 0 | 1 => a__x | 2 => a__undone | _ => 0, fun k => match k with | 0 => a_mate_c | 1 => a_said_c | 2 => a_worth_c | _ => fun _ => 0), rfl, (Or.inl (⟨rfl, h_a__x, h_a__undone, h_a_mate_c, hf0, hf1, hf2, hf4, g46, g47⟩)), by rw [ht]; exact hP.sub [0, 1, 2, 3, 4, 5, 6, 7] rfl, hD.sub [0, 1, 2, 3, 4, 5, 6, 7] (by decide) rfl⟩, hS.F ht⟩) hS.2.2 dX12_back_22
