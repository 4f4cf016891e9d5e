theorem dX12_isClubHere_0 : decode cX12_isClubHere 0 = .ok (.aload_n 0, 1) := by decide +kernel
theorem dX12_isClubHere_1 : decode cX12_isClubHere 1 = .ok (.invokevirtual 96, 3) := by decide +kernel
theorem dX12_isClubHere_4 : decode cX12_isClubHere 4 = .ok (.aload_n 0, 1) := by decide +kernel
theorem dX12_isClubHere_5 : decode cX12_isClubHere 5 = .ok (.iconst 0, 1) := by decide +kernel
theorem dX12_isClubHere_6 : decode cX12_isClubHere 6 = .ok (.aload_n 0, 1) := by decide +kernel
theorem dX12_isClubHere_7 : decode cX12_isClubHere 7 = .ok (.getfield 26, 3) := by decide +kernel
theorem dX12_isClubHere_10 : decode cX12_isClubHere 10 = .ok (.iconst 2, 1) := by decide +kernel
theorem dX12_isClubHere_11 : decode cX12_isClubHere 11 = .ok (.iaload, 1) := by decide +kernel
theorem dX12_isClubHere_12 : decode cX12_isClubHere 12 = .ok (.iconst 1, 1) := by decide +kernel
theorem dX12_isClubHere_13 : decode cX12_isClubHere 13 = .ok (.isub, 1) := by decide +kernel
theorem dX12_isClubHere_14 : decode cX12_isClubHere 14 = .ok (.invokevirtual 160, 3) := by decide +kernel
theorem dX12_isClubHere_17 : decode cX12_isClubHere 17 = .ok (.ifCond .ne 5, 3) := by decide +kernel
theorem dX12_isClubHere_20 : decode cX12_isClubHere 20 = .ok (.iconst 0, 1) := by decide +kernel
theorem dX12_isClubHere_21 : decode cX12_isClubHere 21 = .ok (.ireturn, 1) := by decide +kernel
theorem dX12_isClubHere_22 : decode cX12_isClubHere 22 = .ok (.aload_n 0, 1) := by decide +kernel
theorem dX12_isClubHere_23 : decode cX12_isClubHere 23 = .ok (.getfield 106, 3) := by decide +kernel
theorem dX12_isClubHere_26 : decode cX12_isClubHere 26 = .ok (.istore_n 1, 1) := by decide +kernel
theorem dX12_isClubHere_27 : decode cX12_isClubHere 27 = .ok (.aload_n 0, 1) := by decide +kernel
theorem dX12_isClubHere_28 : decode cX12_isClubHere 28 = .ok (.invokevirtual 84, 3) := by decide +kernel
theorem dX12_isClubHere_31 : decode cX12_isClubHere 31 = .ok (.pop, 1) := by decide +kernel
theorem dX12_isClubHere_32 : decode cX12_isClubHere 32 = .ok (.aload_n 0, 1) := by decide +kernel
theorem dX12_isClubHere_33 : decode cX12_isClubHere 33 = .ok (.getfield 81, 3) := by decide +kernel
theorem dX12_isClubHere_36 : decode cX12_isClubHere 36 = .ok (.istore_n 2, 1) := by decide +kernel
theorem dX12_isClubHere_37 : decode cX12_isClubHere 37 = .ok (.aload_n 0, 1) := by decide +kernel
theorem dX12_isClubHere_38 : decode cX12_isClubHere 38 = .ok (.iconst 0, 1) := by decide +kernel
theorem dX12_isClubHere_39 : decode cX12_isClubHere 39 = .ok (.aload_n 0, 1) := by decide +kernel
theorem dX12_isClubHere_40 : decode cX12_isClubHere 40 = .ok (.getfield 26, 3) := by decide +kernel
theorem dX12_isClubHere_43 : decode cX12_isClubHere 43 = .ok (.iconst 2, 1) := by decide +kernel
theorem dX12_isClubHere_44 : decode cX12_isClubHere 44 = .ok (.iaload, 1) := by decide +kernel
theorem dX12_isClubHere_45 : decode cX12_isClubHere 45 = .ok (.iconst 1, 1) := by decide +kernel
theorem dX12_isClubHere_46 : decode cX12_isClubHere 46 = .ok (.isub, 1) := by decide +kernel
theorem dX12_isClubHere_47 : decode cX12_isClubHere 47 = .ok (.invokevirtual 160, 3) := by decide +kernel
theorem dX12_isClubHere_50 : decode cX12_isClubHere 50 = .ok (.ifCond .ne 5, 3) := by decide +kernel
theorem dX12_isClubHere_53 : decode cX12_isClubHere 53 = .ok (.iconst 0, 1) := by decide +kernel
theorem dX12_isClubHere_54 : decode cX12_isClubHere 54 = .ok (.ireturn, 1) := by decide +kernel
theorem dX12_isClubHere_55 : decode cX12_isClubHere 55 = .ok (.aload_n 0, 1) := by decide +kernel
theorem dX12_isClubHere_56 : decode cX12_isClubHere 56 = .ok (.getfield 106, 3) := by decide +kernel
theorem dX12_isClubHere_59 : decode cX12_isClubHere 59 = .ok (.iload_n 1, 1) := by decide +kernel
theorem dX12_isClubHere_60 : decode cX12_isClubHere 60 = .ok (.if_icmp .ne 10, 3) := by decide +kernel
theorem dX12_isClubHere_63 : decode cX12_isClubHere 63 = .ok (.aload_n 0, 1) := by decide +kernel
theorem dX12_isClubHere_64 : decode cX12_isClubHere 64 = .ok (.iconst 1, 1) := by decide +kernel
theorem dX12_isClubHere_65 : decode cX12_isClubHere 65 = .ok (.iload_n 2, 1) := by decide +kernel
theorem dX12_isClubHere_66 : decode cX12_isClubHere 66 = .ok (.invokevirtual 102, 3) := by decide +kernel
theorem dX12_isClubHere_69 : decode cX12_isClubHere 69 = .ok (.ireturn, 1) := by decide +kernel
theorem dX12_isClubHere_70 : decode cX12_isClubHere 70 = .ok (.aload_n 0, 1) := by decide +kernel
theorem dX12_isClubHere_71 : decode cX12_isClubHere 71 = .ok (.getfield 26, 3) := by decide +kernel
theorem dX12_isClubHere_74 : decode cX12_isClubHere 74 = .ok (.bipush 70, 2) := by decide +kernel
theorem dX12_isClubHere_76 : decode cX12_isClubHere 76 = .ok (.iconst 4, 1) := by decide +kernel
theorem dX12_isClubHere_77 : decode cX12_isClubHere 77 = .ok (.iload_n 1, 1) := by decide +kernel
theorem dX12_isClubHere_78 : decode cX12_isClubHere 78 = .ok (.imul, 1) := by decide +kernel
theorem dX12_isClubHere_79 : decode cX12_isClubHere 79 = .ok (.iadd, 1) := by decide +kernel
theorem dX12_isClubHere_80 : decode cX12_isClubHere 80 = .ok (.iconst 3, 1) := by decide +kernel
theorem dX12_isClubHere_81 : decode cX12_isClubHere 81 = .ok (.iadd, 1) := by decide +kernel
theorem dX12_isClubHere_82 : decode cX12_isClubHere 82 = .ok (.iaload, 1) := by decide +kernel
theorem dX12_isClubHere_83 : decode cX12_isClubHere 83 = .ok (.aload_n 0, 1) := by decide +kernel
theorem dX12_isClubHere_84 : decode cX12_isClubHere 84 = .ok (.getfield 26, 3) := by decide +kernel
theorem dX12_isClubHere_87 : decode cX12_isClubHere 87 = .ok (.bipush 70, 2) := by decide +kernel
theorem dX12_isClubHere_89 : decode cX12_isClubHere 89 = .ok (.iconst 4, 1) := by decide +kernel
theorem dX12_isClubHere_90 : decode cX12_isClubHere 90 = .ok (.aload_n 0, 1) := by decide +kernel
theorem dX12_isClubHere_91 : decode cX12_isClubHere 91 = .ok (.getfield 106, 3) := by decide +kernel
theorem dX12_isClubHere_94 : decode cX12_isClubHere 94 = .ok (.imul, 1) := by decide +kernel
theorem dX12_isClubHere_95 : decode cX12_isClubHere 95 = .ok (.iadd, 1) := by decide +kernel
theorem dX12_isClubHere_96 : decode cX12_isClubHere 96 = .ok (.iconst 3, 1) := by decide +kernel
theorem dX12_isClubHere_97 : decode cX12_isClubHere 97 = .ok (.iadd, 1) := by decide +kernel
theorem dX12_isClubHere_98 : decode cX12_isClubHere 98 = .ok (.iaload, 1) := by decide +kernel
theorem dX12_isClubHere_99 : decode cX12_isClubHere 99 = .ok (.ior, 1) := by decide +kernel
theorem dX12_isClubHere_100 : decode cX12_isClubHere 100 = .ok (.istore_n 3, 1) := by decide +kernel
theorem dX12_isClubHere_101 : decode cX12_isClubHere 101 = .ok (.iconst 0, 1) := by decide +kernel
theorem dX12_isClubHere_102 : decode cX12_isClubHere 102 = .ok (.istore 4, 2) := by decide +kernel
theorem dX12_isClubHere_104 : decode cX12_isClubHere 104 = .ok (.iload 4, 2) := by decide +kernel
theorem dX12_isClubHere_106 : decode cX12_isClubHere 106 = .ok (.aload_n 0, 1) := by decide +kernel
theorem dX12_isClubHere_107 : decode cX12_isClubHere 107 = .ok (.getfield 26, 3) := by decide +kernel
theorem dX12_isClubHere_110 : decode cX12_isClubHere 110 = .ok (.iconst 2, 1) := by decide +kernel
theorem dX12_isClubHere_111 : decode cX12_isClubHere 111 = .ok (.iaload, 1) := by decide +kernel
theorem dX12_isClubHere_112 : decode cX12_isClubHere 112 = .ok (.if_icmp .ge 33, 3) := by decide +kernel
theorem dX12_isClubHere_115 : decode cX12_isClubHere 115 = .ok (.iload_n 3, 1) := by decide +kernel
theorem dX12_isClubHere_116 : decode cX12_isClubHere 116 = .ok (.iload 4, 2) := by decide +kernel
theorem dX12_isClubHere_118 : decode cX12_isClubHere 118 = .ok (.invokestatic 215, 3) := by decide +kernel
theorem dX12_isClubHere_121 : decode cX12_isClubHere 121 = .ok (.ifCond .eq 18, 3) := by decide +kernel
theorem dX12_isClubHere_124 : decode cX12_isClubHere 124 = .ok (.aload_n 0, 1) := by decide +kernel
theorem dX12_isClubHere_125 : decode cX12_isClubHere 125 = .ok (.getfield 26, 3) := by decide +kernel
theorem dX12_isClubHere_128 : decode cX12_isClubHere 128 = .ok (.bipush 70, 2) := by decide +kernel
theorem dX12_isClubHere_130 : decode cX12_isClubHere 130 = .ok (.iconst 4, 1) := by decide +kernel
theorem dX12_isClubHere_131 : decode cX12_isClubHere 131 = .ok (.iload 4, 2) := by decide +kernel
theorem dX12_isClubHere_133 : decode cX12_isClubHere 133 = .ok (.imul, 1) := by decide +kernel
theorem dX12_isClubHere_134 : decode cX12_isClubHere 134 = .ok (.iadd, 1) := by decide +kernel
theorem dX12_isClubHere_135 : decode cX12_isClubHere 135 = .ok (.iconst 3, 1) := by decide +kernel
theorem dX12_isClubHere_136 : decode cX12_isClubHere 136 = .ok (.iadd, 1) := by decide +kernel
theorem dX12_isClubHere_137 : decode cX12_isClubHere 137 = .ok (.iload_n 3, 1) := by decide +kernel
theorem dX12_isClubHere_138 : decode cX12_isClubHere 138 = .ok (.iastore, 1) := by decide +kernel
theorem dX12_isClubHere_139 : decode cX12_isClubHere 139 = .ok (.iinc 4 1, 3) := by decide +kernel
theorem dX12_isClubHere_142 : decode cX12_isClubHere 142 = .ok (.goto (-38), 3) := by decide +kernel
theorem dX12_isClubHere_145 : decode cX12_isClubHere 145 = .ok (.iconst 1, 1) := by decide +kernel
theorem dX12_isClubHere_146 : decode cX12_isClubHere 146 = .ok (.ireturn, 1) := by decide +kernel
set_option maxHeartbeats 4000000 in
set_option maxRecDepth 100000 in
theorem c_X12_isClubHere (l : Launch) (D : va_G) (cs : Nat → ClassId) (kK kV : Nat → Nat) (a : Nat) (a_read : Nat) (a_read_c : Nat → Int32) (a_tape : Nat) (a__taped : Int32) (a__rules : Int32) (a_sign : Nat) (a_length : Nat) (a_clause : Nat) (a_clauses : Nat) (a__next : Int32) (a__wrong : Int32) (a__number : Int32) (a__text : Int32) (a__made : Int32) (a__deep : Int32) (a__lines : Int32) (a_open : Nat) (a__opened : Int32) (a_stack : Nat) (a__top : Int32) (a_word : Nat) (a_said : Nat) (a__x : Int32) (a_worth : Nat) (a_mate : Nat) (a_wasSaid : Nat) (a__undone : Int32) (a__boughtNow : Int32) (a_wayBy : Nat) (a_wayThen : Nat) (a__walkMost : Int32) (a__walkGoing : Int32) (a__walkSet : Int32) (a_kept : Nat) (a__drawX : Int64) (a_images : Nat) (a_imageX : Nat) (a_isMade : Nat) (a_tape_c : Nat → Int32) (h_a__taped : IV 0 400 a__taped) (h_a__rules : IV 0 6 a__rules) (h_a__next : IV 0 400 a__next) (h_a__text : IV 0 6 a__text) (h_a__made : IV 0 60 a__made) (h_a__lines : IV 0 40 a__lines) (h_a__opened : IV 0 400 a__opened) (h_a__top : IV 0 64 a__top) (h_a__x : IV 0 2147483647 a__x) (h_a__undone : IV 0 20 a__undone) (hf0 : BS a_read_c 0) (sz : Nat) : Met l yX12_isClubHere (hz_w yX12_isClubHere cX12_isClubHere 5 (some .boolean)) ({ frames := 2, cells := 0, slots := 0, locals := 49 }) (va_Pc [.ref a] (hz_C D cs kK kV sz [(a_read, .inl (cs 0, 86, .inl a_read_c)), (a, .inr (12, [.ref a_tape, .int a__taped, .int a__rules, .ref a_sign, .ref a_length, .ref a_clause, .ref a_clauses, .ref a_read, .int a__next, .int a__wrong, .int a__number, .int a__text, .int a__made, .int a__deep, .int a__lines, .ref a_open, .int a__opened, .ref a_stack, .int a__top, .ref a_word, .ref a_said, .int a__x, .ref a_worth, .ref a_mate, .ref a_wasSaid, .int a__undone, .int a__boughtNow, .ref a_wayBy, .ref a_wayThen, .int a__walkMost, .int a__walkGoing, .int a__walkSet, .ref a_kept, .long a__drawX, .ref a_images, .ref a_imageX, .ref a_isMade])), (a_tape, .inl (cs 1, 400, .inl a_tape_c))])) (va_Qi (fun (r : Int32) (u : (Nat → Int32) × (Nat → Nat → Int32)) => (r = 0 ∧ IV 0 400 (u.1 2) ∧ (a__next.toInt ≤ (u.1 2).toInt) ∧ (BS (u.2 0) 0) ∧ ((u.1 3).toInt ≠ 0)) ∨ (r = 1 ∧ IV 1 400 a__taped ∧ IV 0 3 (u.1 1) ∧ IV 0 400 (u.1 2) ∧ (a__next.toInt ≤ (u.1 2).toInt) ∧ (BS (u.2 0) 0))) (fun u t => va_P D classes [(a_read, .inl (cs 0, 86, .inl (u.2 0))), (a, .inr (12, [.ref a_tape, .int a__taped, .int a__rules, .ref a_sign, .ref a_length, .ref a_clause, .ref a_clauses, .ref a_read, .int (u.1 2), .int (u.1 3), .int (u.1 1), .int a__text, .int a__made, .int a__deep, .int a__lines, .ref a_open, .int a__opened, .ref a_stack, .int a__top, .ref a_word, .ref a_said, .int a__x, .ref a_worth, .ref a_mate, .ref a_wasSaid, .int a__undone, .int a__boughtNow, .ref a_wayBy, .ref a_wayThen, .int a__walkMost, .int a__walkGoing, .int a__walkSet, .ref a_kept, .long a__drawX, .ref a_images, .ref a_imageX, .ref a_isMade])), (a_tape, .inl (cs 1, 400, .inl a_tape_c))] t.heap ∧ va_D (va_A [(a_read, .inl (cs 0, 86, .inl a_read_c)), (a, .inr (12, [.ref a_tape, .int a__taped, .int a__rules, .ref a_sign, .ref a_length, .ref a_clause, .ref a_clauses, .ref a_read, .int a__next, .int a__wrong, .int a__number, .int a__text, .int a__made, .int a__deep, .int a__lines, .ref a_open, .int a__opened, .ref a_stack, .int a__top, .ref a_word, .ref a_said, .int a__x, .ref a_worth, .ref a_mate, .ref a_wasSaid, .int a__undone, .int a__boughtNow, .ref a_wayBy, .ref a_wayThen, .int a__walkMost, .int a__walkGoing, .int a__walkSet, .ref a_kept, .long a__drawX, .ref a_images, .ref a_imageX, .ref a_isMade])), (a_tape, .inl (cs 1, 400, .inl a_tape_c))] sz) [(a_read, .inl (cs 0, 86, .inl (u.2 0))), (a, .inr (12, [.ref a_tape, .int a__taped, .int a__rules, .ref a_sign, .ref a_length, .ref a_clause, .ref a_clauses, .ref a_read, .int (u.1 2), .int (u.1 3), .int (u.1 1), .int a__text, .int a__made, .int a__deep, .int a__lines, .ref a_open, .int a__opened, .ref a_stack, .int a__top, .ref a_word, .ref a_said, .int a__x, .ref a_worth, .ref a_mate, .ref a_wasSaid, .int a__undone, .int a__boughtNow, .ref a_wayBy, .ref a_wayThen, .int a__walkMost, .int a__walkGoing, .int a__walkSet, .ref a_kept, .long a__drawX, .ref a_images, .ref a_imageX, .ref a_isMade])), (a_tape, .inl (cs 1, 400, .inl a_tape_c))]) (va_A [(a_read, .inl (cs 0, 86, .inl a_read_c)), (a, .inr (12, [.ref a_tape, .int a__taped, .int a__rules, .ref a_sign, .ref a_length, .ref a_clause, .ref a_clauses, .ref a_read, .int a__next, .int a__wrong, .int a__number, .int a__text, .int a__made, .int a__deep, .int a__lines, .ref a_open, .int a__opened, .ref a_stack, .int a__top, .ref a_word, .ref a_said, .int a__x, .ref a_worth, .ref a_mate, .ref a_wasSaid, .int a__undone, .int a__boughtNow, .ref a_wayBy, .ref a_wayThen, .int a__walkMost, .int a__walkGoing, .int a__walkSet, .ref a_kept, .long a__drawX, .ref a_images, .ref a_imageX, .ref a_isMade])), (a_tape, .inl (cs 1, 400, .inl a_tape_c))] sz)) 0 0 (va_A [(a_read, .inl (cs 0, 86, .inl a_read_c)), (a, .inr (12, [.ref a_tape, .int a__taped, .int a__rules, .ref a_sign, .ref a_length, .ref a_clause, .ref a_clauses, .ref a_read, .int a__next, .int a__wrong, .int a__number, .int a__text, .int a__made, .int a__deep, .int a__lines, .ref a_open, .int a__opened, .ref a_stack, .int a__top, .ref a_word, .ref a_said, .int a__x, .ref a_worth, .ref a_mate, .ref a_wasSaid, .int a__undone, .int a__boughtNow, .ref a_wayBy, .ref a_wayThen, .int a__walkMost, .int a__walkGoing, .int a__walkSet, .ref a_kept, .long a__drawX, .ref a_images, .ref a_imageX, .ref a_isMade])), (a_tape, .inl (cs 1, 400, .inl a_tape_c))] sz) := by
  refine Met.ofW (cc := cX12_isClubHere) (maxL := 5) (ret := (some .boolean)) (by decide) rfl ?_
  intro p e s m args below meth c s₁ B hml hv
  obtain ⟨rfl, hsz, hP, hD0, hE⟩ := hv
  have hx := B.exec
  have hb := B.bytes
  have hr := B.returns
  have hT : ∀ w ∈ TB, w.before _ s = true := fun w h => atoms_spec (ws := hz_w yX12_isClubHere cX12_isClubHere 5 (some .boolean)) B.pre w (List.mem_cons_of_mem _ h)
  have hown : s.vm.findClass RX12 = some m.cls := findClass_of_methodNamed B.named
  have hlocks := B.notSynchronized
  clear B
  subst hsz
  have hD := hD0.self (sz := s.heap.size)
  generalize hAe : va_A [(a_read, .inl (cs 0, 86, .inl a_read_c)), (a, .inr (12, [.ref a_tape, .int a__taped, .int a__rules, .ref a_sign, .ref a_length, .ref a_clause, .ref a_clauses, .ref a_read, .int a__next, .int a__wrong, .int a__number, .int a__text, .int a__made, .int a__deep, .int a__lines, .ref a_open, .int a__opened, .ref a_stack, .int a__top, .ref a_word, .ref a_said, .int a__x, .ref a_worth, .ref a_mate, .ref a_wasSaid, .int a__undone, .int a__boughtNow, .ref a_wayBy, .ref a_wayThen, .int a__walkMost, .int a__walkGoing, .int a__walkSet, .ref a_kept, .long a__drawX, .ref a_images, .ref a_imageX, .ref a_isMade])), (a_tape, .inl (cs 1, 400, .inl a_tape_c))] s.heap.size = A at hD hE ⊢
  have hA : ∀ q : Nat, s.heap.size ≤ q → A q := fun q h => by rw [← hAe]; exact Or.inr h
  clear hAe hD0
  have hS : va_S A s.heap s.heap [] := va_S.rf
  have hK := hE.1
  have hl := lv_entry ([.ref a]) (n := 5) (Nat.le_of_ble_eq_true rfl)
  rw [lg_entry_eq]
  generalize (lg_sl ([.ref a]) ++ List.replicate (5 - (lg_sl ([.ref a])).length) Slot.unset).toArray = ls at hl ⊢
  have hl : lv_has ls 5 [(0, .ref a)] := hl
  obtain ⟨H, eH⟩ : ∃ z, z = s.heap := ⟨_, rfl⟩
  have hP : va_P D classes [(a_read, .inl (cs 0, 86, .inl a_read_c)), (a, .inr (12, [.ref a_tape, .int a__taped, .int a__rules, .ref a_sign, .ref a_length, .ref a_clause, .ref a_clauses, .ref a_read, .int a__next, .int a__wrong, .int a__number, .int a__text, .int a__made, .int a__deep, .int a__lines, .ref a_open, .int a__opened, .ref a_stack, .int a__top, .ref a_word, .ref a_said, .int a__x, .ref a_worth, .ref a_mate, .ref a_wasSaid, .int a__undone, .int a__boughtNow, .ref a_wayBy, .ref a_wayThen, .int a__walkMost, .int a__walkGoing, .int a__walkSet, .ref a_kept, .long a__drawX, .ref a_images, .ref a_imageX, .ref a_isMade])), (a_tape, .inl (cs 1, 400, .inl a_tape_c))] H := by rw [eH]; exact hP
  have hS : va_S A s.heap H [] := by rw [eH]; exact hS
  rw [← eH]
  clear eH
  obtain ⟨locs, el⟩ : ∃ z : List Loc, z = [] := ⟨_, rfl⟩
  rw [← el] at hS ⊢
  clear el
  have z0 : (0 : Int32).toInt = 0 := by decide
  have z1 : (1 : Int32).toInt = 1 := by decide
  have zm1 : (-1 : Int32).toInt = -1 := by decide
  have i_a__lines : 0 ≤ a__lines.toInt ∧ a__lines.toInt ≤ 40 := h_a__lines
  have i_a__made : 0 ≤ a__made.toInt ∧ a__made.toInt ≤ 60 := h_a__made
  have i_a__next : 0 ≤ a__next.toInt ∧ a__next.toInt ≤ 400 := h_a__next
  have i_a__opened : 0 ≤ a__opened.toInt ∧ a__opened.toInt ≤ 400 := h_a__opened
  have i_a__rules : 0 ≤ a__rules.toInt ∧ a__rules.toInt ≤ 6 := h_a__rules
  have i_a__taped : 0 ≤ a__taped.toInt ∧ a__taped.toInt ≤ 400 := h_a__taped
  have i_a__text : 0 ≤ a__text.toInt ∧ a__text.toInt ≤ 6 := h_a__text
  have i_a__top : 0 ≤ a__top.toInt ∧ a__top.toInt ≤ 64 := h_a__top
  have i_a__undone : 0 ≤ a__undone.toInt ∧ a__undone.toInt ≤ 20 := h_a__undone
  have i_a__x : 0 ≤ a__x.toInt ∧ a__x.toInt ≤ 2147483647 := h_a__x
  have K104 : ∀ (n : Nat) (k104_L_4 : Int32) (k104_L_3 : Int32) (k104_L_2 : Int32) (k104_L_1 : Int32) (k104_C_a_read : Nat → Int32) (k104_F_a_8 : Int32) (k104_F_a_9 : Int32) (k104_F_a_10 : Int32), (5 - k104_L_4.toInt).toNat ≤ n → IV 1 400 a__taped → IV 0 3 k104_F_a_10 → IV 0 400 k104_F_a_8 → IV 0 3 k104_L_1 → IV 0 400 k104_L_2 → IV 0 4 k104_L_4 → (BS k104_C_a_read 0) → (a__next.toInt ≤ k104_F_a_8.toInt) → ∀ (H : Heap) (locs : List Loc), va_P D classes [(a_read, .inl (cs 0, 86, .inl k104_C_a_read)), (a, .inr (12, [.ref a_tape, .int a__taped, .int a__rules, .ref a_sign, .ref a_length, .ref a_clause, .ref a_clauses, .ref a_read, .int k104_F_a_8, .int k104_F_a_9, .int k104_F_a_10, .int a__text, .int a__made, .int a__deep, .int a__lines, .ref a_open, .int a__opened, .ref a_stack, .int a__top, .ref a_word, .ref a_said, .int a__x, .ref a_worth, .ref a_mate, .ref a_wasSaid, .int a__undone, .int a__boughtNow, .ref a_wayBy, .ref a_wayThen, .int a__walkMost, .int a__walkGoing, .int a__walkSet, .ref a_kept, .long a__drawX, .ref a_images, .ref a_imageX, .ref a_isMade])), (a_tape, .inl (cs 1, 400, .inl a_tape_c))] H → va_D A [(a_read, .inl (cs 0, 86, .inl k104_C_a_read)), (a, .inr (12, [.ref a_tape, .int a__taped, .int a__rules, .ref a_sign, .ref a_length, .ref a_clause, .ref a_clauses, .ref a_read, .int k104_F_a_8, .int k104_F_a_9, .int k104_F_a_10, .int a__text, .int a__made, .int a__deep, .int a__lines, .ref a_open, .int a__opened, .ref a_stack, .int a__top, .ref a_word, .ref a_said, .int a__x, .ref a_worth, .ref a_mate, .ref a_wasSaid, .int a__undone, .int a__boughtNow, .ref a_wayBy, .ref a_wayThen, .int a__walkMost, .int a__walkGoing, .int a__walkSet, .ref a_kept, .long a__drawX, .ref a_images, .ref a_imageX, .ref a_isMade])), (a_tape, .inl (cs 1, 400, .inl a_tape_c))] → va_S A s.heap H locs → ∀ ls : Array Slot, lv_has ls 5 [(4, .int k104_L_4), (3, .int k104_L_3), (2, .int k104_L_2), (1, .int k104_L_1), (0, .ref a)] → W p l e (headSpec (hz_w yX12_isClubHere cX12_isClubHere 5 (some .boolean)) ({ frames := 2, cells := 0, slots := 0, locals := 49 })).room s m [.ref a].toArray below meth c H locs 0 0 (MQ below (va_Qi (fun (r : Int32) (u : (Nat → Int32) × (Nat → Nat → Int32)) => (r = 0 ∧ IV 0 400 (u.1 2) ∧ (a__next.toInt ≤ (u.1 2).toInt) ∧ (BS (u.2 0) 0) ∧ ((u.1 3).toInt ≠ 0)) ∨ (r = 1 ∧ IV 1 400 a__taped ∧ IV 0 3 (u.1 1) ∧ IV 0 400 (u.1 2) ∧ (a__next.toInt ≤ (u.1 2).toInt) ∧ (BS (u.2 0) 0))) (fun u t => va_P D classes [(a_read, .inl (cs 0, 86, .inl (u.2 0))), (a, .inr (12, [.ref a_tape, .int a__taped, .int a__rules, .ref a_sign, .ref a_length, .ref a_clause, .ref a_clauses, .ref a_read, .int (u.1 2), .int (u.1 3), .int (u.1 1), .int a__text, .int a__made, .int a__deep, .int a__lines, .ref a_open, .int a__opened, .ref a_stack, .int a__top, .ref a_word, .ref a_said, .int a__x, .ref a_worth, .ref a_mate, .ref a_wasSaid, .int a__undone, .int a__boughtNow, .ref a_wayBy, .ref a_wayThen, .int a__walkMost, .int a__walkGoing, .int a__walkSet, .ref a_kept, .long a__drawX, .ref a_images, .ref a_imageX, .ref a_isMade])), (a_tape, .inl (cs 1, 400, .inl a_tape_c))] t.heap ∧ va_D A [(a_read, .inl (cs 0, 86, .inl (u.2 0))), (a, .inr (12, [.ref a_tape, .int a__taped, .int a__rules, .ref a_sign, .ref a_length, .ref a_clause, .ref a_clauses, .ref a_read, .int (u.1 2), .int (u.1 3), .int (u.1 1), .int a__text, .int a__made, .int a__deep, .int a__lines, .ref a_open, .int a__opened, .ref a_stack, .int a__top, .ref a_word, .ref a_said, .int a__x, .ref a_worth, .ref a_mate, .ref a_wasSaid, .int a__undone, .int a__boughtNow, .ref a_wayBy, .ref a_wayThen, .int a__walkMost, .int a__walkGoing, .int a__walkSet, .ref a_kept, .long a__drawX, .ref a_images, .ref a_imageX, .ref a_isMade])), (a_tape, .inl (cs 1, 400, .inl a_tape_c))]) A) [.ref a].toArray s 0 0 A) (F0 m 104 ls []) := by
    intro n
    induction n with
    | zero =>
      intro k104_L_4 k104_L_3 k104_L_2 k104_L_1 k104_C_a_read k104_F_a_8 k104_F_a_9 k104_F_a_10 hn q104_4 q104_9 q104_10 q104_11 q104_12 q104_13 x104_0 x104_1 H locs hP hD hS ls hl
      have i_a__lines : 0 ≤ a__lines.toInt ∧ a__lines.toInt ≤ 40 := h_a__lines
      have i_a__made : 0 ≤ a__made.toInt ∧ a__made.toInt ≤ 60 := h_a__made
      have i_a__opened : 0 ≤ a__opened.toInt ∧ a__opened.toInt ≤ 400 := h_a__opened
      have i_a__rules : 0 ≤ a__rules.toInt ∧ a__rules.toInt ≤ 6 := h_a__rules
      have i_a__taped : 1 ≤ a__taped.toInt ∧ a__taped.toInt ≤ 400 := q104_4
      have i_a__text : 0 ≤ a__text.toInt ∧ a__text.toInt ≤ 6 := h_a__text
      have i_a__top : 0 ≤ a__top.toInt ∧ a__top.toInt ≤ 64 := h_a__top
      have i_a__undone : 0 ≤ a__undone.toInt ∧ a__undone.toInt ≤ 20 := h_a__undone
      have i_a__x : 0 ≤ a__x.toInt ∧ a__x.toInt ≤ 2147483647 := h_a__x
      have i_k104_F_a_10 : 0 ≤ k104_F_a_10.toInt ∧ k104_F_a_10.toInt ≤ 3 := q104_9
      have i_k104_F_a_8 : 0 ≤ k104_F_a_8.toInt ∧ k104_F_a_8.toInt ≤ 400 := q104_10
      have i_k104_L_1 : 0 ≤ k104_L_1.toInt ∧ k104_L_1.toInt ≤ 3 := q104_11
      have i_k104_L_2 : 0 ≤ k104_L_2.toInt ∧ k104_L_2.toInt ≤ 400 := q104_12
      have i_k104_L_4 : 0 ≤ k104_L_4.toInt ∧ k104_L_4.toInt ≤ 4 := q104_13
      exact absurd hn (by omega)
    | succ n ih104 =>
      intro k104_L_4 k104_L_3 k104_L_2 k104_L_1 k104_C_a_read k104_F_a_8 k104_F_a_9 k104_F_a_10 hn q104_4 q104_9 q104_10 q104_11 q104_12 q104_13 x104_0 x104_1 H locs hP hD hS ls hl
      have i_a__lines : 0 ≤ a__lines.toInt ∧ a__lines.toInt ≤ 40 := h_a__lines
      have i_a__made : 0 ≤ a__made.toInt ∧ a__made.toInt ≤ 60 := h_a__made
      have i_a__opened : 0 ≤ a__opened.toInt ∧ a__opened.toInt ≤ 400 := h_a__opened
      have i_a__rules : 0 ≤ a__rules.toInt ∧ a__rules.toInt ≤ 6 := h_a__rules
      have i_a__taped : 1 ≤ a__taped.toInt ∧ a__taped.toInt ≤ 400 := q104_4
      have i_a__text : 0 ≤ a__text.toInt ∧ a__text.toInt ≤ 6 := h_a__text
      have i_a__top : 0 ≤ a__top.toInt ∧ a__top.toInt ≤ 64 := h_a__top
      have i_a__undone : 0 ≤ a__undone.toInt ∧ a__undone.toInt ≤ 20 := h_a__undone
      have i_a__x : 0 ≤ a__x.toInt ∧ a__x.toInt ≤ 2147483647 := h_a__x
      have i_k104_F_a_10 : 0 ≤ k104_F_a_10.toInt ∧ k104_F_a_10.toInt ≤ 3 := q104_9
      have i_k104_F_a_8 : 0 ≤ k104_F_a_8.toInt ∧ k104_F_a_8.toInt ≤ 400 := q104_10
      have i_k104_L_1 : 0 ≤ k104_L_1.toInt ∧ k104_L_1.toInt ≤ 3 := q104_11
      have i_k104_L_2 : 0 ≤ k104_L_2.toInt ∧ k104_L_2.toInt ≤ 400 := q104_12
      have i_k104_L_4 : 0 ≤ k104_L_4.toInt ∧ k104_L_4.toInt ≤ 4 := q104_13
      refine lv_iload hx hb dX12_isClubHere_104 (lv_at hl 0 rfl) ?_
      refine lv_aload_n hx hb dX12_isClubHere_106 rfl (lv_at hl 4 rfl) ?_
      refine va_get (D := D) (ci := 12) (v := .ref a_read) (C := RX12) (T := TX12) (N := 37) hx hb hT i_X12 hown hK hP 1 rfl rfl 7 (by decide) (hT _ q_181) (fun _ h9 => h9) rfl dX12_isClubHere_107 ?_
      refine lv_iconst (v := 2) hx hb dX12_isClubHere_110 (by decide) ?_
      refine va_iald hx hb hK hP 0 0 rfl rfl (iv_vc (by decide)) dX12_isClubHere_111 ?_
      refine lv_topi (fun v1 ev1 => ?_)
      have h2 : IV 0 4 v1 := (by rw [ev1]; exact bs_i2 x104_0)
      have ii3 : 0 ≤ v1.toInt ∧ v1.toInt ≤ 4 := h2
      have lv1 : v1.toInt = (k104_C_a_read 2).toInt := by rw [ev1]; rfl
      refine lv_icmp_ge (tgt := 145) hx hb dX12_isClubHere_112 (by decide) (fun c4 => ?_) (fun c4 => ?_)
      · have t5 : k104_L_4.toInt ≥ v1.toInt := lin_ge c4 rfl rfl
        refine lv_iconst (v := 1) hx hb dX12_isClubHere_145 (by decide) ?_
        refine W.widen (k := 0) (n := 0) (Nat.le_of_ble_eq_true rfl) (Nat.le_of_ble_eq_true rfl) ?_
        exact W.zret (v := 1) hx hb hr rfl (fun t ht hW => ⟨⟨1, (fun k => match k with | 0 => 0 | 1 => k104_F_a_10 | 2 => k104_F_a_8 | 3 => k104_F_a_9 | _ => 0, fun k => match k with | 0 => k104_C_a_read | _ => fun _ => 0), rfl, (Or.inr ((⟨rfl, q104_4, q104_9, q104_10, x104_1, x104_0⟩))), by rw [ht]; exact hP.sub [0, 1, 2] rfl, hD.sub [0, 1, 2] (by decide) rfl⟩, hS.F ht⟩) hS.2.2 dX12_isClubHere_146
      · have t6 : k104_L_4.toInt < v1.toInt := lin_geN c4 rfl rfl
        have h7 : IV 0 3 k104_L_4 := iv_lt1 (Int32.not_le.mp c4) q104_13 h2 (by decide)
        have ii8 : 0 ≤ k104_L_4.toInt ∧ k104_L_4.toInt ≤ 3 := h7
        have h9 : IV 1 4 v1 := iv_lt2 (Int32.not_le.mp c4) q104_13 h2 (by decide)
        have ii10 : 1 ≤ v1.toInt ∧ v1.toInt ≤ 4 := h9
        refine lv_iload_n hx hb dX12_isClubHere_115 rfl (lv_at hl 1 rfl) ?_
        refine lv_iload hx hb dX12_isClubHere_116 (lv_at hl 0 rfl) ?_
        refine va_calli (va_runS (As := [.int k104_L_3, .int k104_L_4]) (rest := []) ⟨hx, hb, hml, hown, hT⟩ (c_X12_isOf l D cs kK kV k104_L_3 k104_L_4) (va_cwS 2 hT (hz_gS q_1034 q_1035 q_701 q_1036) rfl rfl rfl (by decide +kernel) ⟨(Nat.le_of_ble_eq_true rfl), (Nat.le_of_ble_eq_true rfl)⟩) ⟨hz_P.blind, hz_P.mk (hP.sub (ws' := []) [] rfl) hE hS⟩ rfl rfl hl.1 rfl (lv_room (Nat.le_of_ble_eq_true rfl)) dX12_isClubHere_118 ⟨(Nat.le_of_ble_eq_true rfl), (Nat.le_of_ble_eq_true rfl)⟩) hS (fun _ _ h => h.elim) (fun _ h => h.elim) (fun r11 u t H1 locs ht hvm hw hB hz1 hk1 hS => ?_)
        have hP := hz_keep hP hk1
        clear hk1 hB hz1
        generalize H1 = H at hP hS ⊢
        rcases hw with ⟨rfl, x12⟩ | ⟨rfl, x13⟩
        · refine lv_if_eq (tgt := 139) hx hb dX12_isClubHere_121 (by decide) (fun _ => ?_) (fun z => absurd (by decide) z)
          obtain ⟨v14, ev14⟩ : ∃ z : Int32, z = k104_L_4 + 1 := ⟨_, rfl⟩
          have hv14 : IV 1 4 v14 := iv_add ev14 h7 (iv_c (a := 1) (b := 1) (by decide)) (by decide) (by decide)
          have dv14 : v14.toInt = k104_L_4.toInt + 1 := iv_addE ev14 h7 (iv_c (a := 1) (b := 1) (by decide)) (by decide) (by decide) (by decide)
          refine lv_iinc (v := v14) (lv' := [(4, .int v14), (3, .int k104_L_3), (2, .int k104_L_2), (1, .int k104_L_1), (0, .ref a)]) hx hb dX12_isClubHere_139 hl (k := 0) rfl (by rw [ev14]; rfl) (by decide) rfl (fun ls hl => ?_)
          refine lv_goto (tgt := 104) hx hb dX12_isClubHere_142 (by decide) ?_
          exact ih104 v14 k104_L_3 k104_L_2 k104_L_1 k104_C_a_read k104_F_a_8 k104_F_a_9 k104_F_a_10 (by have h9 := hn; omega) q104_4 q104_9 q104_10 q104_11 q104_12 (iv_w hv14 (by decide) (by decide)) x104_0 x104_1 H locs (hP.sub (ws' := [(a_read, .inl (cs 0, 86, .inl k104_C_a_read)), (a, .inr (12, [.ref a_tape, .int a__taped, .int a__rules, .ref a_sign, .ref a_length, .ref a_clause, .ref a_clauses, .ref a_read, .int k104_F_a_8, .int k104_F_a_9, .int k104_F_a_10, .int a__text, .int a__made, .int a__deep, .int a__lines, .ref a_open, .int a__opened, .ref a_stack, .int a__top, .ref a_word, .ref a_said, .int a__x, .ref a_worth, .ref a_mate, .ref a_wasSaid, .int a__undone, .int a__boughtNow, .ref a_wayBy, .ref a_wayThen, .int a__walkMost, .int a__walkGoing, .int a__walkSet, .ref a_kept, .long a__drawX, .ref a_images, .ref a_imageX, .ref a_isMade])), (a_tape, .inl (cs 1, 400, .inl a_tape_c))]) [0, 1, 2] rfl) (hD.sub (ws' := [(a_read, .inl (cs 0, 86, .inl k104_C_a_read)), (a, .inr (12, [.ref a_tape, .int a__taped, .int a__rules, .ref a_sign, .ref a_length, .ref a_clause, .ref a_clauses, .ref a_read, .int k104_F_a_8, .int k104_F_a_9, .int k104_F_a_10, .int a__text, .int a__made, .int a__deep, .int a__lines, .ref a_open, .int a__opened, .ref a_stack, .int a__top, .ref a_word, .ref a_said, .int a__x, .ref a_worth, .ref a_mate, .ref a_wasSaid, .int a__undone, .int a__boughtNow, .ref a_wayBy, .ref a_wayThen, .int a__walkMost, .int a__walkGoing, .int a__walkSet, .ref a_kept, .long a__drawX, .ref a_images, .ref a_imageX, .ref a_isMade])), (a_tape, .inl (cs 1, 400, .inl a_tape_c))]) [0, 1, 2] (by decide) rfl) hS ls (lv_sub hl [0, 1, 2, 3, 4] rfl)
        · refine lv_if_eq (tgt := 139) hx hb dX12_isClubHere_121 (by decide) (fun z => absurd z (by decide)) (fun _ => ?_)
          refine lv_aload_n hx hb dX12_isClubHere_124 rfl (lv_at hl 4 rfl) ?_
          refine va_get (D := D) (ci := 12) (v := .ref a_read) (C := RX12) (T := TX12) (N := 37) hx hb hT i_X12 hown hK hP 1 rfl rfl 7 (by decide) (hT _ q_181) (fun _ h9 => h9) rfl dX12_isClubHere_125 ?_
          refine lv_bipush (v := 70) hx hb dX12_isClubHere_128 (by decide) ?_
          refine lv_iconst (v := 4) hx hb dX12_isClubHere_130 (by decide) ?_
          refine lv_iload hx hb dX12_isClubHere_131 (lv_at hl 0 rfl) ?_
          refine lv_imul hx hb dX12_isClubHere_133 ?_
          refine lv_topi (fun v15 ev15 => ?_)
          have hv15 : IV 0 12 v15 := iv_mul ev15 (iv_c (a := 4) (b := 4) (by decide)) h7 (by decide) (by decide) (by decide) (by decide)
          have ii16 : 0 ≤ v15.toInt ∧ v15.toInt ≤ 12 := hv15
          have lv15 : v15.toInt = 4 * k104_L_4.toInt := lin_mul ev15 (iv_c (a := 4) (b := 4) (by decide)) h7 (by decide) rfl (by decide) (by decide) (by decide) (by decide)
          refine lv_iadd hx hb dX12_isClubHere_134 ?_
          refine lv_topi (fun v17 ev17 => ?_)
          have hv17 : IV 70 82 v17 := iv_add ev17 (iv_c (a := 70) (b := 70) (by decide)) hv15 (by decide) (by decide)
          have ii18 : 70 ≤ v17.toInt ∧ v17.toInt ≤ 82 := hv17
          have lv17 : v17.toInt = 70 + v15.toInt := lin_add ev17 (iv_c (a := 70) (b := 70) (by decide)) hv15 (by decide) rfl (by decide) (by decide)
          refine lv_iconst (v := 3) hx hb dX12_isClubHere_135 (by decide) ?_
          refine lv_iadd hx hb dX12_isClubHere_136 ?_
          refine lv_topi (fun v19 ev19 => ?_)
          have hv19 : IV 73 85 v19 := iv_add ev19 hv17 (iv_c (a := 3) (b := 3) (by decide)) (by decide) (by decide)
          have ii20 : 73 ≤ v19.toInt ∧ v19.toInt ≤ 85 := hv19
          have dv19 : v19.toInt = v17.toInt + 3 := iv_addE ev19 hv17 (iv_c (a := 3) (b := 3) (by decide)) (by decide) (by decide) (by decide)
          have lv19 : v19.toInt = v17.toInt + 3 := lin_add ev19 hv17 (iv_c (a := 3) (b := 3) (by decide)) rfl (by decide) (by decide) (by decide)
          refine lv_iload_n hx hb dX12_isClubHere_137 rfl (lv_at hl 1 rfl) ?_
          refine va_iast hx hb hK hP hD hS 0 0 rfl rfl (iv_v hv19 (by decide) (by decide)) dX12_isClubHere_138 (fun H locs hP hD hS => ?_)
          have hP : va_P D classes [(a_read, .inl (cs 0, 86, .inl (upd k104_C_a_read (Int32.toNatClampNeg v19) k104_L_3))), (a, .inr (12, [.ref a_tape, .int a__taped, .int a__rules, .ref a_sign, .ref a_length, .ref a_clause, .ref a_clauses, .ref a_read, .int k104_F_a_8, .int k104_F_a_9, .int k104_F_a_10, .int a__text, .int a__made, .int a__deep, .int a__lines, .ref a_open, .int a__opened, .ref a_stack, .int a__top, .ref a_word, .ref a_said, .int a__x, .ref a_worth, .ref a_mate, .ref a_wasSaid, .int a__undone, .int a__boughtNow, .ref a_wayBy, .ref a_wayThen, .int a__walkMost, .int a__walkGoing, .int a__walkSet, .ref a_kept, .long a__drawX, .ref a_images, .ref a_imageX, .ref a_isMade])), (a_tape, .inl (cs 1, 400, .inl a_tape_c))] H := hP
          have hD : va_D A [(a_read, .inl (cs 0, 86, .inl (upd k104_C_a_read (Int32.toNatClampNeg v19) k104_L_3))), (a, .inr (12, [.ref a_tape, .int a__taped, .int a__rules, .ref a_sign, .ref a_length, .ref a_clause, .ref a_clauses, .ref a_read, .int k104_F_a_8, .int k104_F_a_9, .int k104_F_a_10, .int a__text, .int a__made, .int a__deep, .int a__lines, .ref a_open, .int a__opened, .ref a_stack, .int a__top, .ref a_word, .ref a_said, .int a__x, .ref a_worth, .ref a_mate, .ref a_wasSaid, .int a__undone, .int a__boughtNow, .ref a_wayBy, .ref a_wayThen, .int a__walkMost, .int a__walkGoing, .int a__walkSet, .ref a_kept, .long a__drawX, .ref a_images, .ref a_imageX, .ref a_isMade])), (a_tape, .inl (cs 1, 400, .inl a_tape_c))] := hD
          obtain ⟨f21, uf21⟩ : ∃ z, z = upd k104_C_a_read (Int32.toNatClampNeg v19) k104_L_3 := ⟨_, rfl⟩
          rw [← uf21] at hP hD
          have wf21 : (f21 (Int32.toNatClampNeg v19)).toInt = k104_L_3.toInt := lin_us uf21 rfl
          have fb22 : BS f21 0 := (bs_upd x104_0 uf21 (show Int32.toNatClampNeg v19 ≠ 0 ∧ Int32.toNatClampNeg v19 ≠ 1 ∧ Int32.toNatClampNeg v19 ≠ 2 ∧ Int32.toNatClampNeg v19 ≠ 3 ∧ Int32.toNatClampNeg v19 ≠ 4 ∧ Int32.toNatClampNeg v19 ≠ 71 ∧ Int32.toNatClampNeg v19 ≠ 75 ∧ Int32.toNatClampNeg v19 ≠ 79 ∧ Int32.toNatClampNeg v19 ≠ 83 from by (have q : Int32.toNatClampNeg v19 = v19.toInt.toNat := rfl); omega))
          obtain ⟨v23, ev23⟩ : ∃ z : Int32, z = k104_L_4 + 1 := ⟨_, rfl⟩
          have hv23 : IV 1 4 v23 := iv_add ev23 h7 (iv_c (a := 1) (b := 1) (by decide)) (by decide) (by decide)
          have dv23 : v23.toInt = k104_L_4.toInt + 1 := iv_addE ev23 h7 (iv_c (a := 1) (b := 1) (by decide)) (by decide) (by decide) (by decide)
          refine lv_iinc (v := v23) (lv' := [(4, .int v23), (3, .int k104_L_3), (2, .int k104_L_2), (1, .int k104_L_1), (0, .ref a)]) hx hb dX12_isClubHere_139 hl (k := 0) rfl (by rw [ev23]; rfl) (by decide) rfl (fun ls hl => ?_)
          refine lv_goto (tgt := 104) hx hb dX12_isClubHere_142 (by decide) ?_
          exact ih104 v23 k104_L_3 k104_L_2 k104_L_1 f21 k104_F_a_8 k104_F_a_9 k104_F_a_10 (by have h9 := hn; omega) q104_4 q104_9 q104_10 q104_11 q104_12 (iv_w hv23 (by decide) (by decide)) fb22 x104_1 H locs (hP.sub (ws' := [(a_read, .inl (cs 0, 86, .inl f21)), (a, .inr (12, [.ref a_tape, .int a__taped, .int a__rules, .ref a_sign, .ref a_length, .ref a_clause, .ref a_clauses, .ref a_read, .int k104_F_a_8, .int k104_F_a_9, .int k104_F_a_10, .int a__text, .int a__made, .int a__deep, .int a__lines, .ref a_open, .int a__opened, .ref a_stack, .int a__top, .ref a_word, .ref a_said, .int a__x, .ref a_worth, .ref a_mate, .ref a_wasSaid, .int a__undone, .int a__boughtNow, .ref a_wayBy, .ref a_wayThen, .int a__walkMost, .int a__walkGoing, .int a__walkSet, .ref a_kept, .long a__drawX, .ref a_images, .ref a_imageX, .ref a_isMade])), (a_tape, .inl (cs 1, 400, .inl a_tape_c))]) [0, 1, 2] rfl) (hD.sub (ws' := [(a_read, .inl (cs 0, 86, .inl f21)), (a, .inr (12, [.ref a_tape, .int a__taped, .int a__rules, .ref a_sign, .ref a_length, .ref a_clause, .ref a_clauses, .ref a_read, .int k104_F_a_8, .int k104_F_a_9, .int k104_F_a_10, .int a__text, .int a__made, .int a__deep, .int a__lines, .ref a_open, .int a__opened, .ref a_stack, .int a__top, .ref a_word, .ref a_said, .int a__x, .ref a_worth, .ref a_mate, .ref a_wasSaid, .int a__undone, .int a__boughtNow, .ref a_wayBy, .ref a_wayThen, .int a__walkMost, .int a__walkGoing, .int a__walkSet, .ref a_kept, .long a__drawX, .ref a_images, .ref a_imageX, .ref a_isMade])), (a_tape, .inl (cs 1, 400, .inl a_tape_c))]) [0, 1, 2] (by decide) rfl) hS ls (lv_sub hl [0, 1, 2, 3, 4] rfl)
  refine lv_aload_n hx hb dX12_isClubHere_0 rfl (lv_at hl 0 rfl) ?_
  have hFc := va_free (wc := [(a, .inr (12, [.ref a_tape, .int a__taped, .int a__rules, .ref a_sign, .ref a_length, .ref a_clause, .ref a_clauses, .ref a_read, .int a__next, .int a__wrong, .int a__number, .int a__text, .int a__made, .int a__deep, .int a__lines, .ref a_open, .int a__opened, .ref a_stack, .int a__top, .ref a_word, .ref a_said, .int a__x, .ref a_worth, .ref a_mate, .ref a_wasSaid, .int a__undone, .int a__boughtNow, .ref a_wayBy, .ref a_wayThen, .int a__walkMost, .int a__walkGoing, .int a__walkSet, .ref a_kept, .long a__drawX, .ref a_images, .ref a_imageX, .ref a_isMade])), (a_tape, .inl (cs 1, 400, .inl a_tape_c))]) hD hS hA [1,2] rfl
  refine va_callv (va_runV (As := []) (rest := []) ⟨hx, hb, hml, hown, hT⟩ (c_X12_passWord l D cs kK kV a a_tape a__taped a__rules a_sign a_length a_clause a_clauses a_read a__next a__wrong a__number a__text a__made a__deep a__lines a_open a__opened a_stack a__top a_word a_said a__x a_worth a_mate a_wasSaid a__undone a__boughtNow a_wayBy a_wayThen a__walkMost a__walkGoing a__walkSet a_kept a__drawX a_images a_imageX a_isMade a_tape_c h_a__taped h_a__rules h_a__next h_a__text h_a__made h_a__lines h_a__opened h_a__top h_a__x h_a__undone H.size) (cwV 0 hT (hz_gV q_952 q_953 q_954 q_701 q_955) rfl rfl rfl (by decide +kernel) ⟨(Nat.le_of_ble_eq_true rfl), (Nat.le_of_ble_eq_true rfl)⟩) ⟨hz_C.blind, va_recv hK hP (ci := 12) (q0 := 1) rfl rfl, hz_C.mk (hP.sub (ws' := [(a, .inr (12, [.ref a_tape, .int a__taped, .int a__rules, .ref a_sign, .ref a_length, .ref a_clause, .ref a_clauses, .ref a_read, .int a__next, .int a__wrong, .int a__number, .int a__text, .int a__made, .int a__deep, .int a__lines, .ref a_open, .int a__opened, .ref a_stack, .int a__top, .ref a_word, .ref a_said, .int a__x, .ref a_worth, .ref a_mate, .ref a_wasSaid, .int a__undone, .int a__boughtNow, .ref a_wayBy, .ref a_wayThen, .int a__walkMost, .int a__walkGoing, .int a__walkSet, .ref a_kept, .long a__drawX, .ref a_images, .ref a_imageX, .ref a_isMade])), (a_tape, .inl (cs 1, 400, .inl a_tape_c))]) [1,2] rfl) (hD.sub (ws' := [(a, .inr (12, [.ref a_tape, .int a__taped, .int a__rules, .ref a_sign, .ref a_length, .ref a_clause, .ref a_clauses, .ref a_read, .int a__next, .int a__wrong, .int a__number, .int a__text, .int a__made, .int a__deep, .int a__lines, .ref a_open, .int a__opened, .ref a_stack, .int a__top, .ref a_word, .ref a_said, .int a__x, .ref a_worth, .ref a_mate, .ref a_wasSaid, .int a__undone, .int a__boughtNow, .ref a_wayBy, .ref a_wayThen, .int a__walkMost, .int a__walkGoing, .int a__walkSet, .ref a_kept, .long a__drawX, .ref a_images, .ref a_imageX, .ref a_isMade])), (a_tape, .inl (cs 1, 400, .inl a_tape_c))]) [1,2] (by decide) rfl) hE hS hFc⟩ rfl rfl hl.1 rfl (lv_room (Nat.le_of_ble_eq_true rfl)) dX12_isClubHere_1 ⟨(Nat.le_of_ble_eq_true rfl), (Nat.le_of_ble_eq_true rfl)⟩) hS (fun q _ h => hFc q h) hFc (fun o25 t H1 locs ht hvm hw hB hz1 hk1 hS => ?_)
  obtain ⟨hP1, hD1⟩ := hB
  rw [ht] at hP1
  obtain ⟨hP, hD⟩ := va_join (wr := [(a_read, .inl (cs 0, 86, .inl a_read_c))]) (w1 := [(a, .inr (12, [.ref a_tape, .int a__taped, .int a__rules, .ref a_sign, .ref a_length, .ref a_clause, .ref a_clauses, .ref a_read, .int (o25.1 1), .int a__wrong, .int a__number, .int a__text, .int a__made, .int a__deep, .int a__lines, .ref a_open, .int a__opened, .ref a_stack, .int a__top, .ref a_word, .ref a_said, .int a__x, .ref a_worth, .ref a_mate, .ref a_wasSaid, .int a__undone, .int a__boughtNow, .ref a_wayBy, .ref a_wayThen, .int a__walkMost, .int a__walkGoing, .int a__walkSet, .ref a_kept, .long a__drawX, .ref a_images, .ref a_imageX, .ref a_isMade])), (a_tape, .inl (cs 1, 400, .inl a_tape_c))]) hP hD [1, 2] [0] rfl rfl (by decide) (by decide) hk1 hFc hP1 hD1
  generalize H1 = H at hP hS ⊢
  have hP : va_P D classes [(a_read, .inl (cs 0, 86, .inl a_read_c)), (a, .inr (12, [.ref a_tape, .int a__taped, .int a__rules, .ref a_sign, .ref a_length, .ref a_clause, .ref a_clauses, .ref a_read, .int (o25.1 1), .int a__wrong, .int a__number, .int a__text, .int a__made, .int a__deep, .int a__lines, .ref a_open, .int a__opened, .ref a_stack, .int a__top, .ref a_word, .ref a_said, .int a__x, .ref a_worth, .ref a_mate, .ref a_wasSaid, .int a__undone, .int a__boughtNow, .ref a_wayBy, .ref a_wayThen, .int a__walkMost, .int a__walkGoing, .int a__walkSet, .ref a_kept, .long a__drawX, .ref a_images, .ref a_imageX, .ref a_isMade])), (a_tape, .inl (cs 1, 400, .inl a_tape_c))] H := hP
  have hD : va_D A [(a_read, .inl (cs 0, 86, .inl a_read_c)), (a, .inr (12, [.ref a_tape, .int a__taped, .int a__rules, .ref a_sign, .ref a_length, .ref a_clause, .ref a_clauses, .ref a_read, .int (o25.1 1), .int a__wrong, .int a__number, .int a__text, .int a__made, .int a__deep, .int a__lines, .ref a_open, .int a__opened, .ref a_stack, .int a__top, .ref a_word, .ref a_said, .int a__x, .ref a_worth, .ref a_mate, .ref a_wasSaid, .int a__undone, .int a__boughtNow, .ref a_wayBy, .ref a_wayThen, .int a__walkMost, .int a__walkGoing, .int a__walkSet, .ref a_kept, .long a__drawX, .ref a_images, .ref a_imageX, .ref a_isMade])), (a_tape, .inl (cs 1, 400, .inl a_tape_c))] := hD
  clear hk1 hFc hP1 hD1 hz1
  rcases hw with ⟨h26, x27, x28⟩
  have ii29 : 0 ≤ (o25.1 1).toInt ∧ (o25.1 1).toInt ≤ 400 := h26
  refine lv_aload_n hx hb dX12_isClubHere_4 rfl (lv_at hl 0 rfl) ?_
  refine lv_iconst (v := 0) hx hb dX12_isClubHere_5 (by decide) ?_
  refine lv_aload_n hx hb dX12_isClubHere_6 rfl (lv_at hl 0 rfl) ?_
  refine va_get (D := D) (ci := 12) (v := .ref a_read) (C := RX12) (T := TX12) (N := 37) hx hb hT i_X12 hown hK hP 1 rfl rfl 7 (by decide) (hT _ q_181) (fun _ h9 => h9) rfl dX12_isClubHere_7 ?_
  refine lv_iconst (v := 2) hx hb dX12_isClubHere_10 (by decide) ?_
  refine va_iald hx hb hK hP 0 0 rfl rfl (iv_vc (by decide)) dX12_isClubHere_11 ?_
  refine lv_topi (fun v30 ev30 => ?_)
  have h31 : IV 0 4 v30 := (by rw [ev30]; exact bs_i2 hf0)
  have ii32 : 0 ≤ v30.toInt ∧ v30.toInt ≤ 4 := h31
  have lv30 : v30.toInt = (a_read_c 2).toInt := by rw [ev30]; rfl
  refine lv_iconst (v := 1) hx hb dX12_isClubHere_12 (by decide) ?_
  refine lv_isub hx hb dX12_isClubHere_13 ?_
  refine lv_topi (fun v33 ev33 => ?_)
  have hv33 : IV (-1) 3 v33 := iv_sub ev33 h31 (iv_c (a := 1) (b := 1) (by decide)) (by decide) (by decide)
  have ii34 : (-1) ≤ v33.toInt ∧ v33.toInt ≤ 3 := hv33
  have dv33 : v33.toInt = v30.toInt + (-1) := iv_subE ev33 h31 (iv_c (a := 1) (b := 1) (by decide)) (by decide) (by decide) (by decide)
  have lv33 : v33.toInt = v30.toInt - 1 := lin_sub ev33 h31 (iv_c (a := 1) (b := 1) (by decide)) rfl (by decide) (by decide) (by decide)
  have hFc := va_free (wc := [(a, .inr (12, [.ref a_tape, .int a__taped, .int a__rules, .ref a_sign, .ref a_length, .ref a_clause, .ref a_clauses, .ref a_read, .int (o25.1 1), .int a__wrong, .int a__number, .int a__text, .int a__made, .int a__deep, .int a__lines, .ref a_open, .int a__opened, .ref a_stack, .int a__top, .ref a_word, .ref a_said, .int a__x, .ref a_worth, .ref a_mate, .ref a_wasSaid, .int a__undone, .int a__boughtNow, .ref a_wayBy, .ref a_wayThen, .int a__walkMost, .int a__walkGoing, .int a__walkSet, .ref a_kept, .long a__drawX, .ref a_images, .ref a_imageX, .ref a_isMade])), (a_tape, .inl (cs 1, 400, .inl a_tape_c))]) hD hS hA [1,2] rfl
  refine va_calli (va_runV (As := [.int 0, .int v33]) (rest := []) ⟨hx, hb, hml, hown, hT⟩ (c_X12_numberHere l D cs kK kV a 0 v33 a_tape a__taped a__rules a_sign a_length a_clause a_clauses a_read (o25.1 1) a__wrong a__number a__text a__made a__deep a__lines a_open a__opened a_stack a__top a_word a_said a__x a_worth a_mate a_wasSaid a__undone a__boughtNow a_wayBy a_wayThen a__walkMost a__walkGoing a__walkSet a_kept a__drawX a_images a_imageX a_isMade a_tape_c h_a__taped h_a__rules h26 h_a__text h_a__made h_a__lines h_a__opened h_a__top h_a__x h_a__undone H.size) (cwV 2 hT (hz_gV q_974 q_975 q_976 q_701 q_977) rfl rfl rfl (by decide +kernel) ⟨(Nat.le_of_ble_eq_true rfl), (Nat.le_of_ble_eq_true rfl)⟩) ⟨hz_C.blind, va_recv hK hP (ci := 12) (q0 := 1) rfl rfl, hz_C.mk (hP.sub (ws' := [(a, .inr (12, [.ref a_tape, .int a__taped, .int a__rules, .ref a_sign, .ref a_length, .ref a_clause, .ref a_clauses, .ref a_read, .int (o25.1 1), .int a__wrong, .int a__number, .int a__text, .int a__made, .int a__deep, .int a__lines, .ref a_open, .int a__opened, .ref a_stack, .int a__top, .ref a_word, .ref a_said, .int a__x, .ref a_worth, .ref a_mate, .ref a_wasSaid, .int a__undone, .int a__boughtNow, .ref a_wayBy, .ref a_wayThen, .int a__walkMost, .int a__walkGoing, .int a__walkSet, .ref a_kept, .long a__drawX, .ref a_images, .ref a_imageX, .ref a_isMade])), (a_tape, .inl (cs 1, 400, .inl a_tape_c))]) [1,2] rfl) (hD.sub (ws' := [(a, .inr (12, [.ref a_tape, .int a__taped, .int a__rules, .ref a_sign, .ref a_length, .ref a_clause, .ref a_clauses, .ref a_read, .int (o25.1 1), .int a__wrong, .int a__number, .int a__text, .int a__made, .int a__deep, .int a__lines, .ref a_open, .int a__opened, .ref a_stack, .int a__top, .ref a_word, .ref a_said, .int a__x, .ref a_worth, .ref a_mate, .ref a_wasSaid, .int a__undone, .int a__boughtNow, .ref a_wayBy, .ref a_wayThen, .int a__walkMost, .int a__walkGoing, .int a__walkSet, .ref a_kept, .long a__drawX, .ref a_images, .ref a_imageX, .ref a_isMade])), (a_tape, .inl (cs 1, 400, .inl a_tape_c))]) [1,2] (by decide) rfl) hE hS hFc⟩ rfl rfl hl.1 rfl (lv_room (Nat.le_of_ble_eq_true rfl)) dX12_isClubHere_14 ⟨(Nat.le_of_ble_eq_true rfl), (Nat.le_of_ble_eq_true rfl)⟩) hS (fun q _ h => hFc q h) hFc (fun r35 o36 t H1 locs ht hvm hw hB hz1 hk1 hS => ?_)
  obtain ⟨hP1, hD1⟩ := hB
  rw [ht] at hP1
  obtain ⟨hP, hD⟩ := va_join (wr := [(a_read, .inl (cs 0, 86, .inl a_read_c))]) (w1 := [(a, .inr (12, [.ref a_tape, .int a__taped, .int a__rules, .ref a_sign, .ref a_length, .ref a_clause, .ref a_clauses, .ref a_read, .int (o36.1 2), .int (o36.1 3), .int (o36.1 1), .int a__text, .int a__made, .int a__deep, .int a__lines, .ref a_open, .int a__opened, .ref a_stack, .int a__top, .ref a_word, .ref a_said, .int a__x, .ref a_worth, .ref a_mate, .ref a_wasSaid, .int a__undone, .int a__boughtNow, .ref a_wayBy, .ref a_wayThen, .int a__walkMost, .int a__walkGoing, .int a__walkSet, .ref a_kept, .long a__drawX, .ref a_images, .ref a_imageX, .ref a_isMade])), (a_tape, .inl (cs 1, 400, .inl a_tape_c))]) hP hD [1, 2] [0] rfl rfl (by decide) (by decide) hk1 hFc hP1 hD1
  generalize H1 = H at hP hS ⊢
  have hP : va_P D classes [(a_read, .inl (cs 0, 86, .inl a_read_c)), (a, .inr (12, [.ref a_tape, .int a__taped, .int a__rules, .ref a_sign, .ref a_length, .ref a_clause, .ref a_clauses, .ref a_read, .int (o36.1 2), .int (o36.1 3), .int (o36.1 1), .int a__text, .int a__made, .int a__deep, .int a__lines, .ref a_open, .int a__opened, .ref a_stack, .int a__top, .ref a_word, .ref a_said, .int a__x, .ref a_worth, .ref a_mate, .ref a_wasSaid, .int a__undone, .int a__boughtNow, .ref a_wayBy, .ref a_wayThen, .int a__walkMost, .int a__walkGoing, .int a__walkSet, .ref a_kept, .long a__drawX, .ref a_images, .ref a_imageX, .ref a_isMade])), (a_tape, .inl (cs 1, 400, .inl a_tape_c))] H := hP
  have hD : va_D A [(a_read, .inl (cs 0, 86, .inl a_read_c)), (a, .inr (12, [.ref a_tape, .int a__taped, .int a__rules, .ref a_sign, .ref a_length, .ref a_clause, .ref a_clauses, .ref a_read, .int (o36.1 2), .int (o36.1 3), .int (o36.1 1), .int a__text, .int a__made, .int a__deep, .int a__lines, .ref a_open, .int a__opened, .ref a_stack, .int a__top, .ref a_word, .ref a_said, .int a__x, .ref a_worth, .ref a_mate, .ref a_wasSaid, .int a__undone, .int a__boughtNow, .ref a_wayBy, .ref a_wayThen, .int a__walkMost, .int a__walkGoing, .int a__walkSet, .ref a_kept, .long a__drawX, .ref a_images, .ref a_imageX, .ref a_isMade])), (a_tape, .inl (cs 1, 400, .inl a_tape_c))] := hD
  clear hk1 hFc hP1 hD1 hz1
  rcases hw with ⟨rfl, h37, x38, x39⟩ | ⟨rfl, h40, h41, x42, x43, x44, x45⟩
  · have ii46 : 0 ≤ (o36.1 2).toInt ∧ (o36.1 2).toInt ≤ 400 := h37
    refine lv_if_ne (tgt := 22) hx hb dX12_isClubHere_17 (by decide) (fun z => absurd (by decide) z) (fun _ => ?_)
    refine lv_iconst (v := 0) hx hb dX12_isClubHere_20 (by decide) ?_
    refine W.widen (k := 0) (n := 0) (Nat.le_of_ble_eq_true rfl) (Nat.le_of_ble_eq_true rfl) ?_
    have g47 : a__next.toInt ≤ (o36.1 2).toInt := (by omega)
    exact W.zret (v := 0) hx hb hr rfl (fun t ht hW => ⟨⟨0, (fun k => match k with | 0 => 0 | 1 => o36.1 1 | 2 => o36.1 2 | 3 => o36.1 3 | _ => 0, fun k => match k with | 0 => a_read_c | _ => fun _ => 0), rfl, (Or.inl (⟨rfl, h37, g47, hf0, x39⟩)), by rw [ht]; exact hP.sub [0, 1, 2] rfl, hD.sub [0, 1, 2] (by decide) rfl⟩, hS.F ht⟩) hS.2.2 dX12_isClubHere_21
  · have ii48 : 1 ≤ a__taped.toInt ∧ a__taped.toInt ≤ 400 := h40
    have ii49 : 0 ≤ (o36.1 2).toInt ∧ (o36.1 2).toInt ≤ 400 := h41
    refine lv_if_ne (tgt := 22) hx hb dX12_isClubHere_17 (by decide) (fun _ => ?_) (fun z => absurd z (by decide))
    have h50 : IV 0 3 (o36.1 1) := ⟨by omega, by omega⟩
    have ii51 : 0 ≤ (o36.1 1).toInt ∧ (o36.1 1).toInt ≤ 3 := h50
    refine lv_aload_n hx hb dX12_isClubHere_22 rfl (lv_at hl 0 rfl) ?_
    refine va_get (D := D) (ci := 12) (v := .int (o36.1 1)) (C := RX12) (T := TX12) (N := 37) hx hb hT i_X12 hown hK hP 1 rfl rfl 10 (by decide) (hT _ q_198) (fun _ h9 => h9) rfl dX12_isClubHere_23 ?_
    refine lv_istore_n (lv' := [(1, .int (o36.1 1)), (0, .ref a)]) hx hb dX12_isClubHere_26 rfl hl (by decide) rfl (fun ls hl => ?_)
    refine lv_aload_n hx hb dX12_isClubHere_27 rfl (lv_at hl 1 rfl) ?_
    have hFc := va_free (wc := [(a, .inr (12, [.ref a_tape, .int a__taped, .int a__rules, .ref a_sign, .ref a_length, .ref a_clause, .ref a_clauses, .ref a_read, .int (o36.1 2), .int (o36.1 3), .int (o36.1 1), .int a__text, .int a__made, .int a__deep, .int a__lines, .ref a_open, .int a__opened, .ref a_stack, .int a__top, .ref a_word, .ref a_said, .int a__x, .ref a_worth, .ref a_mate, .ref a_wasSaid, .int a__undone, .int a__boughtNow, .ref a_wayBy, .ref a_wayThen, .int a__walkMost, .int a__walkGoing, .int a__walkSet, .ref a_kept, .long a__drawX, .ref a_images, .ref a_imageX, .ref a_isMade])), (a_tape, .inl (cs 1, 400, .inl a_tape_c))]) hD hS hA [1,2] rfl
    refine va_calli (va_runV (As := []) (rest := []) ⟨hx, hb, hml, hown, hT⟩ (c_X12_see l D cs kK kV a a_tape a__taped a__rules a_sign a_length a_clause a_clauses a_read (o36.1 2) (o36.1 3) (o36.1 1) a__text a__made a__deep a__lines a_open a__opened a_stack a__top a_word a_said a__x a_worth a_mate a_wasSaid a__undone a__boughtNow a_wayBy a_wayThen a__walkMost a__walkGoing a__walkSet a_kept a__drawX a_images a_imageX a_isMade a_tape_c ((iv_w h40 (by decide) (by decide))) h_a__rules h41 h_a__text h_a__made h_a__lines h_a__opened h_a__top h_a__x h_a__undone H.size) (cwV 0 hT (hz_gV q_940 q_941 q_942 q_701 q_943) rfl rfl rfl (by decide +kernel) ⟨(Nat.le_of_ble_eq_true rfl), (Nat.le_of_ble_eq_true rfl)⟩) ⟨hz_C.blind, va_recv hK hP (ci := 12) (q0 := 1) rfl rfl, hz_C.mk (hP.sub (ws' := [(a, .inr (12, [.ref a_tape, .int a__taped, .int a__rules, .ref a_sign, .ref a_length, .ref a_clause, .ref a_clauses, .ref a_read, .int (o36.1 2), .int (o36.1 3), .int (o36.1 1), .int a__text, .int a__made, .int a__deep, .int a__lines, .ref a_open, .int a__opened, .ref a_stack, .int a__top, .ref a_word, .ref a_said, .int a__x, .ref a_worth, .ref a_mate, .ref a_wasSaid, .int a__undone, .int a__boughtNow, .ref a_wayBy, .ref a_wayThen, .int a__walkMost, .int a__walkGoing, .int a__walkSet, .ref a_kept, .long a__drawX, .ref a_images, .ref a_imageX, .ref a_isMade])), (a_tape, .inl (cs 1, 400, .inl a_tape_c))]) [1,2] rfl) (hD.sub (ws' := [(a, .inr (12, [.ref a_tape, .int a__taped, .int a__rules, .ref a_sign, .ref a_length, .ref a_clause, .ref a_clauses, .ref a_read, .int (o36.1 2), .int (o36.1 3), .int (o36.1 1), .int a__text, .int a__made, .int a__deep, .int a__lines, .ref a_open, .int a__opened, .ref a_stack, .int a__top, .ref a_word, .ref a_said, .int a__x, .ref a_worth, .ref a_mate, .ref a_wasSaid, .int a__undone, .int a__boughtNow, .ref a_wayBy, .ref a_wayThen, .int a__walkMost, .int a__walkGoing, .int a__walkSet, .ref a_kept, .long a__drawX, .ref a_images, .ref a_imageX, .ref a_isMade])), (a_tape, .inl (cs 1, 400, .inl a_tape_c))]) [1,2] (by decide) rfl) hE hS hFc⟩ rfl rfl hl.1 rfl (lv_room (Nat.le_of_ble_eq_true rfl)) dX12_isClubHere_28 ⟨(Nat.le_of_ble_eq_true rfl), (Nat.le_of_ble_eq_true rfl)⟩) hS (fun q _ h => hFc q h) hFc (fun r52 o53 t H1 locs ht hvm hw hB hz1 hk1 hS => ?_)
    obtain ⟨hP1, hD1⟩ := hB
    rw [ht] at hP1
    obtain ⟨hP, hD⟩ := va_join (wr := [(a_read, .inl (cs 0, 86, .inl a_read_c))]) (w1 := [(a, .inr (12, [.ref a_tape, .int a__taped, .int a__rules, .ref a_sign, .ref a_length, .ref a_clause, .ref a_clauses, .ref a_read, .int (o53.1 1), .int (o36.1 3), .int (o36.1 1), .int a__text, .int a__made, .int a__deep, .int a__lines, .ref a_open, .int a__opened, .ref a_stack, .int a__top, .ref a_word, .ref a_said, .int a__x, .ref a_worth, .ref a_mate, .ref a_wasSaid, .int a__undone, .int a__boughtNow, .ref a_wayBy, .ref a_wayThen, .int a__walkMost, .int a__walkGoing, .int a__walkSet, .ref a_kept, .long a__drawX, .ref a_images, .ref a_imageX, .ref a_isMade])), (a_tape, .inl (cs 1, 400, .inl a_tape_c))]) hP hD [1, 2] [0] rfl rfl (by decide) (by decide) hk1 hFc hP1 hD1
    generalize H1 = H at hP hS ⊢
    have hP : va_P D classes [(a_read, .inl (cs 0, 86, .inl a_read_c)), (a, .inr (12, [.ref a_tape, .int a__taped, .int a__rules, .ref a_sign, .ref a_length, .ref a_clause, .ref a_clauses, .ref a_read, .int (o53.1 1), .int (o36.1 3), .int (o36.1 1), .int a__text, .int a__made, .int a__deep, .int a__lines, .ref a_open, .int a__opened, .ref a_stack, .int a__top, .ref a_word, .ref a_said, .int a__x, .ref a_worth, .ref a_mate, .ref a_wasSaid, .int a__undone, .int a__boughtNow, .ref a_wayBy, .ref a_wayThen, .int a__walkMost, .int a__walkGoing, .int a__walkSet, .ref a_kept, .long a__drawX, .ref a_images, .ref a_imageX, .ref a_isMade])), (a_tape, .inl (cs 1, 400, .inl a_tape_c))] H := hP
    have hD : va_D A [(a_read, .inl (cs 0, 86, .inl a_read_c)), (a, .inr (12, [.ref a_tape, .int a__taped, .int a__rules, .ref a_sign, .ref a_length, .ref a_clause, .ref a_clauses, .ref a_read, .int (o53.1 1), .int (o36.1 3), .int (o36.1 1), .int a__text, .int a__made, .int a__deep, .int a__lines, .ref a_open, .int a__opened, .ref a_stack, .int a__top, .ref a_word, .ref a_said, .int a__x, .ref a_worth, .ref a_mate, .ref a_wasSaid, .int a__undone, .int a__boughtNow, .ref a_wayBy, .ref a_wayThen, .int a__walkMost, .int a__walkGoing, .int a__walkSet, .ref a_kept, .long a__drawX, .ref a_images, .ref a_imageX, .ref a_isMade])), (a_tape, .inl (cs 1, 400, .inl a_tape_c))] := hD
    clear hk1 hFc hP1 hD1 hz1
    rcases hw with ⟨rfl, h54, x55, x56⟩ | ⟨h57, h58, h59, x60, x61, x62⟩
    · have ii63 : 0 ≤ (o53.1 1).toInt ∧ (o53.1 1).toInt ≤ 400 := h54
      refine lv_pop hx hb dX12_isClubHere_31 rfl ?_
      refine lv_aload_n hx hb dX12_isClubHere_32 rfl (lv_at hl 1 rfl) ?_
      refine va_get (D := D) (ci := 12) (v := .int (o53.1 1)) (C := RX12) (T := TX12) (N := 37) hx hb hT i_X12 hown hK hP 1 rfl rfl 8 (by decide) (hT _ q_197) (fun _ h9 => h9) rfl dX12_isClubHere_33 ?_
      refine lv_istore_n (lv' := [(2, .int (o53.1 1)), (1, .int (o36.1 1)), (0, .ref a)]) hx hb dX12_isClubHere_36 rfl hl (by decide) rfl (fun ls hl => ?_)
      refine lv_aload_n hx hb dX12_isClubHere_37 rfl (lv_at hl 2 rfl) ?_
      refine lv_iconst (v := 0) hx hb dX12_isClubHere_38 (by decide) ?_
      refine lv_aload_n hx hb dX12_isClubHere_39 rfl (lv_at hl 2 rfl) ?_
      refine va_get (D := D) (ci := 12) (v := .ref a_read) (C := RX12) (T := TX12) (N := 37) hx hb hT i_X12 hown hK hP 1 rfl rfl 7 (by decide) (hT _ q_181) (fun _ h9 => h9) rfl dX12_isClubHere_40 ?_
      refine lv_iconst (v := 2) hx hb dX12_isClubHere_43 (by decide) ?_
      refine va_iald hx hb hK hP 0 0 rfl rfl (iv_vc (by decide)) dX12_isClubHere_44 ?_
      refine hz_ev v30 ev30.symm ?_
      refine lv_iconst (v := 1) hx hb dX12_isClubHere_45 (by decide) ?_
      refine lv_isub hx hb dX12_isClubHere_46 ?_
      refine lv_topi (fun v64 ev64 => ?_)
      have hv64 : IV (-1) 3 v64 := iv_sub ev64 h31 (iv_c (a := 1) (b := 1) (by decide)) (by decide) (by decide)
      have ii65 : (-1) ≤ v64.toInt ∧ v64.toInt ≤ 3 := hv64
      have dv64 : v64.toInt = v30.toInt + (-1) := iv_subE ev64 h31 (iv_c (a := 1) (b := 1) (by decide)) (by decide) (by decide) (by decide)
      have lv64 : v64.toInt = v30.toInt - 1 := lin_sub ev64 h31 (iv_c (a := 1) (b := 1) (by decide)) rfl (by decide) (by decide) (by decide)
      have hFc := va_free (wc := [(a, .inr (12, [.ref a_tape, .int a__taped, .int a__rules, .ref a_sign, .ref a_length, .ref a_clause, .ref a_clauses, .ref a_read, .int (o53.1 1), .int (o36.1 3), .int (o36.1 1), .int a__text, .int a__made, .int a__deep, .int a__lines, .ref a_open, .int a__opened, .ref a_stack, .int a__top, .ref a_word, .ref a_said, .int a__x, .ref a_worth, .ref a_mate, .ref a_wasSaid, .int a__undone, .int a__boughtNow, .ref a_wayBy, .ref a_wayThen, .int a__walkMost, .int a__walkGoing, .int a__walkSet, .ref a_kept, .long a__drawX, .ref a_images, .ref a_imageX, .ref a_isMade])), (a_tape, .inl (cs 1, 400, .inl a_tape_c))]) hD hS hA [1,2] rfl
      refine va_calli (va_runV (As := [.int 0, .int v64]) (rest := []) ⟨hx, hb, hml, hown, hT⟩ (c_X12_numberHere l D cs kK kV a 0 v64 a_tape a__taped a__rules a_sign a_length a_clause a_clauses a_read (o53.1 1) (o36.1 3) (o36.1 1) a__text a__made a__deep a__lines a_open a__opened a_stack a__top a_word a_said a__x a_worth a_mate a_wasSaid a__undone a__boughtNow a_wayBy a_wayThen a__walkMost a__walkGoing a__walkSet a_kept a__drawX a_images a_imageX a_isMade a_tape_c ((iv_w h40 (by decide) (by decide))) h_a__rules h54 h_a__text h_a__made h_a__lines h_a__opened h_a__top h_a__x h_a__undone H.size) (cwV 2 hT (hz_gV q_974 q_975 q_976 q_701 q_977) rfl rfl rfl (by decide +kernel) ⟨(Nat.le_of_ble_eq_true rfl), (Nat.le_of_ble_eq_true rfl)⟩) ⟨hz_C.blind, va_recv hK hP (ci := 12) (q0 := 1) rfl rfl, hz_C.mk (hP.sub (ws' := [(a, .inr (12, [.ref a_tape, .int a__taped, .int a__rules, .ref a_sign, .ref a_length, .ref a_clause, .ref a_clauses, .ref a_read, .int (o53.1 1), .int (o36.1 3), .int (o36.1 1), .int a__text, .int a__made, .int a__deep, .int a__lines, .ref a_open, .int a__opened, .ref a_stack, .int a__top, .ref a_word, .ref a_said, .int a__x, .ref a_worth, .ref a_mate, .ref a_wasSaid, .int a__undone, .int a__boughtNow, .ref a_wayBy, .ref a_wayThen, .int a__walkMost, .int a__walkGoing, .int a__walkSet, .ref a_kept, .long a__drawX, .ref a_images, .ref a_imageX, .ref a_isMade])), (a_tape, .inl (cs 1, 400, .inl a_tape_c))]) [1,2] rfl) (hD.sub (ws' := [(a, .inr (12, [.ref a_tape, .int a__taped, .int a__rules, .ref a_sign, .ref a_length, .ref a_clause, .ref a_clauses, .ref a_read, .int (o53.1 1), .int (o36.1 3), .int (o36.1 1), .int a__text, .int a__made, .int a__deep, .int a__lines, .ref a_open, .int a__opened, .ref a_stack, .int a__top, .ref a_word, .ref a_said, .int a__x, .ref a_worth, .ref a_mate, .ref a_wasSaid, .int a__undone, .int a__boughtNow, .ref a_wayBy, .ref a_wayThen, .int a__walkMost, .int a__walkGoing, .int a__walkSet, .ref a_kept, .long a__drawX, .ref a_images, .ref a_imageX, .ref a_isMade])), (a_tape, .inl (cs 1, 400, .inl a_tape_c))]) [1,2] (by decide) rfl) hE hS hFc⟩ rfl rfl hl.1 rfl (lv_room (Nat.le_of_ble_eq_true rfl)) dX12_isClubHere_47 ⟨(Nat.le_of_ble_eq_true rfl), (Nat.le_of_ble_eq_true rfl)⟩) hS (fun q _ h => hFc q h) hFc (fun r66 o67 t H1 locs ht hvm hw hB hz1 hk1 hS => ?_)
      obtain ⟨hP1, hD1⟩ := hB
      rw [ht] at hP1
      obtain ⟨hP, hD⟩ := va_join (wr := [(a_read, .inl (cs 0, 86, .inl a_read_c))]) (w1 := [(a, .inr (12, [.ref a_tape, .int a__taped, .int a__rules, .ref a_sign, .ref a_length, .ref a_clause, .ref a_clauses, .ref a_read, .int (o67.1 2), .int (o67.1 3), .int (o67.1 1), .int a__text, .int a__made, .int a__deep, .int a__lines, .ref a_open, .int a__opened, .ref a_stack, .int a__top, .ref a_word, .ref a_said, .int a__x, .ref a_worth, .ref a_mate, .ref a_wasSaid, .int a__undone, .int a__boughtNow, .ref a_wayBy, .ref a_wayThen, .int a__walkMost, .int a__walkGoing, .int a__walkSet, .ref a_kept, .long a__drawX, .ref a_images, .ref a_imageX, .ref a_isMade])), (a_tape, .inl (cs 1, 400, .inl a_tape_c))]) hP hD [1, 2] [0] rfl rfl (by decide) (by decide) hk1 hFc hP1 hD1
      generalize H1 = H at hP hS ⊢
      have hP : va_P D classes [(a_read, .inl (cs 0, 86, .inl a_read_c)), (a, .inr (12, [.ref a_tape, .int a__taped, .int a__rules, .ref a_sign, .ref a_length, .ref a_clause, .ref a_clauses, .ref a_read, .int (o67.1 2), .int (o67.1 3), .int (o67.1 1), .int a__text, .int a__made, .int a__deep, .int a__lines, .ref a_open, .int a__opened, .ref a_stack, .int a__top, .ref a_word, .ref a_said, .int a__x, .ref a_worth, .ref a_mate, .ref a_wasSaid, .int a__undone, .int a__boughtNow, .ref a_wayBy, .ref a_wayThen, .int a__walkMost, .int a__walkGoing, .int a__walkSet, .ref a_kept, .long a__drawX, .ref a_images, .ref a_imageX, .ref a_isMade])), (a_tape, .inl (cs 1, 400, .inl a_tape_c))] H := hP
      have hD : va_D A [(a_read, .inl (cs 0, 86, .inl a_read_c)), (a, .inr (12, [.ref a_tape, .int a__taped, .int a__rules, .ref a_sign, .ref a_length, .ref a_clause, .ref a_clauses, .ref a_read, .int (o67.1 2), .int (o67.1 3), .int (o67.1 1), .int a__text, .int a__made, .int a__deep, .int a__lines, .ref a_open, .int a__opened, .ref a_stack, .int a__top, .ref a_word, .ref a_said, .int a__x, .ref a_worth, .ref a_mate, .ref a_wasSaid, .int a__undone, .int a__boughtNow, .ref a_wayBy, .ref a_wayThen, .int a__walkMost, .int a__walkGoing, .int a__walkSet, .ref a_kept, .long a__drawX, .ref a_images, .ref a_imageX, .ref a_isMade])), (a_tape, .inl (cs 1, 400, .inl a_tape_c))] := hD
      clear hk1 hFc hP1 hD1 hz1
      rcases hw with ⟨rfl, h68, x69, x70⟩ | ⟨rfl, h71, h72, x73, x74, x75, x76⟩
      · have ii77 : 0 ≤ (o67.1 2).toInt ∧ (o67.1 2).toInt ≤ 400 := h68
        refine lv_if_ne (tgt := 55) hx hb dX12_isClubHere_50 (by decide) (fun z => absurd (by decide) z) (fun _ => ?_)
        refine lv_iconst (v := 0) hx hb dX12_isClubHere_53 (by decide) ?_
        refine W.widen (k := 0) (n := 0) (Nat.le_of_ble_eq_true rfl) (Nat.le_of_ble_eq_true rfl) ?_
        have g78 : a__next.toInt ≤ (o67.1 2).toInt := (by omega)
        exact W.zret (v := 0) hx hb hr rfl (fun t ht hW => ⟨⟨0, (fun k => match k with | 0 => 0 | 1 => o67.1 1 | 2 => o67.1 2 | 3 => o67.1 3 | _ => 0, fun k => match k with | 0 => a_read_c | _ => fun _ => 0), rfl, (Or.inl (⟨rfl, h68, g78, hf0, x70⟩)), by rw [ht]; exact hP.sub [0, 1, 2] rfl, hD.sub [0, 1, 2] (by decide) rfl⟩, hS.F ht⟩) hS.2.2 dX12_isClubHere_54
      · have ii79 : 1 ≤ a__taped.toInt ∧ a__taped.toInt ≤ 400 := h71
        have ii80 : 0 ≤ (o67.1 2).toInt ∧ (o67.1 2).toInt ≤ 400 := h72
        refine lv_if_ne (tgt := 55) hx hb dX12_isClubHere_50 (by decide) (fun _ => ?_) (fun z => absurd z (by decide))
        have h81 : IV 0 3 (o67.1 1) := ⟨by omega, by omega⟩
        have ii82 : 0 ≤ (o67.1 1).toInt ∧ (o67.1 1).toInt ≤ 3 := h81
        refine lv_aload_n hx hb dX12_isClubHere_55 rfl (lv_at hl 2 rfl) ?_
        refine va_get (D := D) (ci := 12) (v := .int (o67.1 1)) (C := RX12) (T := TX12) (N := 37) hx hb hT i_X12 hown hK hP 1 rfl rfl 10 (by decide) (hT _ q_198) (fun _ h9 => h9) rfl dX12_isClubHere_56 ?_
        refine lv_iload_n hx hb dX12_isClubHere_59 rfl (lv_at hl 1 rfl) ?_
        refine lv_icmp_ne (tgt := 70) hx hb dX12_isClubHere_60 (by decide) (fun c83 => ?_) (fun c83 => ?_)
        · have t84 : (o67.1 1).toInt ≠ (o36.1 1).toInt := lin_ne c83 rfl rfl
          refine lv_aload_n hx hb dX12_isClubHere_70 rfl (lv_at hl 2 rfl) ?_
          refine va_get (D := D) (ci := 12) (v := .ref a_read) (C := RX12) (T := TX12) (N := 37) hx hb hT i_X12 hown hK hP 1 rfl rfl 7 (by decide) (hT _ q_181) (fun _ h9 => h9) rfl dX12_isClubHere_71 ?_
          refine lv_bipush (v := 70) hx hb dX12_isClubHere_74 (by decide) ?_
          refine lv_iconst (v := 4) hx hb dX12_isClubHere_76 (by decide) ?_
          refine lv_iload_n hx hb dX12_isClubHere_77 rfl (lv_at hl 1 rfl) ?_
          refine lv_imul hx hb dX12_isClubHere_78 ?_
          refine lv_topi (fun v85 ev85 => ?_)
          have hv85 : IV 0 12 v85 := iv_mul ev85 (iv_c (a := 4) (b := 4) (by decide)) h50 (by decide) (by decide) (by decide) (by decide)
          have ii86 : 0 ≤ v85.toInt ∧ v85.toInt ≤ 12 := hv85
          have lv85 : v85.toInt = 4 * (o36.1 1).toInt := lin_mul ev85 (iv_c (a := 4) (b := 4) (by decide)) h50 (by decide) rfl (by decide) (by decide) (by decide) (by decide)
          refine lv_iadd hx hb dX12_isClubHere_79 ?_
          refine lv_topi (fun v87 ev87 => ?_)
          have hv87 : IV 70 82 v87 := iv_add ev87 (iv_c (a := 70) (b := 70) (by decide)) hv85 (by decide) (by decide)
          have ii88 : 70 ≤ v87.toInt ∧ v87.toInt ≤ 82 := hv87
          have lv87 : v87.toInt = 70 + v85.toInt := lin_add ev87 (iv_c (a := 70) (b := 70) (by decide)) hv85 (by decide) rfl (by decide) (by decide)
          refine lv_iconst (v := 3) hx hb dX12_isClubHere_80 (by decide) ?_
          refine lv_iadd hx hb dX12_isClubHere_81 ?_
          refine lv_topi (fun v89 ev89 => ?_)
          have hv89 : IV 73 85 v89 := iv_add ev89 hv87 (iv_c (a := 3) (b := 3) (by decide)) (by decide) (by decide)
          have ii90 : 73 ≤ v89.toInt ∧ v89.toInt ≤ 85 := hv89
          have dv89 : v89.toInt = v87.toInt + 3 := iv_addE ev89 hv87 (iv_c (a := 3) (b := 3) (by decide)) (by decide) (by decide) (by decide)
          have lv89 : v89.toInt = v87.toInt + 3 := lin_add ev89 hv87 (iv_c (a := 3) (b := 3) (by decide)) rfl (by decide) (by decide) (by decide)
          refine va_iald hx hb hK hP 0 0 rfl rfl (iv_v hv89 (by decide) (by decide)) dX12_isClubHere_82 ?_
          refine lv_topi (fun v91 ev91 => ?_)
          have lv91 : v91.toInt = (a_read_c (Int32.toNatClampNeg v89)).toInt := by rw [ev91]
          refine lv_aload_n hx hb dX12_isClubHere_83 rfl (lv_at hl 2 rfl) ?_
          refine va_get (D := D) (ci := 12) (v := .ref a_read) (C := RX12) (T := TX12) (N := 37) hx hb hT i_X12 hown hK hP 1 rfl rfl 7 (by decide) (hT _ q_181) (fun _ h9 => h9) rfl dX12_isClubHere_84 ?_
          refine lv_bipush (v := 70) hx hb dX12_isClubHere_87 (by decide) ?_
          refine lv_iconst (v := 4) hx hb dX12_isClubHere_89 (by decide) ?_
          refine lv_aload_n hx hb dX12_isClubHere_90 rfl (lv_at hl 2 rfl) ?_
          refine va_get (D := D) (ci := 12) (v := .int (o67.1 1)) (C := RX12) (T := TX12) (N := 37) hx hb hT i_X12 hown hK hP 1 rfl rfl 10 (by decide) (hT _ q_198) (fun _ h9 => h9) rfl dX12_isClubHere_91 ?_
          refine lv_imul hx hb dX12_isClubHere_94 ?_
          refine lv_topi (fun v92 ev92 => ?_)
          have hv92 : IV 0 12 v92 := iv_mul ev92 (iv_c (a := 4) (b := 4) (by decide)) h81 (by decide) (by decide) (by decide) (by decide)
          have ii93 : 0 ≤ v92.toInt ∧ v92.toInt ≤ 12 := hv92
          have lv92 : v92.toInt = 4 * (o67.1 1).toInt := lin_mul ev92 (iv_c (a := 4) (b := 4) (by decide)) h81 (by decide) rfl (by decide) (by decide) (by decide) (by decide)
          refine lv_iadd hx hb dX12_isClubHere_95 ?_
          refine lv_topi (fun v94 ev94 => ?_)
          have hv94 : IV 70 82 v94 := iv_add ev94 (iv_c (a := 70) (b := 70) (by decide)) hv92 (by decide) (by decide)
          have ii95 : 70 ≤ v94.toInt ∧ v94.toInt ≤ 82 := hv94
          have lv94 : v94.toInt = 70 + v92.toInt := lin_add ev94 (iv_c (a := 70) (b := 70) (by decide)) hv92 (by decide) rfl (by decide) (by decide)
          refine lv_iconst (v := 3) hx hb dX12_isClubHere_96 (by decide) ?_
          refine lv_iadd hx hb dX12_isClubHere_97 ?_
          refine lv_topi (fun v96 ev96 => ?_)
          have hv96 : IV 73 85 v96 := iv_add ev96 hv94 (iv_c (a := 3) (b := 3) (by decide)) (by decide) (by decide)
          have ii97 : 73 ≤ v96.toInt ∧ v96.toInt ≤ 85 := hv96
          have dv96 : v96.toInt = v94.toInt + 3 := iv_addE ev96 hv94 (iv_c (a := 3) (b := 3) (by decide)) (by decide) (by decide) (by decide)
          have lv96 : v96.toInt = v94.toInt + 3 := lin_add ev96 hv94 (iv_c (a := 3) (b := 3) (by decide)) rfl (by decide) (by decide) (by decide)
          refine va_iald hx hb hK hP 0 0 rfl rfl (iv_v hv96 (by decide) (by decide)) dX12_isClubHere_98 ?_
          refine lv_topi (fun v98 ev98 => ?_)
          have lv98 : v98.toInt = (a_read_c (Int32.toNatClampNeg v96)).toInt := by rw [ev98]
          refine lv_ior hx hb dX12_isClubHere_99 ?_
          refine lv_topi (fun v99 ev99 => ?_)
          refine lv_istore_n (lv' := [(3, .int v99), (2, .int (o53.1 1)), (1, .int (o36.1 1)), (0, .ref a)]) hx hb dX12_isClubHere_100 rfl hl (by decide) rfl (fun ls hl => ?_)
          refine lv_iconst (v := 0) hx hb dX12_isClubHere_101 (by decide) ?_
          refine lv_istore (lv' := [(4, .int 0), (3, .int v99), (2, .int (o53.1 1)), (1, .int (o36.1 1)), (0, .ref a)]) hx hb dX12_isClubHere_102 hl (by decide) rfl (fun ls hl => ?_)
          exact K104 _ ((0 : Int32)) v99 (o53.1 1) (o36.1 1) a_read_c (o67.1 2) (o67.1 3) (o67.1 1) (Nat.le_refl _) h71 h81 h72 h50 h54 (iv_c (by decide)) hf0 (by omega) H locs (hP.sub (ws' := [(a_read, .inl (cs 0, 86, .inl a_read_c)), (a, .inr (12, [.ref a_tape, .int a__taped, .int a__rules, .ref a_sign, .ref a_length, .ref a_clause, .ref a_clauses, .ref a_read, .int (o67.1 2), .int (o67.1 3), .int (o67.1 1), .int a__text, .int a__made, .int a__deep, .int a__lines, .ref a_open, .int a__opened, .ref a_stack, .int a__top, .ref a_word, .ref a_said, .int a__x, .ref a_worth, .ref a_mate, .ref a_wasSaid, .int a__undone, .int a__boughtNow, .ref a_wayBy, .ref a_wayThen, .int a__walkMost, .int a__walkGoing, .int a__walkSet, .ref a_kept, .long a__drawX, .ref a_images, .ref a_imageX, .ref a_isMade])), (a_tape, .inl (cs 1, 400, .inl a_tape_c))]) [0, 1, 2] rfl) (hD.sub (ws' := [(a_read, .inl (cs 0, 86, .inl a_read_c)), (a, .inr (12, [.ref a_tape, .int a__taped, .int a__rules, .ref a_sign, .ref a_length, .ref a_clause, .ref a_clauses, .ref a_read, .int (o67.1 2), .int (o67.1 3), .int (o67.1 1), .int a__text, .int a__made, .int a__deep, .int a__lines, .ref a_open, .int a__opened, .ref a_stack, .int a__top, .ref a_word, .ref a_said, .int a__x, .ref a_worth, .ref a_mate, .ref a_wasSaid, .int a__undone, .int a__boughtNow, .ref a_wayBy, .ref a_wayThen, .int a__walkMost, .int a__walkGoing, .int a__walkSet, .ref a_kept, .long a__drawX, .ref a_images, .ref a_imageX, .ref a_isMade])), (a_tape, .inl (cs 1, 400, .inl a_tape_c))]) [0, 1, 2] (by decide) rfl) hS ls (lv_sub hl [0, 1, 2, 3, 4] rfl)
        · have t100 : (o67.1 1).toInt = (o36.1 1).toInt := lin_eqN c83 rfl rfl
          refine lv_aload_n hx hb dX12_isClubHere_63 rfl (lv_at hl 2 rfl) ?_
          refine lv_iconst (v := 1) hx hb dX12_isClubHere_64 (by decide) ?_
          refine lv_iload_n hx hb dX12_isClubHere_65 rfl (lv_at hl 0 rfl) ?_
          have hFc := va_free (wc := [(a, .inr (12, [.ref a_tape, .int a__taped, .int a__rules, .ref a_sign, .ref a_length, .ref a_clause, .ref a_clauses, .ref a_read, .int (o67.1 2), .int (o67.1 3), .int (o67.1 1), .int a__text, .int a__made, .int a__deep, .int a__lines, .ref a_open, .int a__opened, .ref a_stack, .int a__top, .ref a_word, .ref a_said, .int a__x, .ref a_worth, .ref a_mate, .ref a_wasSaid, .int a__undone, .int a__boughtNow, .ref a_wayBy, .ref a_wayThen, .int a__walkMost, .int a__walkGoing, .int a__walkSet, .ref a_kept, .long a__drawX, .ref a_images, .ref a_imageX, .ref a_isMade]))]) hD hS hA [1] rfl
          refine va_calli (va_runV (As := [.int 1, .int (o53.1 1)]) (rest := []) ⟨hx, hb, hml, hown, hT⟩ (c_X12_fails l D cs kK kV a 1 (o53.1 1) a_tape a__taped a__rules a_sign a_length a_clause a_clauses a_read (o67.1 2) (o67.1 3) (o67.1 1) a__text a__made a__deep a__lines a_open a__opened a_stack a__top a_word a_said a__x a_worth a_mate a_wasSaid a__undone a__boughtNow a_wayBy a_wayThen a__walkMost a__walkGoing a__walkSet a_kept a__drawX a_images a_imageX a_isMade ((iv_c (by decide))) h54 ((iv_w h71 (by decide) (by decide))) h_a__rules h72 h_a__text h_a__made h_a__lines h_a__opened h_a__top h_a__x h_a__undone H.size) (cwV 2 hT (hz_gV q_960 q_961 q_962 q_701 q_963) rfl rfl rfl (by decide +kernel) ⟨(Nat.le_of_ble_eq_true rfl), (Nat.le_of_ble_eq_true rfl)⟩) ⟨hz_C.blind, va_recv hK hP (ci := 12) (q0 := 1) rfl rfl, hz_C.mk (hP.sub (ws' := [(a, .inr (12, [.ref a_tape, .int a__taped, .int a__rules, .ref a_sign, .ref a_length, .ref a_clause, .ref a_clauses, .ref a_read, .int (o67.1 2), .int (o67.1 3), .int (o67.1 1), .int a__text, .int a__made, .int a__deep, .int a__lines, .ref a_open, .int a__opened, .ref a_stack, .int a__top, .ref a_word, .ref a_said, .int a__x, .ref a_worth, .ref a_mate, .ref a_wasSaid, .int a__undone, .int a__boughtNow, .ref a_wayBy, .ref a_wayThen, .int a__walkMost, .int a__walkGoing, .int a__walkSet, .ref a_kept, .long a__drawX, .ref a_images, .ref a_imageX, .ref a_isMade]))]) [1] rfl) (hD.sub (ws' := [(a, .inr (12, [.ref a_tape, .int a__taped, .int a__rules, .ref a_sign, .ref a_length, .ref a_clause, .ref a_clauses, .ref a_read, .int (o67.1 2), .int (o67.1 3), .int (o67.1 1), .int a__text, .int a__made, .int a__deep, .int a__lines, .ref a_open, .int a__opened, .ref a_stack, .int a__top, .ref a_word, .ref a_said, .int a__x, .ref a_worth, .ref a_mate, .ref a_wasSaid, .int a__undone, .int a__boughtNow, .ref a_wayBy, .ref a_wayThen, .int a__walkMost, .int a__walkGoing, .int a__walkSet, .ref a_kept, .long a__drawX, .ref a_images, .ref a_imageX, .ref a_isMade]))]) [1] (by decide) rfl) hE hS hFc⟩ rfl rfl hl.1 rfl (lv_room (Nat.le_of_ble_eq_true rfl)) dX12_isClubHere_66 ⟨(Nat.le_of_ble_eq_true rfl), (Nat.le_of_ble_eq_true rfl)⟩) hS (fun q _ h => hFc q h) hFc (fun r101 o102 t H1 locs ht hvm hw hB hz1 hk1 hS => ?_)
          obtain ⟨hP1, hD1⟩ := hB
          rw [ht] at hP1
          obtain ⟨hP, hD⟩ := va_join (wr := [(a_read, .inl (cs 0, 86, .inl a_read_c)), (a_tape, .inl (cs 1, 400, .inl a_tape_c))]) (w1 := [(a, .inr (12, [.ref a_tape, .int a__taped, .int a__rules, .ref a_sign, .ref a_length, .ref a_clause, .ref a_clauses, .ref a_read, .int (o67.1 2), .int (o102.1 1), .int (o67.1 1), .int a__text, .int a__made, .int a__deep, .int a__lines, .ref a_open, .int a__opened, .ref a_stack, .int a__top, .ref a_word, .ref a_said, .int a__x, .ref a_worth, .ref a_mate, .ref a_wasSaid, .int a__undone, .int a__boughtNow, .ref a_wayBy, .ref a_wayThen, .int a__walkMost, .int a__walkGoing, .int a__walkSet, .ref a_kept, .long a__drawX, .ref a_images, .ref a_imageX, .ref a_isMade]))]) hP hD [1] [0, 2] rfl rfl (by decide) (by decide) hk1 hFc hP1 hD1
          generalize H1 = H at hP hS ⊢
          have hP : va_P D classes [(a_read, .inl (cs 0, 86, .inl a_read_c)), (a_tape, .inl (cs 1, 400, .inl a_tape_c)), (a, .inr (12, [.ref a_tape, .int a__taped, .int a__rules, .ref a_sign, .ref a_length, .ref a_clause, .ref a_clauses, .ref a_read, .int (o67.1 2), .int (o102.1 1), .int (o67.1 1), .int a__text, .int a__made, .int a__deep, .int a__lines, .ref a_open, .int a__opened, .ref a_stack, .int a__top, .ref a_word, .ref a_said, .int a__x, .ref a_worth, .ref a_mate, .ref a_wasSaid, .int a__undone, .int a__boughtNow, .ref a_wayBy, .ref a_wayThen, .int a__walkMost, .int a__walkGoing, .int a__walkSet, .ref a_kept, .long a__drawX, .ref a_images, .ref a_imageX, .ref a_isMade]))] H := hP
          have hD : va_D A [(a_read, .inl (cs 0, 86, .inl a_read_c)), (a_tape, .inl (cs 1, 400, .inl a_tape_c)), (a, .inr (12, [.ref a_tape, .int a__taped, .int a__rules, .ref a_sign, .ref a_length, .ref a_clause, .ref a_clauses, .ref a_read, .int (o67.1 2), .int (o102.1 1), .int (o67.1 1), .int a__text, .int a__made, .int a__deep, .int a__lines, .ref a_open, .int a__opened, .ref a_stack, .int a__top, .ref a_word, .ref a_said, .int a__x, .ref a_worth, .ref a_mate, .ref a_wasSaid, .int a__undone, .int a__boughtNow, .ref a_wayBy, .ref a_wayThen, .int a__walkMost, .int a__walkGoing, .int a__walkSet, .ref a_kept, .long a__drawX, .ref a_images, .ref a_imageX, .ref a_isMade]))] := hD
          clear hk1 hFc hP1 hD1 hz1
          rcases hw with ⟨rfl, x103⟩
          refine W.widen (k := 0) (n := 0) (Nat.le_of_ble_eq_true rfl) (Nat.le_of_ble_eq_true rfl) ?_
          have g104 : a__next.toInt ≤ (o67.1 2).toInt := (by omega)
          exact W.zret (v := 0) hx hb hr rfl (fun t ht hW => ⟨⟨0, (fun k => match k with | 0 => 0 | 1 => o67.1 1 | 2 => o67.1 2 | 3 => o102.1 1 | _ => 0, fun k => match k with | 0 => a_read_c | _ => fun _ => 0), rfl, (Or.inl (⟨rfl, h72, g104, hf0, x103⟩)), by rw [ht]; exact hP.sub [0, 2, 1] rfl, hD.sub [0, 2, 1] (by decide) rfl⟩, hS.F ht⟩) hS.2.2 dX12_isClubHere_69
    · have ii105 : 0 ≤ r52.toInt ∧ r52.toInt ≤ 255 := h57
      have ii106 : 1 ≤ a__taped.toInt ∧ a__taped.toInt ≤ 400 := h58
      have ii107 : 0 ≤ (o53.1 1).toInt ∧ (o53.1 1).toInt ≤ 399 := h59
      refine lv_pop hx hb dX12_isClubHere_31 rfl ?_
      refine lv_aload_n hx hb dX12_isClubHere_32 rfl (lv_at hl 1 rfl) ?_
      refine va_get (D := D) (ci := 12) (v := .int (o53.1 1)) (C := RX12) (T := TX12) (N := 37) hx hb hT i_X12 hown hK hP 1 rfl rfl 8 (by decide) (hT _ q_197) (fun _ h9 => h9) rfl dX12_isClubHere_33 ?_
      refine lv_istore_n (lv' := [(2, .int (o53.1 1)), (1, .int (o36.1 1)), (0, .ref a)]) hx hb dX12_isClubHere_36 rfl hl (by decide) rfl (fun ls hl => ?_)
      refine lv_aload_n hx hb dX12_isClubHere_37 rfl (lv_at hl 2 rfl) ?_
      refine lv_iconst (v := 0) hx hb dX12_isClubHere_38 (by decide) ?_
      refine lv_aload_n hx hb dX12_isClubHere_39 rfl (lv_at hl 2 rfl) ?_
      refine va_get (D := D) (ci := 12) (v := .ref a_read) (C := RX12) (T := TX12) (N := 37) hx hb hT i_X12 hown hK hP 1 rfl rfl 7 (by decide) (hT _ q_181) (fun _ h9 => h9) rfl dX12_isClubHere_40 ?_
      refine lv_iconst (v := 2) hx hb dX12_isClubHere_43 (by decide) ?_
      refine va_iald hx hb hK hP 0 0 rfl rfl (iv_vc (by decide)) dX12_isClubHere_44 ?_
      refine hz_ev v30 ev30.symm ?_
      refine lv_iconst (v := 1) hx hb dX12_isClubHere_45 (by decide) ?_
      refine lv_isub hx hb dX12_isClubHere_46 ?_
      refine lv_topi (fun v108 ev108 => ?_)
      have hv108 : IV (-1) 3 v108 := iv_sub ev108 h31 (iv_c (a := 1) (b := 1) (by decide)) (by decide) (by decide)
      have ii109 : (-1) ≤ v108.toInt ∧ v108.toInt ≤ 3 := hv108
      have dv108 : v108.toInt = v30.toInt + (-1) := iv_subE ev108 h31 (iv_c (a := 1) (b := 1) (by decide)) (by decide) (by decide) (by decide)
      have lv108 : v108.toInt = v30.toInt - 1 := lin_sub ev108 h31 (iv_c (a := 1) (b := 1) (by decide)) rfl (by decide) (by decide) (by decide)
      have hFc := va_free (wc := [(a, .inr (12, [.ref a_tape, .int a__taped, .int a__rules, .ref a_sign, .ref a_length, .ref a_clause, .ref a_clauses, .ref a_read, .int (o53.1 1), .int (o36.1 3), .int (o36.1 1), .int a__text, .int a__made, .int a__deep, .int a__lines, .ref a_open, .int a__opened, .ref a_stack, .int a__top, .ref a_word, .ref a_said, .int a__x, .ref a_worth, .ref a_mate, .ref a_wasSaid, .int a__undone, .int a__boughtNow, .ref a_wayBy, .ref a_wayThen, .int a__walkMost, .int a__walkGoing, .int a__walkSet, .ref a_kept, .long a__drawX, .ref a_images, .ref a_imageX, .ref a_isMade])), (a_tape, .inl (cs 1, 400, .inl a_tape_c))]) hD hS hA [1,2] rfl
      refine va_calli (va_runV (As := [.int 0, .int v108]) (rest := []) ⟨hx, hb, hml, hown, hT⟩ (c_X12_numberHere l D cs kK kV a 0 v108 a_tape a__taped a__rules a_sign a_length a_clause a_clauses a_read (o53.1 1) (o36.1 3) (o36.1 1) a__text a__made a__deep a__lines a_open a__opened a_stack a__top a_word a_said a__x a_worth a_mate a_wasSaid a__undone a__boughtNow a_wayBy a_wayThen a__walkMost a__walkGoing a__walkSet a_kept a__drawX a_images a_imageX a_isMade a_tape_c ((iv_w h58 (by decide) (by decide))) h_a__rules ((iv_w h59 (by decide) (by decide))) h_a__text h_a__made h_a__lines h_a__opened h_a__top h_a__x h_a__undone H.size) (cwV 2 hT (hz_gV q_974 q_975 q_976 q_701 q_977) rfl rfl rfl (by decide +kernel) ⟨(Nat.le_of_ble_eq_true rfl), (Nat.le_of_ble_eq_true rfl)⟩) ⟨hz_C.blind, va_recv hK hP (ci := 12) (q0 := 1) rfl rfl, hz_C.mk (hP.sub (ws' := [(a, .inr (12, [.ref a_tape, .int a__taped, .int a__rules, .ref a_sign, .ref a_length, .ref a_clause, .ref a_clauses, .ref a_read, .int (o53.1 1), .int (o36.1 3), .int (o36.1 1), .int a__text, .int a__made, .int a__deep, .int a__lines, .ref a_open, .int a__opened, .ref a_stack, .int a__top, .ref a_word, .ref a_said, .int a__x, .ref a_worth, .ref a_mate, .ref a_wasSaid, .int a__undone, .int a__boughtNow, .ref a_wayBy, .ref a_wayThen, .int a__walkMost, .int a__walkGoing, .int a__walkSet, .ref a_kept, .long a__drawX, .ref a_images, .ref a_imageX, .ref a_isMade])), (a_tape, .inl (cs 1, 400, .inl a_tape_c))]) [1,2] rfl) (hD.sub (ws' := [(a, .inr (12, [.ref a_tape, .int a__taped, .int a__rules, .ref a_sign, .ref a_length, .ref a_clause, .ref a_clauses, .ref a_read, .int (o53.1 1), .int (o36.1 3), .int (o36.1 1), .int a__text, .int a__made, .int a__deep, .int a__lines, .ref a_open, .int a__opened, .ref a_stack, .int a__top, .ref a_word, .ref a_said, .int a__x, .ref a_worth, .ref a_mate, .ref a_wasSaid, .int a__undone, .int a__boughtNow, .ref a_wayBy, .ref a_wayThen, .int a__walkMost, .int a__walkGoing, .int a__walkSet, .ref a_kept, .long a__drawX, .ref a_images, .ref a_imageX, .ref a_isMade])), (a_tape, .inl (cs 1, 400, .inl a_tape_c))]) [1,2] (by decide) rfl) hE hS hFc⟩ rfl rfl hl.1 rfl (lv_room (Nat.le_of_ble_eq_true rfl)) dX12_isClubHere_47 ⟨(Nat.le_of_ble_eq_true rfl), (Nat.le_of_ble_eq_true rfl)⟩) hS (fun q _ h => hFc q h) hFc (fun r110 o111 t H1 locs ht hvm hw hB hz1 hk1 hS => ?_)
      obtain ⟨hP1, hD1⟩ := hB
      rw [ht] at hP1
      obtain ⟨hP, hD⟩ := va_join (wr := [(a_read, .inl (cs 0, 86, .inl a_read_c))]) (w1 := [(a, .inr (12, [.ref a_tape, .int a__taped, .int a__rules, .ref a_sign, .ref a_length, .ref a_clause, .ref a_clauses, .ref a_read, .int (o111.1 2), .int (o111.1 3), .int (o111.1 1), .int a__text, .int a__made, .int a__deep, .int a__lines, .ref a_open, .int a__opened, .ref a_stack, .int a__top, .ref a_word, .ref a_said, .int a__x, .ref a_worth, .ref a_mate, .ref a_wasSaid, .int a__undone, .int a__boughtNow, .ref a_wayBy, .ref a_wayThen, .int a__walkMost, .int a__walkGoing, .int a__walkSet, .ref a_kept, .long a__drawX, .ref a_images, .ref a_imageX, .ref a_isMade])), (a_tape, .inl (cs 1, 400, .inl a_tape_c))]) hP hD [1, 2] [0] rfl rfl (by decide) (by decide) hk1 hFc hP1 hD1
      generalize H1 = H at hP hS ⊢
      have hP : va_P D classes [(a_read, .inl (cs 0, 86, .inl a_read_c)), (a, .inr (12, [.ref a_tape, .int a__taped, .int a__rules, .ref a_sign, .ref a_length, .ref a_clause, .ref a_clauses, .ref a_read, .int (o111.1 2), .int (o111.1 3), .int (o111.1 1), .int a__text, .int a__made, .int a__deep, .int a__lines, .ref a_open, .int a__opened, .ref a_stack, .int a__top, .ref a_word, .ref a_said, .int a__x, .ref a_worth, .ref a_mate, .ref a_wasSaid, .int a__undone, .int a__boughtNow, .ref a_wayBy, .ref a_wayThen, .int a__walkMost, .int a__walkGoing, .int a__walkSet, .ref a_kept, .long a__drawX, .ref a_images, .ref a_imageX, .ref a_isMade])), (a_tape, .inl (cs 1, 400, .inl a_tape_c))] H := hP
      have hD : va_D A [(a_read, .inl (cs 0, 86, .inl a_read_c)), (a, .inr (12, [.ref a_tape, .int a__taped, .int a__rules, .ref a_sign, .ref a_length, .ref a_clause, .ref a_clauses, .ref a_read, .int (o111.1 2), .int (o111.1 3), .int (o111.1 1), .int a__text, .int a__made, .int a__deep, .int a__lines, .ref a_open, .int a__opened, .ref a_stack, .int a__top, .ref a_word, .ref a_said, .int a__x, .ref a_worth, .ref a_mate, .ref a_wasSaid, .int a__undone, .int a__boughtNow, .ref a_wayBy, .ref a_wayThen, .int a__walkMost, .int a__walkGoing, .int a__walkSet, .ref a_kept, .long a__drawX, .ref a_images, .ref a_imageX, .ref a_isMade])), (a_tape, .inl (cs 1, 400, .inl a_tape_c))] := hD
      clear hk1 hFc hP1 hD1 hz1
      rcases hw with ⟨rfl, h112, x113, x114⟩ | ⟨rfl, h115, h116, x117, x118, x119, x120⟩
      · have ii121 : 0 ≤ (o111.1 2).toInt ∧ (o111.1 2).toInt ≤ 400 := h112
        refine lv_if_ne (tgt := 55) hx hb dX12_isClubHere_50 (by decide) (fun z => absurd (by decide) z) (fun _ => ?_)
        refine lv_iconst (v := 0) hx hb dX12_isClubHere_53 (by decide) ?_
        refine W.widen (k := 0) (n := 0) (Nat.le_of_ble_eq_true rfl) (Nat.le_of_ble_eq_true rfl) ?_
        have g122 : a__next.toInt ≤ (o111.1 2).toInt := (by omega)
        exact W.zret (v := 0) hx hb hr rfl (fun t ht hW => ⟨⟨0, (fun k => match k with | 0 => 0 | 1 => o111.1 1 | 2 => o111.1 2 | 3 => o111.1 3 | _ => 0, fun k => match k with | 0 => a_read_c | _ => fun _ => 0), rfl, (Or.inl (⟨rfl, h112, g122, hf0, x114⟩)), by rw [ht]; exact hP.sub [0, 1, 2] rfl, hD.sub [0, 1, 2] (by decide) rfl⟩, hS.F ht⟩) hS.2.2 dX12_isClubHere_54
      · have ii123 : 1 ≤ a__taped.toInt ∧ a__taped.toInt ≤ 400 := h115
        have ii124 : 0 ≤ (o111.1 2).toInt ∧ (o111.1 2).toInt ≤ 400 := h116
        refine lv_if_ne (tgt := 55) hx hb dX12_isClubHere_50 (by decide) (fun _ => ?_) (fun z => absurd z (by decide))
        have h125 : IV 0 3 (o111.1 1) := ⟨by omega, by omega⟩
        have ii126 : 0 ≤ (o111.1 1).toInt ∧ (o111.1 1).toInt ≤ 3 := h125
        refine lv_aload_n hx hb dX12_isClubHere_55 rfl (lv_at hl 2 rfl) ?_
        refine va_get (D := D) (ci := 12) (v := .int (o111.1 1)) (C := RX12) (T := TX12) (N := 37) hx hb hT i_X12 hown hK hP 1 rfl rfl 10 (by decide) (hT _ q_198) (fun _ h9 => h9) rfl dX12_isClubHere_56 ?_
        refine lv_iload_n hx hb dX12_isClubHere_59 rfl (lv_at hl 1 rfl) ?_
        refine lv_icmp_ne (tgt := 70) hx hb dX12_isClubHere_60 (by decide) (fun c127 => ?_) (fun c127 => ?_)
        · have t128 : (o111.1 1).toInt ≠ (o36.1 1).toInt := lin_ne c127 rfl rfl
          refine lv_aload_n hx hb dX12_isClubHere_70 rfl (lv_at hl 2 rfl) ?_
          refine va_get (D := D) (ci := 12) (v := .ref a_read) (C := RX12) (T := TX12) (N := 37) hx hb hT i_X12 hown hK hP 1 rfl rfl 7 (by decide) (hT _ q_181) (fun _ h9 => h9) rfl dX12_isClubHere_71 ?_
          refine lv_bipush (v := 70) hx hb dX12_isClubHere_74 (by decide) ?_
          refine lv_iconst (v := 4) hx hb dX12_isClubHere_76 (by decide) ?_
          refine lv_iload_n hx hb dX12_isClubHere_77 rfl (lv_at hl 1 rfl) ?_
          refine lv_imul hx hb dX12_isClubHere_78 ?_
          refine lv_topi (fun v129 ev129 => ?_)
          have hv129 : IV 0 12 v129 := iv_mul ev129 (iv_c (a := 4) (b := 4) (by decide)) h50 (by decide) (by decide) (by decide) (by decide)
          have ii130 : 0 ≤ v129.toInt ∧ v129.toInt ≤ 12 := hv129
          have lv129 : v129.toInt = 4 * (o36.1 1).toInt := lin_mul ev129 (iv_c (a := 4) (b := 4) (by decide)) h50 (by decide) rfl (by decide) (by decide) (by decide) (by decide)
          refine lv_iadd hx hb dX12_isClubHere_79 ?_
          refine lv_topi (fun v131 ev131 => ?_)
          have hv131 : IV 70 82 v131 := iv_add ev131 (iv_c (a := 70) (b := 70) (by decide)) hv129 (by decide) (by decide)
          have ii132 : 70 ≤ v131.toInt ∧ v131.toInt ≤ 82 := hv131
          have lv131 : v131.toInt = 70 + v129.toInt := lin_add ev131 (iv_c (a := 70) (b := 70) (by decide)) hv129 (by decide) rfl (by decide) (by decide)
          refine lv_iconst (v := 3) hx hb dX12_isClubHere_80 (by decide) ?_
          refine lv_iadd hx hb dX12_isClubHere_81 ?_
          refine lv_topi (fun v133 ev133 => ?_)
          have hv133 : IV 73 85 v133 := iv_add ev133 hv131 (iv_c (a := 3) (b := 3) (by decide)) (by decide) (by decide)
          have ii134 : 73 ≤ v133.toInt ∧ v133.toInt ≤ 85 := hv133
          have dv133 : v133.toInt = v131.toInt + 3 := iv_addE ev133 hv131 (iv_c (a := 3) (b := 3) (by decide)) (by decide) (by decide) (by decide)
          have lv133 : v133.toInt = v131.toInt + 3 := lin_add ev133 hv131 (iv_c (a := 3) (b := 3) (by decide)) rfl (by decide) (by decide) (by decide)
          refine va_iald hx hb hK hP 0 0 rfl rfl (iv_v hv133 (by decide) (by decide)) dX12_isClubHere_82 ?_
          refine lv_topi (fun v135 ev135 => ?_)
          have lv135 : v135.toInt = (a_read_c (Int32.toNatClampNeg v133)).toInt := by rw [ev135]
          refine lv_aload_n hx hb dX12_isClubHere_83 rfl (lv_at hl 2 rfl) ?_
          refine va_get (D := D) (ci := 12) (v := .ref a_read) (C := RX12) (T := TX12) (N := 37) hx hb hT i_X12 hown hK hP 1 rfl rfl 7 (by decide) (hT _ q_181) (fun _ h9 => h9) rfl dX12_isClubHere_84 ?_
          refine lv_bipush (v := 70) hx hb dX12_isClubHere_87 (by decide) ?_
          refine lv_iconst (v := 4) hx hb dX12_isClubHere_89 (by decide) ?_
          refine lv_aload_n hx hb dX12_isClubHere_90 rfl (lv_at hl 2 rfl) ?_
          refine va_get (D := D) (ci := 12) (v := .int (o111.1 1)) (C := RX12) (T := TX12) (N := 37) hx hb hT i_X12 hown hK hP 1 rfl rfl 10 (by decide) (hT _ q_198) (fun _ h9 => h9) rfl dX12_isClubHere_91 ?_
          refine lv_imul hx hb dX12_isClubHere_94 ?_
          refine lv_topi (fun v136 ev136 => ?_)
          have hv136 : IV 0 12 v136 := iv_mul ev136 (iv_c (a := 4) (b := 4) (by decide)) h125 (by decide) (by decide) (by decide) (by decide)
          have ii137 : 0 ≤ v136.toInt ∧ v136.toInt ≤ 12 := hv136
          have lv136 : v136.toInt = 4 * (o111.1 1).toInt := lin_mul ev136 (iv_c (a := 4) (b := 4) (by decide)) h125 (by decide) rfl (by decide) (by decide) (by decide) (by decide)
          refine lv_iadd hx hb dX12_isClubHere_95 ?_
          refine lv_topi (fun v138 ev138 => ?_)
          have hv138 : IV 70 82 v138 := iv_add ev138 (iv_c (a := 70) (b := 70) (by decide)) hv136 (by decide) (by decide)
          have ii139 : 70 ≤ v138.toInt ∧ v138.toInt ≤ 82 := hv138
          have lv138 : v138.toInt = 70 + v136.toInt := lin_add ev138 (iv_c (a := 70) (b := 70) (by decide)) hv136 (by decide) rfl (by decide) (by decide)
          refine lv_iconst (v := 3) hx hb dX12_isClubHere_96 (by decide) ?_
          refine lv_iadd hx hb dX12_isClubHere_97 ?_
          refine lv_topi (fun v140 ev140 => ?_)
          have hv140 : IV 73 85 v140 := iv_add ev140 hv138 (iv_c (a := 3) (b := 3) (by decide)) (by decide) (by decide)
          have ii141 : 73 ≤ v140.toInt ∧ v140.toInt ≤ 85 := hv140
          have dv140 : v140.toInt = v138.toInt + 3 := iv_addE ev140 hv138 (iv_c (a := 3) (b := 3) (by decide)) (by decide) (by decide) (by decide)
          have lv140 : v140.toInt = v138.toInt + 3 := lin_add ev140 hv138 (iv_c (a := 3) (b := 3) (by decide)) rfl (by decide) (by decide) (by decide)
          refine va_iald hx hb hK hP 0 0 rfl rfl (iv_v hv140 (by decide) (by decide)) dX12_isClubHere_98 ?_
          refine lv_topi (fun v142 ev142 => ?_)
          have lv142 : v142.toInt = (a_read_c (Int32.toNatClampNeg v140)).toInt := by rw [ev142]
          refine lv_ior hx hb dX12_isClubHere_99 ?_
          refine lv_topi (fun v143 ev143 => ?_)
          refine lv_istore_n (lv' := [(3, .int v143), (2, .int (o53.1 1)), (1, .int (o36.1 1)), (0, .ref a)]) hx hb dX12_isClubHere_100 rfl hl (by decide) rfl (fun ls hl => ?_)
          refine lv_iconst (v := 0) hx hb dX12_isClubHere_101 (by decide) ?_
          refine lv_istore (lv' := [(4, .int 0), (3, .int v143), (2, .int (o53.1 1)), (1, .int (o36.1 1)), (0, .ref a)]) hx hb dX12_isClubHere_102 hl (by decide) rfl (fun ls hl => ?_)
          exact K104 _ ((0 : Int32)) v143 (o53.1 1) (o36.1 1) a_read_c (o111.1 2) (o111.1 3) (o111.1 1) (Nat.le_refl _) h115 h125 h116 h50 (iv_w h59 (by decide) (by decide)) (iv_c (by decide)) hf0 (by omega) H locs (hP.sub (ws' := [(a_read, .inl (cs 0, 86, .inl a_read_c)), (a, .inr (12, [.ref a_tape, .int a__taped, .int a__rules, .ref a_sign, .ref a_length, .ref a_clause, .ref a_clauses, .ref a_read, .int (o111.1 2), .int (o111.1 3), .int (o111.1 1), .int a__text, .int a__made, .int a__deep, .int a__lines, .ref a_open, .int a__opened, .ref a_stack, .int a__top, .ref a_word, .ref a_said, .int a__x, .ref a_worth, .ref a_mate, .ref a_wasSaid, .int a__undone, .int a__boughtNow, .ref a_wayBy, .ref a_wayThen, .int a__walkMost, .int a__walkGoing, .int a__walkSet, .ref a_kept, .long a__drawX, .ref a_images, .ref a_imageX, .ref a_isMade])), (a_tape, .inl (cs 1, 400, .inl a_tape_c))]) [0, 1, 2] rfl) (hD.sub (ws' := [(a_read, .inl (cs 0, 86, .inl a_read_c)), (a, .inr (12, [.ref a_tape, .int a__taped, .int a__rules, .ref a_sign, .ref a_length, .ref a_clause, .ref a_clauses, .ref a_read, .int (o111.1 2), .int (o111.1 3), .int (o111.1 1), .int a__text, .int a__made, .int a__deep, .int a__lines, .ref a_open, .int a__opened, .ref a_stack, .int a__top, .ref a_word, .ref a_said, .int a__x, .ref a_worth, .ref a_mate, .ref a_wasSaid, .int a__undone, .int a__boughtNow, .ref a_wayBy, .ref a_wayThen, .int a__walkMost, .int a__walkGoing, .int a__walkSet, .ref a_kept, .long a__drawX, .ref a_images, .ref a_imageX, .ref a_isMade])), (a_tape, .inl (cs 1, 400, .inl a_tape_c))]) [0, 1, 2] (by decide) rfl) hS ls (lv_sub hl [0, 1, 2, 3, 4] rfl)
        · have t144 : (o111.1 1).toInt = (o36.1 1).toInt := lin_eqN c127 rfl rfl
          refine lv_aload_n hx hb dX12_isClubHere_63 rfl (lv_at hl 2 rfl) ?_
          refine lv_iconst (v := 1) hx hb dX12_isClubHere_64 (by decide) ?_
          refine lv_iload_n hx hb dX12_isClubHere_65 rfl (lv_at hl 0 rfl) ?_
          have hFc := va_free (wc := [(a, .inr (12, [.ref a_tape, .int a__taped, .int a__rules, .ref a_sign, .ref a_length, .ref a_clause, .ref a_clauses, .ref a_read, .int (o111.1 2), .int (o111.1 3), .int (o111.1 1), .int a__text, .int a__made, .int a__deep, .int a__lines, .ref a_open, .int a__opened, .ref a_stack, .int a__top, .ref a_word, .ref a_said, .int a__x, .ref a_worth, .ref a_mate, .ref a_wasSaid, .int a__undone, .int a__boughtNow, .ref a_wayBy, .ref a_wayThen, .int a__walkMost, .int a__walkGoing, .int a__walkSet, .ref a_kept, .long a__drawX, .ref a_images, .ref a_imageX, .ref a_isMade]))]) hD hS hA [1] rfl
          refine va_calli (va_runV (As := [.int 1, .int (o53.1 1)]) (rest := []) ⟨hx, hb, hml, hown, hT⟩ (c_X12_fails l D cs kK kV a 1 (o53.1 1) a_tape a__taped a__rules a_sign a_length a_clause a_clauses a_read (o111.1 2) (o111.1 3) (o111.1 1) a__text a__made a__deep a__lines a_open a__opened a_stack a__top a_word a_said a__x a_worth a_mate a_wasSaid a__undone a__boughtNow a_wayBy a_wayThen a__walkMost a__walkGoing a__walkSet a_kept a__drawX a_images a_imageX a_isMade ((iv_c (by decide))) ((iv_w h59 (by decide) (by decide))) ((iv_w h115 (by decide) (by decide))) h_a__rules h116 h_a__text h_a__made h_a__lines h_a__opened h_a__top h_a__x h_a__undone H.size) (cwV 2 hT (hz_gV q_960 q_961 q_962 q_701 q_963) rfl rfl rfl (by decide +kernel) ⟨(Nat.le_of_ble_eq_true rfl), (Nat.le_of_ble_eq_true rfl)⟩) ⟨hz_C.blind, va_recv hK hP (ci := 12) (q0 := 1) rfl rfl, hz_C.mk (hP.sub (ws' := [(a, .inr (12, [.ref a_tape, .int a__taped, .int a__rules, .ref a_sign, .ref a_length, .ref a_clause, .ref a_clauses, .ref a_read, .int (o111.1 2), .int (o111.1 3), .int (o111.1 1), .int a__text, .int a__made, .int a__deep, .int a__lines, .ref a_open, .int a__opened, .ref a_stack, .int a__top, .ref a_word, .ref a_said, .int a__x, .ref a_worth, .ref a_mate, .ref a_wasSaid, .int a__undone, .int a__boughtNow, .ref a_wayBy, .ref a_wayThen, .int a__walkMost, .int a__walkGoing, .int a__walkSet, .ref a_kept, .long a__drawX, .ref a_images, .ref a_imageX, .ref a_isMade]))]) [1] rfl) (hD.sub (ws' := [(a, .inr (12, [.ref a_tape, .int a__taped, .int a__rules, .ref a_sign, .ref a_length, .ref a_clause, .ref a_clauses, .ref a_read, .int (o111.1 2), .int (o111.1 3), .int (o111.1 1), .int a__text, .int a__made, .int a__deep, .int a__lines, .ref a_open, .int a__opened, .ref a_stack, .int a__top, .ref a_word, .ref a_said, .int a__x, .ref a_worth, .ref a_mate, .ref a_wasSaid, .int a__undone, .int a__boughtNow, .ref a_wayBy, .ref a_wayThen, .int a__walkMost, .int a__walkGoing, .int a__walkSet, .ref a_kept, .long a__drawX, .ref a_images, .ref a_imageX, .ref a_isMade]))]) [1] (by decide) rfl) hE hS hFc⟩ rfl rfl hl.1 rfl (lv_room (Nat.le_of_ble_eq_true rfl)) dX12_isClubHere_66 ⟨(Nat.le_of_ble_eq_true rfl), (Nat.le_of_ble_eq_true rfl)⟩) hS (fun q _ h => hFc q h) hFc (fun r145 o146 t H1 locs ht hvm hw hB hz1 hk1 hS => ?_)
          obtain ⟨hP1, hD1⟩ := hB
          rw [ht] at hP1
          obtain ⟨hP, hD⟩ := va_join (wr := [(a_read, .inl (cs 0, 86, .inl a_read_c)), (a_tape, .inl (cs 1, 400, .inl a_tape_c))]) (w1 := [(a, .inr (12, [.ref a_tape, .int a__taped, .int a__rules, .ref a_sign, .ref a_length, .ref a_clause, .ref a_clauses, .ref a_read, .int (o111.1 2), .int (o146.1 1), .int (o111.1 1), .int a__text, .int a__made, .int a__deep, .int a__lines, .ref a_open, .int a__opened, .ref a_stack, .int a__top, .ref a_word, .ref a_said, .int a__x, .ref a_worth, .ref a_mate, .ref a_wasSaid, .int a__undone, .int a__boughtNow, .ref a_wayBy, .ref a_wayThen, .int a__walkMost, .int a__walkGoing, .int a__walkSet, .ref a_kept, .long a__drawX, .ref a_images, .ref a_imageX, .ref a_isMade]))]) hP hD [1] [0, 2] rfl rfl (by decide) (by decide) hk1 hFc hP1 hD1
          generalize H1 = H at hP hS ⊢
          have hP : va_P D classes [(a_read, .inl (cs 0, 86, .inl a_read_c)), (a_tape, .inl (cs 1, 400, .inl a_tape_c)), (a, .inr (12, [.ref a_tape, .int a__taped, .int a__rules, .ref a_sign, .ref a_length, .ref a_clause, .ref a_clauses, .ref a_read, .int (o111.1 2), .int (o146.1 1), .int (o111.1 1), .int a__text, .int a__made, .int a__deep, .int a__lines, .ref a_open, .int a__opened, .ref a_stack, .int a__top, .ref a_word, .ref a_said, .int a__x, .ref a_worth, .ref a_mate, .ref a_wasSaid, .int a__undone, .int a__boughtNow, .ref a_wayBy, .ref a_wayThen, .int a__walkMost, .int a__walkGoing, .int a__walkSet, .ref a_kept, .long a__drawX, .ref a_images, .ref a_imageX, .ref a_isMade]))] H := hP
          have hD : va_D A [(a_read, .inl (cs 0, 86, .inl a_read_c)), (a_tape, .inl (cs 1, 400, .inl a_tape_c)), (a, .inr (12, [.ref a_tape, .int a__taped, .int a__rules, .ref a_sign, .ref a_length, .ref a_clause, .ref a_clauses, .ref a_read, .int (o111.1 2), .int (o146.1 1), .int (o111.1 1), .int a__text, .int a__made, .int a__deep, .int a__lines, .ref a_open, .int a__opened, .ref a_stack, .int a__top, .ref a_word, .ref a_said, .int a__x, .ref a_worth, .ref a_mate, .ref a_wasSaid, .int a__undone, .int a__boughtNow, .ref a_wayBy, .ref a_wayThen, .int a__walkMost, .int a__walkGoing, .int a__walkSet, .ref a_kept, .long a__drawX, .ref a_images, .ref a_imageX, .ref a_isMade]))] := hD
          clear hk1 hFc hP1 hD1 hz1
          rcases hw with ⟨rfl, x147⟩
          refine W.widen (k := 0) (n := 0) (Nat.le_of_ble_eq_true rfl) (Nat.le_of_ble_eq_true rfl) ?_
          have g148 : a__next.toInt ≤ (o111.1 2).toInt := (by omega)
          exact W.zret (v := 0) hx hb hr rfl (fun t ht hW => ⟨⟨0, (fun k => match k with | 0 => 0 | 1 => o111.1 1 | 2 => o111.1 2 | 3 => o146.1 1 | _ => 0, fun k => match k with | 0 => a_read_c | _ => fun _ => 0), rfl, (Or.inl (⟨rfl, h116, g148, hf0, x147⟩)), by rw [ht]; exact hP.sub [0, 2, 1] rfl, hD.sub [0, 2, 1] (by decide) rfl⟩, hS.F ht⟩) hS.2.2 dX12_isClubHere_69
theorem dX12_isOnceHere_0 : decode cX12_isOnceHere 0 = .ok (.aload_n 0, 1) := by decide +kernel
theorem dX12_isOnceHere_1 : decode cX12_isOnceHere 1 = .ok (.getfield 26, 3) := by decide +kernel
theorem dX12_isOnceHere_4 : decode cX12_isOnceHere 4 = .ok (.iload_n 1, 1) := by decide +kernel
theorem dX12_isOnceHere_5 : decode cX12_isOnceHere 5 = .ok (.iaload, 1) := by decide +kernel
theorem dX12_isOnceHere_6 : decode cX12_isOnceHere 6 = .ok (.ifCond .lt 10, 3) := by decide +kernel
theorem dX12_isOnceHere_9 : decode cX12_isOnceHere 9 = .ok (.aload_n 0, 1) := by decide +kernel
theorem dX12_isOnceHere_10 : decode cX12_isOnceHere 10 = .ok (.iconst 4, 1) := by decide +kernel
theorem dX12_isOnceHere_11 : decode cX12_isOnceHere 11 = .ok (.iload_n 2, 1) := by decide +kernel
theorem dX12_isOnceHere_12 : decode cX12_isOnceHere 12 = .ok (.invokevirtual 102, 3) := by decide +kernel
theorem dX12_isOnceHere_15 : decode cX12_isOnceHere 15 = .ok (.ireturn, 1) := by decide +kernel
theorem dX12_isOnceHere_16 : decode cX12_isOnceHere 16 = .ok (.aload_n 0, 1) := by decide +kernel
theorem dX12_isOnceHere_17 : decode cX12_isOnceHere 17 = .ok (.invokevirtual 96, 3) := by decide +kernel
theorem dX12_isOnceHere_20 : decode cX12_isOnceHere 20 = .ok (.aload_n 0, 1) := by decide +kernel
theorem dX12_isOnceHere_21 : decode cX12_isOnceHere 21 = .ok (.iload_n 1, 1) := by decide +kernel
theorem dX12_isOnceHere_22 : decode cX12_isOnceHere 22 = .ok (.iload_n 3, 1) := by decide +kernel
theorem dX12_isOnceHere_23 : decode cX12_isOnceHere 23 = .ok (.iload 4, 2) := by decide +kernel
theorem dX12_isOnceHere_25 : decode cX12_isOnceHere 25 = .ok (.invokevirtual 211, 3) := by decide +kernel
theorem dX12_isOnceHere_28 : decode cX12_isOnceHere 28 = .ok (.ireturn, 1) := by decide +kernel
set_option maxHeartbeats 4000000 in
set_option maxRecDepth 100000 in
theorem c_X12_isOnceHere (l : Launch) (D : va_G) (cs : Nat → ClassId) (kK kV : Nat → Nat) (a : Nat) (p0 : Int32) (p1 : Int32) (p2 : Int32) (p3 : Int32) (a_read : Nat) (a_read_c : Nat → Int32) (a_tape : Nat) (a__taped : Int32) (a__rules : Int32) (a_sign : Nat) (a_length : Nat) (a_clause : Nat) (a_clauses : Nat) (a__next : Int32) (a__wrong : Int32) (a__number : Int32) (a__text : Int32) (a__made : Int32) (a__deep : Int32) (a__lines : Int32) (a_open : Nat) (a__opened : Int32) (a_stack : Nat) (a__top : Int32) (a_word : Nat) (a_said : Nat) (a__x : Int32) (a_worth : Nat) (a_mate : Nat) (a_wasSaid : Nat) (a__undone : Int32) (a__boughtNow : Int32) (a_wayBy : Nat) (a_wayThen : Nat) (a__walkMost : Int32) (a__walkGoing : Int32) (a__walkSet : Int32) (a_kept : Nat) (a__drawX : Int64) (a_images : Nat) (a_imageX : Nat) (a_isMade : Nat) (a_tape_c : Nat → Int32) (h_p0 : IV 5 8 p0) (h_p1 : IV 0 400 p1) (h_a__taped : IV 0 400 a__taped) (h_a__rules : IV 0 6 a__rules) (h_a__next : IV 0 400 a__next) (h_a__text : IV 0 6 a__text) (h_a__made : IV 0 60 a__made) (h_a__lines : IV 0 40 a__lines) (h_a__opened : IV 0 400 a__opened) (h_a__top : IV 0 64 a__top) (h_a__x : IV 0 2147483647 a__x) (h_a__undone : IV 0 20 a__undone) (hf0 : BS a_read_c 0) (sz : Nat) : Met l yX12_isOnceHere (hz_w yX12_isOnceHere cX12_isOnceHere 5 (some .boolean)) ({ frames := 3, cells := 0, slots := 0, locals := 72 }) (va_Pc [.ref a, .int p0, .int p1, .int p2, .int p3] (hz_C D cs kK kV sz [(a_read, .inl (cs 0, 86, .inl a_read_c)), (a, .inr (12, [.ref a_tape, .int a__taped, .int a__rules, .ref a_sign, .ref a_length, .ref a_clause, .ref a_clauses, .ref a_read, .int a__next, .int a__wrong, .int a__number, .int a__text, .int a__made, .int a__deep, .int a__lines, .ref a_open, .int a__opened, .ref a_stack, .int a__top, .ref a_word, .ref a_said, .int a__x, .ref a_worth, .ref a_mate, .ref a_wasSaid, .int a__undone, .int a__boughtNow, .ref a_wayBy, .ref a_wayThen, .int a__walkMost, .int a__walkGoing, .int a__walkSet, .ref a_kept, .long a__drawX, .ref a_images, .ref a_imageX, .ref a_isMade])), (a_tape, .inl (cs 1, 400, .inl a_tape_c))])) (va_Qi (fun (r : Int32) (u : (Nat → Int32) × (Nat → Nat → Int32)) => (r = 0 ∧ IV 0 400 (u.1 2) ∧ (a__next.toInt ≤ (u.1 2).toInt) ∧ (BS (u.2 0) 0) ∧ ((u.1 3).toInt ≠ 0)) ∨ (r = 1 ∧ IV 1 400 a__taped ∧ IV 0 400 (u.1 2) ∧ (a__next.toInt ≤ (u.1 2).toInt) ∧ (BS (u.2 0) 0))) (fun u t => va_P D classes [(a_read, .inl (cs 0, 86, .inl (u.2 0))), (a, .inr (12, [.ref a_tape, .int a__taped, .int a__rules, .ref a_sign, .ref a_length, .ref a_clause, .ref a_clauses, .ref a_read, .int (u.1 2), .int (u.1 3), .int (u.1 1), .int a__text, .int a__made, .int a__deep, .int a__lines, .ref a_open, .int a__opened, .ref a_stack, .int a__top, .ref a_word, .ref a_said, .int a__x, .ref a_worth, .ref a_mate, .ref a_wasSaid, .int a__undone, .int a__boughtNow, .ref a_wayBy, .ref a_wayThen, .int a__walkMost, .int a__walkGoing, .int a__walkSet, .ref a_kept, .long a__drawX, .ref a_images, .ref a_imageX, .ref a_isMade])), (a_tape, .inl (cs 1, 400, .inl a_tape_c))] t.heap ∧ va_D (va_A [(a_read, .inl (cs 0, 86, .inl a_read_c)), (a, .inr (12, [.ref a_tape, .int a__taped, .int a__rules, .ref a_sign, .ref a_length, .ref a_clause, .ref a_clauses, .ref a_read, .int a__next, .int a__wrong, .int a__number, .int a__text, .int a__made, .int a__deep, .int a__lines, .ref a_open, .int a__opened, .ref a_stack, .int a__top, .ref a_word, .ref a_said, .int a__x, .ref a_worth, .ref a_mate, .ref a_wasSaid, .int a__undone, .int a__boughtNow, .ref a_wayBy, .ref a_wayThen, .int a__walkMost, .int a__walkGoing, .int a__walkSet, .ref a_kept, .long a__drawX, .ref a_images, .ref a_imageX, .ref a_isMade])), (a_tape, .inl (cs 1, 400, .inl a_tape_c))] sz) [(a_read, .inl (cs 0, 86, .inl (u.2 0))), (a, .inr (12, [.ref a_tape, .int a__taped, .int a__rules, .ref a_sign, .ref a_length, .ref a_clause, .ref a_clauses, .ref a_read, .int (u.1 2), .int (u.1 3), .int (u.1 1), .int a__text, .int a__made, .int a__deep, .int a__lines, .ref a_open, .int a__opened, .ref a_stack, .int a__top, .ref a_word, .ref a_said, .int a__x, .ref a_worth, .ref a_mate, .ref a_wasSaid, .int a__undone, .int a__boughtNow, .ref a_wayBy, .ref a_wayThen, .int a__walkMost, .int a__walkGoing, .int a__walkSet, .ref a_kept, .long a__drawX, .ref a_images, .ref a_imageX, .ref a_isMade])), (a_tape, .inl (cs 1, 400, .inl a_tape_c))]) (va_A [(a_read, .inl (cs 0, 86, .inl a_read_c)), (a, .inr (12, [.ref a_tape, .int a__taped, .int a__rules, .ref a_sign, .ref a_length, .ref a_clause, .ref a_clauses, .ref a_read, .int a__next, .int a__wrong, .int a__number, .int a__text, .int a__made, .int a__deep, .int a__lines, .ref a_open, .int a__opened, .ref a_stack, .int a__top, .ref a_word, .ref a_said, .int a__x, .ref a_worth, .ref a_mate, .ref a_wasSaid, .int a__undone, .int a__boughtNow, .ref a_wayBy, .ref a_wayThen, .int a__walkMost, .int a__walkGoing, .int a__walkSet, .ref a_kept, .long a__drawX, .ref a_images, .ref a_imageX, .ref a_isMade])), (a_tape, .inl (cs 1, 400, .inl a_tape_c))] sz)) 0 0 (va_A [(a_read, .inl (cs 0, 86, .inl a_read_c)), (a, .inr (12, [.ref a_tape, .int a__taped, .int a__rules, .ref a_sign, .ref a_length, .ref a_clause, .ref a_clauses, .ref a_read, .int a__next, .int a__wrong, .int a__number, .int a__text, .int a__made, .int a__deep, .int a__lines, .ref a_open, .int a__opened, .ref a_stack, .int a__top, .ref a_word, .ref a_said, .int a__x, .ref a_worth, .ref a_mate, .ref a_wasSaid, .int a__undone, .int a__boughtNow, .ref a_wayBy, .ref a_wayThen, .int a__walkMost, .int a__walkGoing, .int a__walkSet, .ref a_kept, .long a__drawX, .ref a_images, .ref a_imageX, .ref a_isMade])), (a_tape, .inl (cs 1, 400, .inl a_tape_c))] sz) := by
  refine Met.ofW (cc := cX12_isOnceHere) (maxL := 5) (ret := (some .boolean)) (by decide) rfl ?_
  intro p e s m args below meth c s₁ B hml hv
  obtain ⟨rfl, hsz, hP, hD0, hE⟩ := hv
  have hx := B.exec
  have hb := B.bytes
  have hr := B.returns
  have hT : ∀ w ∈ TB, w.before _ s = true := fun w h => atoms_spec (ws := hz_w yX12_isOnceHere cX12_isOnceHere 5 (some .boolean)) B.pre w (List.mem_cons_of_mem _ h)
  have hown : s.vm.findClass RX12 = some m.cls := findClass_of_methodNamed B.named
  have hlocks := B.notSynchronized
  clear B
  subst hsz
  have hD := hD0.self (sz := s.heap.size)
  generalize hAe : va_A [(a_read, .inl (cs 0, 86, .inl a_read_c)), (a, .inr (12, [.ref a_tape, .int a__taped, .int a__rules, .ref a_sign, .ref a_length, .ref a_clause, .ref a_clauses, .ref a_read, .int a__next, .int a__wrong, .int a__number, .int a__text, .int a__made, .int a__deep, .int a__lines, .ref a_open, .int a__opened, .ref a_stack, .int a__top, .ref a_word, .ref a_said, .int a__x, .ref a_worth, .ref a_mate, .ref a_wasSaid, .int a__undone, .int a__boughtNow, .ref a_wayBy, .ref a_wayThen, .int a__walkMost, .int a__walkGoing, .int a__walkSet, .ref a_kept, .long a__drawX, .ref a_images, .ref a_imageX, .ref a_isMade])), (a_tape, .inl (cs 1, 400, .inl a_tape_c))] s.heap.size = A at hD hE ⊢
  have hA : ∀ q : Nat, s.heap.size ≤ q → A q := fun q h => by rw [← hAe]; exact Or.inr h
  clear hAe hD0
  have hS : va_S A s.heap s.heap [] := va_S.rf
  have hK := hE.1
  have hl := lv_entry ([.ref a, .int p0, .int p1, .int p2, .int p3]) (n := 5) (Nat.le_of_ble_eq_true rfl)
  rw [lg_entry_eq]
  generalize (lg_sl ([.ref a, .int p0, .int p1, .int p2, .int p3]) ++ List.replicate (5 - (lg_sl ([.ref a, .int p0, .int p1, .int p2, .int p3])).length) Slot.unset).toArray = ls at hl ⊢
  have hl : lv_has ls 5 [(0, .ref a), (1, .int p0), (2, .int p1), (3, .int p2), (4, .int p3)] := hl
  obtain ⟨H, eH⟩ : ∃ z, z = s.heap := ⟨_, rfl⟩
  have hP : va_P D classes [(a_read, .inl (cs 0, 86, .inl a_read_c)), (a, .inr (12, [.ref a_tape, .int a__taped, .int a__rules, .ref a_sign, .ref a_length, .ref a_clause, .ref a_clauses, .ref a_read, .int a__next, .int a__wrong, .int a__number, .int a__text, .int a__made, .int a__deep, .int a__lines, .ref a_open, .int a__opened, .ref a_stack, .int a__top, .ref a_word, .ref a_said, .int a__x, .ref a_worth, .ref a_mate, .ref a_wasSaid, .int a__undone, .int a__boughtNow, .ref a_wayBy, .ref a_wayThen, .int a__walkMost, .int a__walkGoing, .int a__walkSet, .ref a_kept, .long a__drawX, .ref a_images, .ref a_imageX, .ref a_isMade])), (a_tape, .inl (cs 1, 400, .inl a_tape_c))] H := by rw [eH]; exact hP
  have hS : va_S A s.heap H [] := by rw [eH]; exact hS
  rw [← eH]
  clear eH
  obtain ⟨locs, el⟩ : ∃ z : List Loc, z = [] := ⟨_, rfl⟩
  rw [← el] at hS ⊢
  clear el
  have z0 : (0 : Int32).toInt = 0 := by decide
  have z1 : (1 : Int32).toInt = 1 := by decide
  have zm1 : (-1 : Int32).toInt = -1 := by decide
  have i_a__lines : 0 ≤ a__lines.toInt ∧ a__lines.toInt ≤ 40 := h_a__lines
  have i_a__made : 0 ≤ a__made.toInt ∧ a__made.toInt ≤ 60 := h_a__made
  have i_a__next : 0 ≤ a__next.toInt ∧ a__next.toInt ≤ 400 := h_a__next
  have i_a__opened : 0 ≤ a__opened.toInt ∧ a__opened.toInt ≤ 400 := h_a__opened
  have i_a__rules : 0 ≤ a__rules.toInt ∧ a__rules.toInt ≤ 6 := h_a__rules
  have i_a__taped : 0 ≤ a__taped.toInt ∧ a__taped.toInt ≤ 400 := h_a__taped
  have i_a__text : 0 ≤ a__text.toInt ∧ a__text.toInt ≤ 6 := h_a__text
  have i_a__top : 0 ≤ a__top.toInt ∧ a__top.toInt ≤ 64 := h_a__top
  have i_a__undone : 0 ≤ a__undone.toInt ∧ a__undone.toInt ≤ 20 := h_a__undone
  have i_a__x : 0 ≤ a__x.toInt ∧ a__x.toInt ≤ 2147483647 := h_a__x
  have i_p0 : 5 ≤ p0.toInt ∧ p0.toInt ≤ 8 := h_p0
  have i_p1 : 0 ≤ p1.toInt ∧ p1.toInt ≤ 400 := h_p1
  refine lv_aload_n hx hb dX12_isOnceHere_0 rfl (lv_at hl 0 rfl) ?_
  refine va_get (D := D) (ci := 12) (v := .ref a_read) (C := RX12) (T := TX12) (N := 37) hx hb hT i_X12 hown hK hP 1 rfl rfl 7 (by decide) (hT _ q_181) (fun _ h9 => h9) rfl dX12_isOnceHere_1 ?_
  refine lv_iload_n hx hb dX12_isOnceHere_4 rfl (lv_at hl 1 rfl) ?_
  refine va_iald hx hb hK hP 0 0 rfl rfl (iv_v h_p0 (by decide) (by decide)) dX12_isOnceHere_5 ?_
  refine lv_topi (fun v1 ev1 => ?_)
  have lv1 : v1.toInt = (a_read_c (Int32.toNatClampNeg p0)).toInt := by rw [ev1]
  refine lv_if_lt (tgt := 16) hx hb dX12_isOnceHere_6 (by decide) (fun c2 => ?_) (fun c2 => ?_)
  · have t3 : v1.toInt < 0 := lin_lt c2 rfl (by decide)
    have h4 : IV (-2147483648) (-1) v1 := iv_lt1 c2 iv_top (iv_c (a := 0) (b := 0) (by decide)) (by decide)
    have ii5 : (-2147483648) ≤ v1.toInt ∧ v1.toInt ≤ (-1) := h4
    refine lv_aload_n hx hb dX12_isOnceHere_16 rfl (lv_at hl 0 rfl) ?_
    have hFc := va_free (wc := [(a, .inr (12, [.ref a_tape, .int a__taped, .int a__rules, .ref a_sign, .ref a_length, .ref a_clause, .ref a_clauses, .ref a_read, .int a__next, .int a__wrong, .int a__number, .int a__text, .int a__made, .int a__deep, .int a__lines, .ref a_open, .int a__opened, .ref a_stack, .int a__top, .ref a_word, .ref a_said, .int a__x, .ref a_worth, .ref a_mate, .ref a_wasSaid, .int a__undone, .int a__boughtNow, .ref a_wayBy, .ref a_wayThen, .int a__walkMost, .int a__walkGoing, .int a__walkSet, .ref a_kept, .long a__drawX, .ref a_images, .ref a_imageX, .ref a_isMade])), (a_tape, .inl (cs 1, 400, .inl a_tape_c))]) hD hS hA [1,2] rfl
    refine va_callv (va_runV (As := []) (rest := []) ⟨hx, hb, hml, hown, hT⟩ (c_X12_passWord l D cs kK kV a a_tape a__taped a__rules a_sign a_length a_clause a_clauses a_read a__next a__wrong a__number a__text a__made a__deep a__lines a_open a__opened a_stack a__top a_word a_said a__x a_worth a_mate a_wasSaid a__undone a__boughtNow a_wayBy a_wayThen a__walkMost a__walkGoing a__walkSet a_kept a__drawX a_images a_imageX a_isMade a_tape_c h_a__taped h_a__rules h_a__next h_a__text h_a__made h_a__lines h_a__opened h_a__top h_a__x h_a__undone H.size) (cwV 0 hT (hz_gV q_952 q_953 q_954 q_701 q_955) rfl rfl rfl (by decide +kernel) ⟨(Nat.le_of_ble_eq_true rfl), (Nat.le_of_ble_eq_true rfl)⟩) ⟨hz_C.blind, va_recv hK hP (ci := 12) (q0 := 1) rfl rfl, hz_C.mk (hP.sub (ws' := [(a, .inr (12, [.ref a_tape, .int a__taped, .int a__rules, .ref a_sign, .ref a_length, .ref a_clause, .ref a_clauses, .ref a_read, .int a__next, .int a__wrong, .int a__number, .int a__text, .int a__made, .int a__deep, .int a__lines, .ref a_open, .int a__opened, .ref a_stack, .int a__top, .ref a_word, .ref a_said, .int a__x, .ref a_worth, .ref a_mate, .ref a_wasSaid, .int a__undone, .int a__boughtNow, .ref a_wayBy, .ref a_wayThen, .int a__walkMost, .int a__walkGoing, .int a__walkSet, .ref a_kept, .long a__drawX, .ref a_images, .ref a_imageX, .ref a_isMade])), (a_tape, .inl (cs 1, 400, .inl a_tape_c))]) [1,2] rfl) (hD.sub (ws' := [(a, .inr (12, [.ref a_tape, .int a__taped, .int a__rules, .ref a_sign, .ref a_length, .ref a_clause, .ref a_clauses, .ref a_read, .int a__next, .int a__wrong, .int a__number, .int a__text, .int a__made, .int a__deep, .int a__lines, .ref a_open, .int a__opened, .ref a_stack, .int a__top, .ref a_word, .ref a_said, .int a__x, .ref a_worth, .ref a_mate, .ref a_wasSaid, .int a__undone, .int a__boughtNow, .ref a_wayBy, .ref a_wayThen, .int a__walkMost, .int a__walkGoing, .int a__walkSet, .ref a_kept, .long a__drawX, .ref a_images, .ref a_imageX, .ref a_isMade])), (a_tape, .inl (cs 1, 400, .inl a_tape_c))]) [1,2] (by decide) rfl) hE hS hFc⟩ rfl rfl hl.1 rfl (lv_room (Nat.le_of_ble_eq_true rfl)) dX12_isOnceHere_17 ⟨(Nat.le_of_ble_eq_true rfl), (Nat.le_of_ble_eq_true rfl)⟩) hS (fun q _ h => hFc q h) hFc (fun o7 t H1 locs ht hvm hw hB hz1 hk1 hS => ?_)
    obtain ⟨hP1, hD1⟩ := hB
    rw [ht] at hP1
    obtain ⟨hP, hD⟩ := va_join (wr := [(a_read, .inl (cs 0, 86, .inl a_read_c))]) (w1 := [(a, .inr (12, [.ref a_tape, .int a__taped, .int a__rules, .ref a_sign, .ref a_length, .ref a_clause, .ref a_clauses, .ref a_read, .int (o7.1 1), .int a__wrong, .int a__number, .int a__text, .int a__made, .int a__deep, .int a__lines, .ref a_open, .int a__opened, .ref a_stack, .int a__top, .ref a_word, .ref a_said, .int a__x, .ref a_worth, .ref a_mate, .ref a_wasSaid, .int a__undone, .int a__boughtNow, .ref a_wayBy, .ref a_wayThen, .int a__walkMost, .int a__walkGoing, .int a__walkSet, .ref a_kept, .long a__drawX, .ref a_images, .ref a_imageX, .ref a_isMade])), (a_tape, .inl (cs 1, 400, .inl a_tape_c))]) hP hD [1, 2] [0] rfl rfl (by decide) (by decide) hk1 hFc hP1 hD1
    generalize H1 = H at hP hS ⊢
    have hP : va_P D classes [(a_read, .inl (cs 0, 86, .inl a_read_c)), (a, .inr (12, [.ref a_tape, .int a__taped, .int a__rules, .ref a_sign, .ref a_length, .ref a_clause, .ref a_clauses, .ref a_read, .int (o7.1 1), .int a__wrong, .int a__number, .int a__text, .int a__made, .int a__deep, .int a__lines, .ref a_open, .int a__opened, .ref a_stack, .int a__top, .ref a_word, .ref a_said, .int a__x, .ref a_worth, .ref a_mate, .ref a_wasSaid, .int a__undone, .int a__boughtNow, .ref a_wayBy, .ref a_wayThen, .int a__walkMost, .int a__walkGoing, .int a__walkSet, .ref a_kept, .long a__drawX, .ref a_images, .ref a_imageX, .ref a_isMade])), (a_tape, .inl (cs 1, 400, .inl a_tape_c))] H := hP
    have hD : va_D A [(a_read, .inl (cs 0, 86, .inl a_read_c)), (a, .inr (12, [.ref a_tape, .int a__taped, .int a__rules, .ref a_sign, .ref a_length, .ref a_clause, .ref a_clauses, .ref a_read, .int (o7.1 1), .int a__wrong, .int a__number, .int a__text, .int a__made, .int a__deep, .int a__lines, .ref a_open, .int a__opened, .ref a_stack, .int a__top, .ref a_word, .ref a_said, .int a__x, .ref a_worth, .ref a_mate, .ref a_wasSaid, .int a__undone, .int a__boughtNow, .ref a_wayBy, .ref a_wayThen, .int a__walkMost, .int a__walkGoing, .int a__walkSet, .ref a_kept, .long a__drawX, .ref a_images, .ref a_imageX, .ref a_isMade])), (a_tape, .inl (cs 1, 400, .inl a_tape_c))] := hD
    clear hk1 hFc hP1 hD1 hz1
    rcases hw with ⟨h8, x9, x10⟩
    have ii11 : 0 ≤ (o7.1 1).toInt ∧ (o7.1 1).toInt ≤ 400 := h8
    refine lv_aload_n hx hb dX12_isOnceHere_20 rfl (lv_at hl 0 rfl) ?_
    refine lv_iload_n hx hb dX12_isOnceHere_21 rfl (lv_at hl 1 rfl) ?_
    refine lv_iload_n hx hb dX12_isOnceHere_22 rfl (lv_at hl 3 rfl) ?_
    refine lv_iload hx hb dX12_isOnceHere_23 (lv_at hl 4 rfl) ?_
    have hFc := va_free (wc := [(a_read, .inl (cs 0, 86, .inl a_read_c)), (a, .inr (12, [.ref a_tape, .int a__taped, .int a__rules, .ref a_sign, .ref a_length, .ref a_clause, .ref a_clauses, .ref a_read, .int (o7.1 1), .int a__wrong, .int a__number, .int a__text, .int a__made, .int a__deep, .int a__lines, .ref a_open, .int a__opened, .ref a_stack, .int a__top, .ref a_word, .ref a_said, .int a__x, .ref a_worth, .ref a_mate, .ref a_wasSaid, .int a__undone, .int a__boughtNow, .ref a_wayBy, .ref a_wayThen, .int a__walkMost, .int a__walkGoing, .int a__walkSet, .ref a_kept, .long a__drawX, .ref a_images, .ref a_imageX, .ref a_isMade])), (a_tape, .inl (cs 1, 400, .inl a_tape_c))]) hD hS hA [0,1,2] rfl
    refine va_calli (va_runV (As := [.int p0, .int p2, .int p3]) (rest := []) ⟨hx, hb, hml, hown, hT⟩ (c_X12_cellHere l D cs kK kV a p0 p2 p3 a_read a_read_c a_tape a__taped a__rules a_sign a_length a_clause a_clauses (o7.1 1) a__wrong a__number a__text a__made a__deep a__lines a_open a__opened a_stack a__top a_word a_said a__x a_worth a_mate a_wasSaid a__undone a__boughtNow a_wayBy a_wayThen a__walkMost a__walkGoing a__walkSet a_kept a__drawX a_images a_imageX a_isMade a_tape_c ((iv_w h_p0 (by decide) (by decide))) h_a__taped h_a__rules h8 h_a__text h_a__made h_a__lines h_a__opened h_a__top h_a__x h_a__undone ((ck_o hf0 (by omega))) H.size) (cwV 3 hT (hz_gV q_1030 q_1031 q_1032 q_701 q_1033) rfl rfl rfl (by decide +kernel) ⟨(Nat.le_of_ble_eq_true rfl), (Nat.le_of_ble_eq_true rfl)⟩) ⟨hz_C.blind, va_recv hK hP (ci := 12) (q0 := 1) rfl rfl, hz_C.mk (hP.sub (ws' := [(a_read, .inl (cs 0, 86, .inl a_read_c)), (a, .inr (12, [.ref a_tape, .int a__taped, .int a__rules, .ref a_sign, .ref a_length, .ref a_clause, .ref a_clauses, .ref a_read, .int (o7.1 1), .int a__wrong, .int a__number, .int a__text, .int a__made, .int a__deep, .int a__lines, .ref a_open, .int a__opened, .ref a_stack, .int a__top, .ref a_word, .ref a_said, .int a__x, .ref a_worth, .ref a_mate, .ref a_wasSaid, .int a__undone, .int a__boughtNow, .ref a_wayBy, .ref a_wayThen, .int a__walkMost, .int a__walkGoing, .int a__walkSet, .ref a_kept, .long a__drawX, .ref a_images, .ref a_imageX, .ref a_isMade])), (a_tape, .inl (cs 1, 400, .inl a_tape_c))]) [0,1,2] rfl) (hD.sub (ws' := [(a_read, .inl (cs 0, 86, .inl a_read_c)), (a, .inr (12, [.ref a_tape, .int a__taped, .int a__rules, .ref a_sign, .ref a_length, .ref a_clause, .ref a_clauses, .ref a_read, .int (o7.1 1), .int a__wrong, .int a__number, .int a__text, .int a__made, .int a__deep, .int a__lines, .ref a_open, .int a__opened, .ref a_stack, .int a__top, .ref a_word, .ref a_said, .int a__x, .ref a_worth, .ref a_mate, .ref a_wasSaid, .int a__undone, .int a__boughtNow, .ref a_wayBy, .ref a_wayThen, .int a__walkMost, .int a__walkGoing, .int a__walkSet, .ref a_kept, .long a__drawX, .ref a_images, .ref a_imageX, .ref a_isMade])), (a_tape, .inl (cs 1, 400, .inl a_tape_c))]) [0,1,2] (by decide) rfl) hE hS hFc⟩ rfl rfl hl.1 rfl (lv_room (Nat.le_of_ble_eq_true rfl)) dX12_isOnceHere_25 ⟨(Nat.le_of_ble_eq_true rfl), (Nat.le_of_ble_eq_true rfl)⟩) hS (fun q _ h => hFc q h) hFc (fun r12 o13 t H1 locs ht hvm hw hB hz1 hk1 hS => ?_)
    obtain ⟨hP1, hD1⟩ := hB
    rw [ht] at hP1
    obtain ⟨hP, hD⟩ := va_join (wr := []) (w1 := [(a_read, .inl (cs 0, 86, .inl (o13.2 0))), (a, .inr (12, [.ref a_tape, .int a__taped, .int a__rules, .ref a_sign, .ref a_length, .ref a_clause, .ref a_clauses, .ref a_read, .int (o13.1 2), .int (o13.1 3), .int (o13.1 1), .int a__text, .int a__made, .int a__deep, .int a__lines, .ref a_open, .int a__opened, .ref a_stack, .int a__top, .ref a_word, .ref a_said, .int a__x, .ref a_worth, .ref a_mate, .ref a_wasSaid, .int a__undone, .int a__boughtNow, .ref a_wayBy, .ref a_wayThen, .int a__walkMost, .int a__walkGoing, .int a__walkSet, .ref a_kept, .long a__drawX, .ref a_images, .ref a_imageX, .ref a_isMade])), (a_tape, .inl (cs 1, 400, .inl a_tape_c))]) hP hD [0, 1, 2] [] rfl rfl (by decide) (by decide) hk1 hFc hP1 hD1
    generalize H1 = H at hP hS ⊢
    have hP : va_P D classes [(a_read, .inl (cs 0, 86, .inl (o13.2 0))), (a, .inr (12, [.ref a_tape, .int a__taped, .int a__rules, .ref a_sign, .ref a_length, .ref a_clause, .ref a_clauses, .ref a_read, .int (o13.1 2), .int (o13.1 3), .int (o13.1 1), .int a__text, .int a__made, .int a__deep, .int a__lines, .ref a_open, .int a__opened, .ref a_stack, .int a__top, .ref a_word, .ref a_said, .int a__x, .ref a_worth, .ref a_mate, .ref a_wasSaid, .int a__undone, .int a__boughtNow, .ref a_wayBy, .ref a_wayThen, .int a__walkMost, .int a__walkGoing, .int a__walkSet, .ref a_kept, .long a__drawX, .ref a_images, .ref a_imageX, .ref a_isMade])), (a_tape, .inl (cs 1, 400, .inl a_tape_c))] H := hP
    have hD : va_D A [(a_read, .inl (cs 0, 86, .inl (o13.2 0))), (a, .inr (12, [.ref a_tape, .int a__taped, .int a__rules, .ref a_sign, .ref a_length, .ref a_clause, .ref a_clauses, .ref a_read, .int (o13.1 2), .int (o13.1 3), .int (o13.1 1), .int a__text, .int a__made, .int a__deep, .int a__lines, .ref a_open, .int a__opened, .ref a_stack, .int a__top, .ref a_word, .ref a_said, .int a__x, .ref a_worth, .ref a_mate, .ref a_wasSaid, .int a__undone, .int a__boughtNow, .ref a_wayBy, .ref a_wayThen, .int a__walkMost, .int a__walkGoing, .int a__walkSet, .ref a_kept, .long a__drawX, .ref a_images, .ref a_imageX, .ref a_isMade])), (a_tape, .inl (cs 1, 400, .inl a_tape_c))] := hD
    clear hk1 hFc hP1 hD1 hz1
    rcases hw with ⟨rfl, h14, x15, x16, x17⟩ | ⟨rfl, h18, h19, x20, x21, x22, x23, x24⟩
    · have ii25 : 0 ≤ (o13.1 2).toInt ∧ (o13.1 2).toInt ≤ 400 := h14
      refine W.widen (k := 0) (n := 0) (Nat.le_of_ble_eq_true rfl) (Nat.le_of_ble_eq_true rfl) ?_
      have g26 : a__next.toInt ≤ (o13.1 2).toInt := (by omega)
      exact W.zret (v := 0) hx hb hr rfl (fun t ht hW => ⟨⟨0, (fun k => match k with | 0 => 0 | 1 => o13.1 1 | 2 => o13.1 2 | 3 => o13.1 3 | _ => 0, fun k => match k with | 0 => o13.2 0 | _ => fun _ => 0), rfl, (Or.inl (⟨rfl, h14, g26, x16, x17⟩)), by rw [ht]; exact hP.sub [0, 1, 2] rfl, hD.sub [0, 1, 2] (by decide) rfl⟩, hS.F ht⟩) hS.2.2 dX12_isOnceHere_28
    · have ii27 : 1 ≤ a__taped.toInt ∧ a__taped.toInt ≤ 400 := h18
      have ii28 : 0 ≤ (o13.1 2).toInt ∧ (o13.1 2).toInt ≤ 400 := h19
      refine W.widen (k := 0) (n := 0) (Nat.le_of_ble_eq_true rfl) (Nat.le_of_ble_eq_true rfl) ?_
      have g29 : a__next.toInt ≤ (o13.1 2).toInt := (by omega)
      exact W.zret (v := 1) hx hb hr rfl (fun t ht hW => ⟨⟨1, (fun k => match k with | 0 => 0 | 1 => o13.1 1 | 2 => o13.1 2 | 3 => o13.1 3 | _ => 0, fun k => match k with | 0 => o13.2 0 | _ => fun _ => 0), rfl, (Or.inr ((⟨rfl, h18, h19, g29, x21⟩))), by rw [ht]; exact hP.sub [0, 1, 2] rfl, hD.sub [0, 1, 2] (by decide) rfl⟩, hS.F ht⟩) hS.2.2 dX12_isOnceHere_28
  · have t30 : v1.toInt ≥ 0 := lin_ltN c2 rfl (by decide)
    have h31 : IV 0 2147483647 v1 := iv_le2 (Int32.not_lt.mp c2) (iv_c (a := 0) (b := 0) (by decide)) iv_top (by decide)
    have ii32 : 0 ≤ v1.toInt ∧ v1.toInt ≤ 2147483647 := h31
    refine lv_aload_n hx hb dX12_isOnceHere_9 rfl (lv_at hl 0 rfl) ?_
    refine lv_iconst (v := 4) hx hb dX12_isOnceHere_10 (by decide) ?_
    refine lv_iload_n hx hb dX12_isOnceHere_11 rfl (lv_at hl 2 rfl) ?_
    have hFc := va_free (wc := [(a, .inr (12, [.ref a_tape, .int a__taped, .int a__rules, .ref a_sign, .ref a_length, .ref a_clause, .ref a_clauses, .ref a_read, .int a__next, .int a__wrong, .int a__number, .int a__text, .int a__made, .int a__deep, .int a__lines, .ref a_open, .int a__opened, .ref a_stack, .int a__top, .ref a_word, .ref a_said, .int a__x, .ref a_worth, .ref a_mate, .ref a_wasSaid, .int a__undone, .int a__boughtNow, .ref a_wayBy, .ref a_wayThen, .int a__walkMost, .int a__walkGoing, .int a__walkSet, .ref a_kept, .long a__drawX, .ref a_images, .ref a_imageX, .ref a_isMade]))]) hD hS hA [1] rfl
    refine va_calli (va_runV (As := [.int 4, .int p1]) (rest := []) ⟨hx, hb, hml, hown, hT⟩ (c_X12_fails l D cs kK kV a 4 p1 a_tape a__taped a__rules a_sign a_length a_clause a_clauses a_read a__next a__wrong a__number a__text a__made a__deep a__lines a_open a__opened a_stack a__top a_word a_said a__x a_worth a_mate a_wasSaid a__undone a__boughtNow a_wayBy a_wayThen a__walkMost a__walkGoing a__walkSet a_kept a__drawX a_images a_imageX a_isMade ((iv_c (by decide))) h_p1 h_a__taped h_a__rules h_a__next h_a__text h_a__made h_a__lines h_a__opened h_a__top h_a__x h_a__undone H.size) (cwV 2 hT (hz_gV q_960 q_961 q_962 q_701 q_963) rfl rfl rfl (by decide +kernel) ⟨(Nat.le_of_ble_eq_true rfl), (Nat.le_of_ble_eq_true rfl)⟩) ⟨hz_C.blind, va_recv hK hP (ci := 12) (q0 := 1) rfl rfl, hz_C.mk (hP.sub (ws' := [(a, .inr (12, [.ref a_tape, .int a__taped, .int a__rules, .ref a_sign, .ref a_length, .ref a_clause, .ref a_clauses, .ref a_read, .int a__next, .int a__wrong, .int a__number, .int a__text, .int a__made, .int a__deep, .int a__lines, .ref a_open, .int a__opened, .ref a_stack, .int a__top, .ref a_word, .ref a_said, .int a__x, .ref a_worth, .ref a_mate, .ref a_wasSaid, .int a__undone, .int a__boughtNow, .ref a_wayBy, .ref a_wayThen, .int a__walkMost, .int a__walkGoing, .int a__walkSet, .ref a_kept, .long a__drawX, .ref a_images, .ref a_imageX, .ref a_isMade]))]) [1] rfl) (hD.sub (ws' := [(a, .inr (12, [.ref a_tape, .int a__taped, .int a__rules, .ref a_sign, .ref a_length, .ref a_clause, .ref a_clauses, .ref a_read, .int a__next, .int a__wrong, .int a__number, .int a__text, .int a__made, .int a__deep, .int a__lines, .ref a_open, .int a__opened, .ref a_stack, .int a__top, .ref a_word, .ref a_said, .int a__x, .ref a_worth, .ref a_mate, .ref a_wasSaid, .int a__undone, .int a__boughtNow, .ref a_wayBy, .ref a_wayThen, .int a__walkMost, .int a__walkGoing, .int a__walkSet, .ref a_kept, .long a__drawX, .ref a_images, .ref a_imageX, .ref a_isMade]))]) [1] (by decide) rfl) hE hS hFc⟩ rfl rfl hl.1 rfl (lv_room (Nat.le_of_ble_eq_true rfl)) dX12_isOnceHere_12 ⟨(Nat.le_of_ble_eq_true rfl), (Nat.le_of_ble_eq_true rfl)⟩) hS (fun q _ h => hFc q h) hFc (fun r33 o34 t H1 locs ht hvm hw hB hz1 hk1 hS => ?_)
    obtain ⟨hP1, hD1⟩ := hB
    rw [ht] at hP1
    obtain ⟨hP, hD⟩ := va_join (wr := [(a_read, .inl (cs 0, 86, .inl a_read_c)), (a_tape, .inl (cs 1, 400, .inl a_tape_c))]) (w1 := [(a, .inr (12, [.ref a_tape, .int a__taped, .int a__rules, .ref a_sign, .ref a_length, .ref a_clause, .ref a_clauses, .ref a_read, .int a__next, .int (o34.1 1), .int a__number, .int a__text, .int a__made, .int a__deep, .int a__lines, .ref a_open, .int a__opened, .ref a_stack, .int a__top, .ref a_word, .ref a_said, .int a__x, .ref a_worth, .ref a_mate, .ref a_wasSaid, .int a__undone, .int a__boughtNow, .ref a_wayBy, .ref a_wayThen, .int a__walkMost, .int a__walkGoing, .int a__walkSet, .ref a_kept, .long a__drawX, .ref a_images, .ref a_imageX, .ref a_isMade]))]) hP hD [1] [0, 2] rfl rfl (by decide) (by decide) hk1 hFc hP1 hD1
    generalize H1 = H at hP hS ⊢
    have hP : va_P D classes [(a_read, .inl (cs 0, 86, .inl a_read_c)), (a_tape, .inl (cs 1, 400, .inl a_tape_c)), (a, .inr (12, [.ref a_tape, .int a__taped, .int a__rules, .ref a_sign, .ref a_length, .ref a_clause, .ref a_clauses, .ref a_read, .int a__next, .int (o34.1 1), .int a__number, .int a__text, .int a__made, .int a__deep, .int a__lines, .ref a_open, .int a__opened, .ref a_stack, .int a__top, .ref a_word, .ref a_said, .int a__x, .ref a_worth, .ref a_mate, .ref a_wasSaid, .int a__undone, .int a__boughtNow, .ref a_wayBy, .ref a_wayThen, .int a__walkMost, .int a__walkGoing, .int a__walkSet, .ref a_kept, .long a__drawX, .ref a_images, .ref a_imageX, .ref a_isMade]))] H := hP
    have hD : va_D A [(a_read, .inl (cs 0, 86, .inl a_read_c)), (a_tape, .inl (cs 1, 400, .inl a_tape_c)), (a, .inr (12, [.ref a_tape, .int a__taped, .int a__rules, .ref a_sign, .ref a_length, .ref a_clause, .ref a_clauses, .ref a_read, .int a__next, .int (o34.1 1), .int a__number, .int a__text, .int a__made, .int a__deep, .int a__lines, .ref a_open, .int a__opened, .ref a_stack, .int a__top, .ref a_word, .ref a_said, .int a__x, .ref a_worth, .ref a_mate, .ref a_wasSaid, .int a__undone, .int a__boughtNow, .ref a_wayBy, .ref a_wayThen, .int a__walkMost, .int a__walkGoing, .int a__walkSet, .ref a_kept, .long a__drawX, .ref a_images, .ref a_imageX, .ref a_isMade]))] := hD
    clear hk1 hFc hP1 hD1 hz1
    rcases hw with ⟨rfl, x35⟩
    refine W.widen (k := 0) (n := 0) (Nat.le_of_ble_eq_true rfl) (Nat.le_of_ble_eq_true rfl) ?_
    have g36 : a__next.toInt ≤ a__next.toInt := (by omega)
    exact W.zret (v := 0) hx hb hr rfl (fun t ht hW => ⟨⟨0, (fun k => match k with | 0 => 0 | 1 => a__number | 2 => a__next | 3 => o34.1 1 | _ => 0, fun k => match k with | 0 => a_read_c | _ => fun _ => 0), rfl, (Or.inl (⟨rfl, h_a__next, g36, hf0, x35⟩)), by rw [ht]; exact hP.sub [0, 2, 1] rfl, hD.sub [0, 2, 1] (by decide) rfl⟩, hS.F ht⟩) hS.2.2 dX12_isOnceHere_15
