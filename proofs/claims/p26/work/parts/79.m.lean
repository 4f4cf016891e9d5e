theorem dX12_summedBy_0 : decode cX12_summedBy 0 = .ok (.iconst 0, 1) := by decide +kernel
theorem dX12_summedBy_1 : decode cX12_summedBy 1 = .ok (.istore_n 3, 1) := by decide +kernel
theorem dX12_summedBy_2 : decode cX12_summedBy 2 = .ok (.iload_n 3, 1) := by decide +kernel
theorem dX12_summedBy_3 : decode cX12_summedBy 3 = .ok (.aload_n 0, 1) := by decide +kernel
theorem dX12_summedBy_4 : decode cX12_summedBy 4 = .ok (.getfield 23, 3) := by decide +kernel
theorem dX12_summedBy_7 : decode cX12_summedBy 7 = .ok (.iload_n 1, 1) := by decide +kernel
theorem dX12_summedBy_8 : decode cX12_summedBy 8 = .ok (.iaload, 1) := by decide +kernel
theorem dX12_summedBy_9 : decode cX12_summedBy 9 = .ok (.if_icmp .ge 94, 3) := by decide +kernel
theorem dX12_summedBy_12 : decode cX12_summedBy 12 = .ok (.bipush 60, 2) := by decide +kernel
theorem dX12_summedBy_14 : decode cX12_summedBy 14 = .ok (.iload_n 1, 1) := by decide +kernel
theorem dX12_summedBy_15 : decode cX12_summedBy 15 = .ok (.imul, 1) := by decide +kernel
theorem dX12_summedBy_16 : decode cX12_summedBy 16 = .ok (.iconst 5, 1) := by decide +kernel
theorem dX12_summedBy_17 : decode cX12_summedBy 17 = .ok (.iload_n 3, 1) := by decide +kernel
theorem dX12_summedBy_18 : decode cX12_summedBy 18 = .ok (.imul, 1) := by decide +kernel
theorem dX12_summedBy_19 : decode cX12_summedBy 19 = .ok (.iadd, 1) := by decide +kernel
theorem dX12_summedBy_20 : decode cX12_summedBy 20 = .ok (.istore 4, 2) := by decide +kernel
theorem dX12_summedBy_22 : decode cX12_summedBy 22 = .ok (.aload_n 0, 1) := by decide +kernel
theorem dX12_summedBy_23 : decode cX12_summedBy 23 = .ok (.getfield 20, 3) := by decide +kernel
theorem dX12_summedBy_26 : decode cX12_summedBy 26 = .ok (.iload 4, 2) := by decide +kernel
theorem dX12_summedBy_28 : decode cX12_summedBy 28 = .ok (.iaload, 1) := by decide +kernel
theorem dX12_summedBy_29 : decode cX12_summedBy 29 = .ok (.iload_n 2, 1) := by decide +kernel
theorem dX12_summedBy_30 : decode cX12_summedBy 30 = .ok (.if_icmp .ne 67, 3) := by decide +kernel
theorem dX12_summedBy_33 : decode cX12_summedBy 33 = .ok (.aload_n 0, 1) := by decide +kernel
theorem dX12_summedBy_34 : decode cX12_summedBy 34 = .ok (.getfield 20, 3) := by decide +kernel
theorem dX12_summedBy_37 : decode cX12_summedBy 37 = .ok (.iload 4, 2) := by decide +kernel
theorem dX12_summedBy_39 : decode cX12_summedBy 39 = .ok (.iconst 3, 1) := by decide +kernel
theorem dX12_summedBy_40 : decode cX12_summedBy 40 = .ok (.iadd, 1) := by decide +kernel
theorem dX12_summedBy_41 : decode cX12_summedBy 41 = .ok (.iaload, 1) := by decide +kernel
theorem dX12_summedBy_42 : decode cX12_summedBy 42 = .ok (.ifCond .lt 31, 3) := by decide +kernel
theorem dX12_summedBy_45 : decode cX12_summedBy 45 = .ok (.aload_n 0, 1) := by decide +kernel
theorem dX12_summedBy_46 : decode cX12_summedBy 46 = .ok (.iload_n 1, 1) := by decide +kernel
theorem dX12_summedBy_47 : decode cX12_summedBy 47 = .ok (.aload_n 0, 1) := by decide +kernel
theorem dX12_summedBy_48 : decode cX12_summedBy 48 = .ok (.getfield 20, 3) := by decide +kernel
theorem dX12_summedBy_51 : decode cX12_summedBy 51 = .ok (.iload 4, 2) := by decide +kernel
theorem dX12_summedBy_53 : decode cX12_summedBy 53 = .ok (.iconst 3, 1) := by decide +kernel
theorem dX12_summedBy_54 : decode cX12_summedBy 54 = .ok (.iadd, 1) := by decide +kernel
theorem dX12_summedBy_55 : decode cX12_summedBy 55 = .ok (.iaload, 1) := by decide +kernel
theorem dX12_summedBy_56 : decode cX12_summedBy 56 = .ok (.aload_n 0, 1) := by decide +kernel
theorem dX12_summedBy_57 : decode cX12_summedBy 57 = .ok (.getfield 20, 3) := by decide +kernel
theorem dX12_summedBy_60 : decode cX12_summedBy 60 = .ok (.iload 4, 2) := by decide +kernel
theorem dX12_summedBy_62 : decode cX12_summedBy 62 = .ok (.iconst 4, 1) := by decide +kernel
theorem dX12_summedBy_63 : decode cX12_summedBy 63 = .ok (.iadd, 1) := by decide +kernel
theorem dX12_summedBy_64 : decode cX12_summedBy 64 = .ok (.iaload, 1) := by decide +kernel
theorem dX12_summedBy_65 : decode cX12_summedBy 65 = .ok (.invokevirtual 390, 3) := by decide +kernel
theorem dX12_summedBy_68 : decode cX12_summedBy 68 = .ok (.lconst 1, 1) := by decide +kernel
theorem dX12_summedBy_69 : decode cX12_summedBy 69 = .ok (.lcmp, 1) := by decide +kernel
theorem dX12_summedBy_70 : decode cX12_summedBy 70 = .ok (.ifCond .ne 27, 3) := by decide +kernel
theorem dX12_summedBy_73 : decode cX12_summedBy 73 = .ok (.aload_n 0, 1) := by decide +kernel
theorem dX12_summedBy_74 : decode cX12_summedBy 74 = .ok (.iload_n 1, 1) := by decide +kernel
theorem dX12_summedBy_75 : decode cX12_summedBy 75 = .ok (.aload_n 0, 1) := by decide +kernel
theorem dX12_summedBy_76 : decode cX12_summedBy 76 = .ok (.getfield 20, 3) := by decide +kernel
theorem dX12_summedBy_79 : decode cX12_summedBy 79 = .ok (.iload 4, 2) := by decide +kernel
theorem dX12_summedBy_81 : decode cX12_summedBy 81 = .ok (.iconst 1, 1) := by decide +kernel
theorem dX12_summedBy_82 : decode cX12_summedBy 82 = .ok (.iadd, 1) := by decide +kernel
theorem dX12_summedBy_83 : decode cX12_summedBy 83 = .ok (.iaload, 1) := by decide +kernel
theorem dX12_summedBy_84 : decode cX12_summedBy 84 = .ok (.aload_n 0, 1) := by decide +kernel
theorem dX12_summedBy_85 : decode cX12_summedBy 85 = .ok (.getfield 20, 3) := by decide +kernel
theorem dX12_summedBy_88 : decode cX12_summedBy 88 = .ok (.iload 4, 2) := by decide +kernel
theorem dX12_summedBy_90 : decode cX12_summedBy 90 = .ok (.iconst 2, 1) := by decide +kernel
theorem dX12_summedBy_91 : decode cX12_summedBy 91 = .ok (.iadd, 1) := by decide +kernel
theorem dX12_summedBy_92 : decode cX12_summedBy 92 = .ok (.iaload, 1) := by decide +kernel
theorem dX12_summedBy_93 : decode cX12_summedBy 93 = .ok (.invokevirtual 390, 3) := by decide +kernel
theorem dX12_summedBy_96 : decode cX12_summedBy 96 = .ok (.lreturn, 1) := by decide +kernel
theorem dX12_summedBy_97 : decode cX12_summedBy 97 = .ok (.iinc 3 1, 3) := by decide +kernel
theorem dX12_summedBy_100 : decode cX12_summedBy 100 = .ok (.goto (-98), 3) := by decide +kernel
theorem dX12_summedBy_103 : decode cX12_summedBy 103 = .ok (.lconst 0, 1) := by decide +kernel
theorem dX12_summedBy_104 : decode cX12_summedBy 104 = .ok (.lreturn, 1) := by decide +kernel
set_option maxHeartbeats 4000000 in
set_option maxRecDepth 100000 in
theorem c_X12_summedBy (l : Launch) (D : va_G) (cs : Nat → ClassId) (kK kV : Nat → Nat) (a : Nat) (p0 : Int32) (p1 : Int32) (a_sign : Nat) (a_sign_c : Nat → Int32) (a_clause : Nat) (a_clause_c : Nat → Int32) (a_clauses : Nat) (a_clauses_c : Nat → Int32) (a_tape : Nat) (a__taped : Int32) (a__rules : Int32) (a_length : Nat) (a_read : Nat) (a__next : Int32) (a__wrong : Int32) (a__number : Int32) (a__text : Int32) (a__made : Int32) (a__deep : Int32) (a__lines : Int32) (a_open : Nat) (a__opened : Int32) (a_stack : Nat) (a__top : Int32) (a_word : Nat) (a_said : Nat) (a__x : Int32) (a_worth : Nat) (a_mate : Nat) (a_wasSaid : Nat) (a__undone : Int32) (a__boughtNow : Int32) (a_wayBy : Nat) (a_wayThen : Nat) (a__walkMost : Int32) (a__walkGoing : Int32) (a__walkSet : Int32) (a_kept : Nat) (a__drawX : Int64) (a_images : Nat) (a_imageX : Nat) (a_isMade : Nat) (a_stack_c : Nat → Int64) (a_word_c : Nat → Int64) (h_p0 : IV 0 5 p0) (h_a__taped : IV 0 400 a__taped) (h_a__rules : IV 0 6 a__rules) (h_a__next : IV 0 400 a__next) (h_a__text : IV 0 6 a__text) (h_a__made : IV 0 60 a__made) (h_a__lines : IV 0 40 a__lines) (h_a__opened : IV 0 400 a__opened) (h_a__top : IV 0 64 a__top) (h_a__x : IV 0 2147483647 a__x) (h_a__undone : IV 0 20 a__undone) (hf0 : RUS a_sign_c a_clause_c a_clauses_c a__rules.toInt) (hf1 : p0.toInt < a__rules.toInt) (sz : Nat) : Met l yX12_summedBy (hz_w yX12_summedBy cX12_summedBy 5 (some .long)) ({ frames := 2, cells := 0, slots := 0, locals := 54 }) (va_Pc [.ref a, .int p0, .int p1] (hz_C D cs kK kV sz [(a_sign, .inl (cs 0, 2400, .inl a_sign_c)), (a_clause, .inl (cs 0, 360, .inl a_clause_c)), (a_clauses, .inl (cs 0, 6, .inl a_clauses_c)), (a, .inr (12, [.ref a_tape, .int a__taped, .int a__rules, .ref a_sign, .ref a_length, .ref a_clause, .ref a_clauses, .ref a_read, .int a__next, .int a__wrong, .int a__number, .int a__text, .int a__made, .int a__deep, .int a__lines, .ref a_open, .int a__opened, .ref a_stack, .int a__top, .ref a_word, .ref a_said, .int a__x, .ref a_worth, .ref a_mate, .ref a_wasSaid, .int a__undone, .int a__boughtNow, .ref a_wayBy, .ref a_wayThen, .int a__walkMost, .int a__walkGoing, .int a__walkSet, .ref a_kept, .long a__drawX, .ref a_images, .ref a_imageX, .ref a_isMade])), (a_stack, .inl (cs 3, 64, .inr (.inl a_stack_c))), (a_word, .inl (cs 3, 13, .inr (.inl a_word_c)))])) (va_Ql (fun (r : Int64) (u : (Nat → Int32) × (Nat → Nat → Int32)) => (IV 0 64 (u.1 1))) (fun u t => ∃ (o_a_stack_c : Nat → Int64), va_P D classes [(a_sign, .inl (cs 0, 2400, .inl a_sign_c)), (a_clause, .inl (cs 0, 360, .inl a_clause_c)), (a_clauses, .inl (cs 0, 6, .inl a_clauses_c)), (a, .inr (12, [.ref a_tape, .int a__taped, .int a__rules, .ref a_sign, .ref a_length, .ref a_clause, .ref a_clauses, .ref a_read, .int a__next, .int a__wrong, .int a__number, .int a__text, .int a__made, .int a__deep, .int a__lines, .ref a_open, .int a__opened, .ref a_stack, .int (u.1 1), .ref a_word, .ref a_said, .int a__x, .ref a_worth, .ref a_mate, .ref a_wasSaid, .int a__undone, .int a__boughtNow, .ref a_wayBy, .ref a_wayThen, .int a__walkMost, .int a__walkGoing, .int a__walkSet, .ref a_kept, .long a__drawX, .ref a_images, .ref a_imageX, .ref a_isMade])), (a_stack, .inl (cs 3, 64, .inr (.inl o_a_stack_c))), (a_word, .inl (cs 3, 13, .inr (.inl a_word_c)))] t.heap ∧ va_D (va_A [(a_sign, .inl (cs 0, 2400, .inl a_sign_c)), (a_clause, .inl (cs 0, 360, .inl a_clause_c)), (a_clauses, .inl (cs 0, 6, .inl a_clauses_c)), (a, .inr (12, [.ref a_tape, .int a__taped, .int a__rules, .ref a_sign, .ref a_length, .ref a_clause, .ref a_clauses, .ref a_read, .int a__next, .int a__wrong, .int a__number, .int a__text, .int a__made, .int a__deep, .int a__lines, .ref a_open, .int a__opened, .ref a_stack, .int a__top, .ref a_word, .ref a_said, .int a__x, .ref a_worth, .ref a_mate, .ref a_wasSaid, .int a__undone, .int a__boughtNow, .ref a_wayBy, .ref a_wayThen, .int a__walkMost, .int a__walkGoing, .int a__walkSet, .ref a_kept, .long a__drawX, .ref a_images, .ref a_imageX, .ref a_isMade])), (a_stack, .inl (cs 3, 64, .inr (.inl a_stack_c))), (a_word, .inl (cs 3, 13, .inr (.inl a_word_c)))] sz) [(a_sign, .inl (cs 0, 2400, .inl a_sign_c)), (a_clause, .inl (cs 0, 360, .inl a_clause_c)), (a_clauses, .inl (cs 0, 6, .inl a_clauses_c)), (a, .inr (12, [.ref a_tape, .int a__taped, .int a__rules, .ref a_sign, .ref a_length, .ref a_clause, .ref a_clauses, .ref a_read, .int a__next, .int a__wrong, .int a__number, .int a__text, .int a__made, .int a__deep, .int a__lines, .ref a_open, .int a__opened, .ref a_stack, .int (u.1 1), .ref a_word, .ref a_said, .int a__x, .ref a_worth, .ref a_mate, .ref a_wasSaid, .int a__undone, .int a__boughtNow, .ref a_wayBy, .ref a_wayThen, .int a__walkMost, .int a__walkGoing, .int a__walkSet, .ref a_kept, .long a__drawX, .ref a_images, .ref a_imageX, .ref a_isMade])), (a_stack, .inl (cs 3, 64, .inr (.inl o_a_stack_c))), (a_word, .inl (cs 3, 13, .inr (.inl a_word_c)))]) (va_A [(a_sign, .inl (cs 0, 2400, .inl a_sign_c)), (a_clause, .inl (cs 0, 360, .inl a_clause_c)), (a_clauses, .inl (cs 0, 6, .inl a_clauses_c)), (a, .inr (12, [.ref a_tape, .int a__taped, .int a__rules, .ref a_sign, .ref a_length, .ref a_clause, .ref a_clauses, .ref a_read, .int a__next, .int a__wrong, .int a__number, .int a__text, .int a__made, .int a__deep, .int a__lines, .ref a_open, .int a__opened, .ref a_stack, .int a__top, .ref a_word, .ref a_said, .int a__x, .ref a_worth, .ref a_mate, .ref a_wasSaid, .int a__undone, .int a__boughtNow, .ref a_wayBy, .ref a_wayThen, .int a__walkMost, .int a__walkGoing, .int a__walkSet, .ref a_kept, .long a__drawX, .ref a_images, .ref a_imageX, .ref a_isMade])), (a_stack, .inl (cs 3, 64, .inr (.inl a_stack_c))), (a_word, .inl (cs 3, 13, .inr (.inl a_word_c)))] sz)) 0 0 (va_A [(a_sign, .inl (cs 0, 2400, .inl a_sign_c)), (a_clause, .inl (cs 0, 360, .inl a_clause_c)), (a_clauses, .inl (cs 0, 6, .inl a_clauses_c)), (a, .inr (12, [.ref a_tape, .int a__taped, .int a__rules, .ref a_sign, .ref a_length, .ref a_clause, .ref a_clauses, .ref a_read, .int a__next, .int a__wrong, .int a__number, .int a__text, .int a__made, .int a__deep, .int a__lines, .ref a_open, .int a__opened, .ref a_stack, .int a__top, .ref a_word, .ref a_said, .int a__x, .ref a_worth, .ref a_mate, .ref a_wasSaid, .int a__undone, .int a__boughtNow, .ref a_wayBy, .ref a_wayThen, .int a__walkMost, .int a__walkGoing, .int a__walkSet, .ref a_kept, .long a__drawX, .ref a_images, .ref a_imageX, .ref a_isMade])), (a_stack, .inl (cs 3, 64, .inr (.inl a_stack_c))), (a_word, .inl (cs 3, 13, .inr (.inl a_word_c)))] sz) := by
  refine Met.ofW (cc := cX12_summedBy) (maxL := 5) (ret := (some .long)) (by decide) rfl ?_
  intro p e s m args below meth c s₁ B hml hv
  obtain ⟨rfl, hsz, hP, hD0, hE⟩ := hv
  have hx := B.exec
  have hb := B.bytes
  have hr := B.returns
  have hT : ∀ w ∈ TB, w.before _ s = true := fun w h => atoms_spec (ws := hz_w yX12_summedBy cX12_summedBy 5 (some .long)) B.pre w (List.mem_cons_of_mem _ h)
  have hown : s.vm.findClass RX12 = some m.cls := findClass_of_methodNamed B.named
  have hlocks := B.notSynchronized
  clear B
  subst hsz
  have hD := hD0.self (sz := s.heap.size)
  generalize hAe : va_A [(a_sign, .inl (cs 0, 2400, .inl a_sign_c)), (a_clause, .inl (cs 0, 360, .inl a_clause_c)), (a_clauses, .inl (cs 0, 6, .inl a_clauses_c)), (a, .inr (12, [.ref a_tape, .int a__taped, .int a__rules, .ref a_sign, .ref a_length, .ref a_clause, .ref a_clauses, .ref a_read, .int a__next, .int a__wrong, .int a__number, .int a__text, .int a__made, .int a__deep, .int a__lines, .ref a_open, .int a__opened, .ref a_stack, .int a__top, .ref a_word, .ref a_said, .int a__x, .ref a_worth, .ref a_mate, .ref a_wasSaid, .int a__undone, .int a__boughtNow, .ref a_wayBy, .ref a_wayThen, .int a__walkMost, .int a__walkGoing, .int a__walkSet, .ref a_kept, .long a__drawX, .ref a_images, .ref a_imageX, .ref a_isMade])), (a_stack, .inl (cs 3, 64, .inr (.inl a_stack_c))), (a_word, .inl (cs 3, 13, .inr (.inl a_word_c)))] s.heap.size = A at hD hE ⊢
  have hA : ∀ q : Nat, s.heap.size ≤ q → A q := fun q h => by rw [← hAe]; exact Or.inr h
  clear hAe hD0
  have hS : va_S A s.heap s.heap [] := va_S.rf
  have hK := hE.1
  have hl := lv_entry ([.ref a, .int p0, .int p1]) (n := 5) (Nat.le_of_ble_eq_true rfl)
  rw [lg_entry_eq]
  generalize (lg_sl ([.ref a, .int p0, .int p1]) ++ List.replicate (5 - (lg_sl ([.ref a, .int p0, .int p1])).length) Slot.unset).toArray = ls at hl ⊢
  have hl : lv_has ls 5 [(0, .ref a), (1, .int p0), (2, .int p1)] := hl
  obtain ⟨H, eH⟩ : ∃ z, z = s.heap := ⟨_, rfl⟩
  have hP : va_P D classes [(a_sign, .inl (cs 0, 2400, .inl a_sign_c)), (a_clause, .inl (cs 0, 360, .inl a_clause_c)), (a_clauses, .inl (cs 0, 6, .inl a_clauses_c)), (a, .inr (12, [.ref a_tape, .int a__taped, .int a__rules, .ref a_sign, .ref a_length, .ref a_clause, .ref a_clauses, .ref a_read, .int a__next, .int a__wrong, .int a__number, .int a__text, .int a__made, .int a__deep, .int a__lines, .ref a_open, .int a__opened, .ref a_stack, .int a__top, .ref a_word, .ref a_said, .int a__x, .ref a_worth, .ref a_mate, .ref a_wasSaid, .int a__undone, .int a__boughtNow, .ref a_wayBy, .ref a_wayThen, .int a__walkMost, .int a__walkGoing, .int a__walkSet, .ref a_kept, .long a__drawX, .ref a_images, .ref a_imageX, .ref a_isMade])), (a_stack, .inl (cs 3, 64, .inr (.inl a_stack_c))), (a_word, .inl (cs 3, 13, .inr (.inl a_word_c)))] H := by rw [eH]; exact hP
  have hS : va_S A s.heap H [] := by rw [eH]; exact hS
  rw [← eH]
  clear eH
  obtain ⟨locs, el⟩ : ∃ z : List Loc, z = [] := ⟨_, rfl⟩
  rw [← el] at hS ⊢
  clear el
  have z0 : (0 : Int32).toInt = 0 := by decide
  have z1 : (1 : Int32).toInt = 1 := by decide
  have zm1 : (-1 : Int32).toInt = -1 := by decide
  have i_a__lines : 0 ≤ a__lines.toInt ∧ a__lines.toInt ≤ 40 := h_a__lines
  have i_a__made : 0 ≤ a__made.toInt ∧ a__made.toInt ≤ 60 := h_a__made
  have i_a__next : 0 ≤ a__next.toInt ∧ a__next.toInt ≤ 400 := h_a__next
  have i_a__opened : 0 ≤ a__opened.toInt ∧ a__opened.toInt ≤ 400 := h_a__opened
  have i_a__rules : 0 ≤ a__rules.toInt ∧ a__rules.toInt ≤ 6 := h_a__rules
  have i_a__taped : 0 ≤ a__taped.toInt ∧ a__taped.toInt ≤ 400 := h_a__taped
  have i_a__text : 0 ≤ a__text.toInt ∧ a__text.toInt ≤ 6 := h_a__text
  have i_a__top : 0 ≤ a__top.toInt ∧ a__top.toInt ≤ 64 := h_a__top
  have i_a__undone : 0 ≤ a__undone.toInt ∧ a__undone.toInt ≤ 20 := h_a__undone
  have i_a__x : 0 ≤ a__x.toInt ∧ a__x.toInt ≤ 2147483647 := h_a__x
  have i_p0 : 0 ≤ p0.toInt ∧ p0.toInt ≤ 5 := h_p0
  have K2 : ∀ (n : Nat) (k2_L_3 : Int32) (k2_F_a_18 : Int32) (k2_C_a_stack : Nat → Int64), (13 - k2_L_3.toInt).toNat ≤ n → IV 0 64 k2_F_a_18 → IV 0 12 k2_L_3 → ∀ (H : Heap) (locs : List Loc), va_P D classes [(a_sign, .inl (cs 0, 2400, .inl a_sign_c)), (a_clause, .inl (cs 0, 360, .inl a_clause_c)), (a_clauses, .inl (cs 0, 6, .inl a_clauses_c)), (a, .inr (12, [.ref a_tape, .int a__taped, .int a__rules, .ref a_sign, .ref a_length, .ref a_clause, .ref a_clauses, .ref a_read, .int a__next, .int a__wrong, .int a__number, .int a__text, .int a__made, .int a__deep, .int a__lines, .ref a_open, .int a__opened, .ref a_stack, .int k2_F_a_18, .ref a_word, .ref a_said, .int a__x, .ref a_worth, .ref a_mate, .ref a_wasSaid, .int a__undone, .int a__boughtNow, .ref a_wayBy, .ref a_wayThen, .int a__walkMost, .int a__walkGoing, .int a__walkSet, .ref a_kept, .long a__drawX, .ref a_images, .ref a_imageX, .ref a_isMade])), (a_stack, .inl (cs 3, 64, .inr (.inl k2_C_a_stack))), (a_word, .inl (cs 3, 13, .inr (.inl a_word_c)))] H → va_D A [(a_sign, .inl (cs 0, 2400, .inl a_sign_c)), (a_clause, .inl (cs 0, 360, .inl a_clause_c)), (a_clauses, .inl (cs 0, 6, .inl a_clauses_c)), (a, .inr (12, [.ref a_tape, .int a__taped, .int a__rules, .ref a_sign, .ref a_length, .ref a_clause, .ref a_clauses, .ref a_read, .int a__next, .int a__wrong, .int a__number, .int a__text, .int a__made, .int a__deep, .int a__lines, .ref a_open, .int a__opened, .ref a_stack, .int k2_F_a_18, .ref a_word, .ref a_said, .int a__x, .ref a_worth, .ref a_mate, .ref a_wasSaid, .int a__undone, .int a__boughtNow, .ref a_wayBy, .ref a_wayThen, .int a__walkMost, .int a__walkGoing, .int a__walkSet, .ref a_kept, .long a__drawX, .ref a_images, .ref a_imageX, .ref a_isMade])), (a_stack, .inl (cs 3, 64, .inr (.inl k2_C_a_stack))), (a_word, .inl (cs 3, 13, .inr (.inl a_word_c)))] → va_S A s.heap H locs → ∀ ls : Array Slot, lv_has ls 5 [(3, .int k2_L_3), (0, .ref a), (1, .int p0), (2, .int p1)] → W p l e (headSpec (hz_w yX12_summedBy cX12_summedBy 5 (some .long)) ({ frames := 2, cells := 0, slots := 0, locals := 54 })).room s m [.ref a, .int p0, .int p1].toArray below meth c H locs 0 0 (MQ below (va_Ql (fun (r : Int64) (u : (Nat → Int32) × (Nat → Nat → Int32)) => (IV 0 64 (u.1 1))) (fun u t => ∃ (o_a_stack_c : Nat → Int64), va_P D classes [(a_sign, .inl (cs 0, 2400, .inl a_sign_c)), (a_clause, .inl (cs 0, 360, .inl a_clause_c)), (a_clauses, .inl (cs 0, 6, .inl a_clauses_c)), (a, .inr (12, [.ref a_tape, .int a__taped, .int a__rules, .ref a_sign, .ref a_length, .ref a_clause, .ref a_clauses, .ref a_read, .int a__next, .int a__wrong, .int a__number, .int a__text, .int a__made, .int a__deep, .int a__lines, .ref a_open, .int a__opened, .ref a_stack, .int (u.1 1), .ref a_word, .ref a_said, .int a__x, .ref a_worth, .ref a_mate, .ref a_wasSaid, .int a__undone, .int a__boughtNow, .ref a_wayBy, .ref a_wayThen, .int a__walkMost, .int a__walkGoing, .int a__walkSet, .ref a_kept, .long a__drawX, .ref a_images, .ref a_imageX, .ref a_isMade])), (a_stack, .inl (cs 3, 64, .inr (.inl o_a_stack_c))), (a_word, .inl (cs 3, 13, .inr (.inl a_word_c)))] t.heap ∧ va_D A [(a_sign, .inl (cs 0, 2400, .inl a_sign_c)), (a_clause, .inl (cs 0, 360, .inl a_clause_c)), (a_clauses, .inl (cs 0, 6, .inl a_clauses_c)), (a, .inr (12, [.ref a_tape, .int a__taped, .int a__rules, .ref a_sign, .ref a_length, .ref a_clause, .ref a_clauses, .ref a_read, .int a__next, .int a__wrong, .int a__number, .int a__text, .int a__made, .int a__deep, .int a__lines, .ref a_open, .int a__opened, .ref a_stack, .int (u.1 1), .ref a_word, .ref a_said, .int a__x, .ref a_worth, .ref a_mate, .ref a_wasSaid, .int a__undone, .int a__boughtNow, .ref a_wayBy, .ref a_wayThen, .int a__walkMost, .int a__walkGoing, .int a__walkSet, .ref a_kept, .long a__drawX, .ref a_images, .ref a_imageX, .ref a_isMade])), (a_stack, .inl (cs 3, 64, .inr (.inl o_a_stack_c))), (a_word, .inl (cs 3, 13, .inr (.inl a_word_c)))]) A) [.ref a, .int p0, .int p1].toArray s 0 0 A) (F0 m 2 ls []) := by
    intro n
    induction n with
    | zero =>
      intro k2_L_3 k2_F_a_18 k2_C_a_stack hn q2_9 q2_10 H locs hP hD hS ls hl
      have i_a__lines : 0 ≤ a__lines.toInt ∧ a__lines.toInt ≤ 40 := h_a__lines
      have i_a__made : 0 ≤ a__made.toInt ∧ a__made.toInt ≤ 60 := h_a__made
      have i_a__next : 0 ≤ a__next.toInt ∧ a__next.toInt ≤ 400 := h_a__next
      have i_a__opened : 0 ≤ a__opened.toInt ∧ a__opened.toInt ≤ 400 := h_a__opened
      have i_a__rules : 0 ≤ a__rules.toInt ∧ a__rules.toInt ≤ 6 := h_a__rules
      have i_a__taped : 0 ≤ a__taped.toInt ∧ a__taped.toInt ≤ 400 := h_a__taped
      have i_a__text : 0 ≤ a__text.toInt ∧ a__text.toInt ≤ 6 := h_a__text
      have i_a__undone : 0 ≤ a__undone.toInt ∧ a__undone.toInt ≤ 20 := h_a__undone
      have i_a__x : 0 ≤ a__x.toInt ∧ a__x.toInt ≤ 2147483647 := h_a__x
      have i_k2_F_a_18 : 0 ≤ k2_F_a_18.toInt ∧ k2_F_a_18.toInt ≤ 64 := q2_9
      have i_k2_L_3 : 0 ≤ k2_L_3.toInt ∧ k2_L_3.toInt ≤ 12 := q2_10
      have i_p0 : 0 ≤ p0.toInt ∧ p0.toInt ≤ 5 := h_p0
      exact absurd hn (by omega)
    | succ n ih2 =>
      intro k2_L_3 k2_F_a_18 k2_C_a_stack hn q2_9 q2_10 H locs hP hD hS ls hl
      have i_a__lines : 0 ≤ a__lines.toInt ∧ a__lines.toInt ≤ 40 := h_a__lines
      have i_a__made : 0 ≤ a__made.toInt ∧ a__made.toInt ≤ 60 := h_a__made
      have i_a__next : 0 ≤ a__next.toInt ∧ a__next.toInt ≤ 400 := h_a__next
      have i_a__opened : 0 ≤ a__opened.toInt ∧ a__opened.toInt ≤ 400 := h_a__opened
      have i_a__rules : 0 ≤ a__rules.toInt ∧ a__rules.toInt ≤ 6 := h_a__rules
      have i_a__taped : 0 ≤ a__taped.toInt ∧ a__taped.toInt ≤ 400 := h_a__taped
      have i_a__text : 0 ≤ a__text.toInt ∧ a__text.toInt ≤ 6 := h_a__text
      have i_a__undone : 0 ≤ a__undone.toInt ∧ a__undone.toInt ≤ 20 := h_a__undone
      have i_a__x : 0 ≤ a__x.toInt ∧ a__x.toInt ≤ 2147483647 := h_a__x
      have i_k2_F_a_18 : 0 ≤ k2_F_a_18.toInt ∧ k2_F_a_18.toInt ≤ 64 := q2_9
      have i_k2_L_3 : 0 ≤ k2_L_3.toInt ∧ k2_L_3.toInt ≤ 12 := q2_10
      have i_p0 : 0 ≤ p0.toInt ∧ p0.toInt ≤ 5 := h_p0
      refine lv_iload_n hx hb dX12_summedBy_2 rfl (lv_at hl 0 rfl) ?_
      refine lv_aload_n hx hb dX12_summedBy_3 rfl (lv_at hl 1 rfl) ?_
      refine va_get (D := D) (ci := 12) (v := .ref a_clauses) (C := RX12) (T := TX12) (N := 37) hx hb hT i_X12 hown hK hP 3 rfl rfl 6 (by decide) (hT _ q_180) (fun _ h9 => h9) rfl dX12_summedBy_4 ?_
      refine lv_iload_n hx hb dX12_summedBy_7 rfl (lv_at hl 2 rfl) ?_
      refine va_iald hx hb hK hP 2 0 rfl rfl (iv_v h_p0 (by decide) (by decide)) dX12_summedBy_8 ?_
      refine lv_topi (fun v1 ev1 => ?_)
      have lv1 : v1.toInt = (a_clauses_c (Int32.toNatClampNeg p0)).toInt := by rw [ev1]
      have h2 : IV 0 12 v1 := (by rw [ev1]; exact ⟨(hf0 p0.toInt.toNat (by omega)).2.1, (hf0 p0.toInt.toNat (by omega)).2.2⟩)
      have ii3 : 0 ≤ v1.toInt ∧ v1.toInt ≤ 12 := h2
      refine lv_icmp_ge (tgt := 103) hx hb dX12_summedBy_9 (by decide) (fun c4 => ?_) (fun c4 => ?_)
      · have t5 : k2_L_3.toInt ≥ v1.toInt := lin_ge c4 rfl rfl
        refine lv_lconst (v := 0) hx hb dX12_summedBy_103 (by decide) ?_
        refine W.widen (k := 0) (n := 0) (Nat.le_of_ble_eq_true rfl) (Nat.le_of_ble_eq_true rfl) ?_
        exact W.lret (v := 0) hx hb hr (fun t ht hW => ⟨⟨0, (fun k => match k with | 0 => 0 | 1 => k2_F_a_18 | _ => 0, fun _ _ => 0), rfl, (q2_9), k2_C_a_stack, by rw [ht]; exact hP.sub [0, 1, 2, 3, 4, 5] rfl, hD.sub [0, 1, 2, 3, 4, 5] (by decide) rfl⟩, hS.F ht⟩) hS.2.2 dX12_summedBy_104
      · have t6 : k2_L_3.toInt < v1.toInt := lin_geN c4 rfl rfl
        have h7 : IV 0 11 k2_L_3 := iv_lt1 (Int32.not_le.mp c4) q2_10 h2 (by decide)
        have ii8 : 0 ≤ k2_L_3.toInt ∧ k2_L_3.toInt ≤ 11 := h7
        have h9 : IV 1 12 v1 := iv_lt2 (Int32.not_le.mp c4) q2_10 h2 (by decide)
        have ii10 : 1 ≤ v1.toInt ∧ v1.toInt ≤ 12 := h9
        refine lv_bipush (v := 60) hx hb dX12_summedBy_12 (by decide) ?_
        refine lv_iload_n hx hb dX12_summedBy_14 rfl (lv_at hl 2 rfl) ?_
        refine lv_imul hx hb dX12_summedBy_15 ?_
        refine lv_topi (fun v11 ev11 => ?_)
        have hv11 : IV 0 300 v11 := iv_mul ev11 (iv_c (a := 60) (b := 60) (by decide)) h_p0 (by decide) (by decide) (by decide) (by decide)
        have ii12 : 0 ≤ v11.toInt ∧ v11.toInt ≤ 300 := hv11
        have lv11 : v11.toInt = 60 * p0.toInt := lin_mul ev11 (iv_c (a := 60) (b := 60) (by decide)) h_p0 (by decide) rfl (by decide) (by decide) (by decide) (by decide)
        refine lv_iconst (v := 5) hx hb dX12_summedBy_16 (by decide) ?_
        refine lv_iload_n hx hb dX12_summedBy_17 rfl (lv_at hl 0 rfl) ?_
        refine lv_imul hx hb dX12_summedBy_18 ?_
        refine lv_topi (fun v13 ev13 => ?_)
        have hv13 : IV 0 55 v13 := iv_mul ev13 (iv_c (a := 5) (b := 5) (by decide)) h7 (by decide) (by decide) (by decide) (by decide)
        have ii14 : 0 ≤ v13.toInt ∧ v13.toInt ≤ 55 := hv13
        have lv13 : v13.toInt = 5 * k2_L_3.toInt := lin_mul ev13 (iv_c (a := 5) (b := 5) (by decide)) h7 (by decide) rfl (by decide) (by decide) (by decide) (by decide)
        refine lv_iadd hx hb dX12_summedBy_19 ?_
        refine lv_topi (fun v15 ev15 => ?_)
        have hv15 : IV 0 355 v15 := iv_add ev15 hv11 hv13 (by decide) (by decide)
        have ii16 : 0 ≤ v15.toInt ∧ v15.toInt ≤ 355 := hv15
        have lv15 : v15.toInt = v11.toInt + v13.toInt := lin_add ev15 hv11 hv13 rfl rfl (by decide) (by decide)
        refine lv_istore (lv' := [(4, .int v15), (3, .int k2_L_3), (0, .ref a), (1, .int p0), (2, .int p1)]) hx hb dX12_summedBy_20 hl (by decide) rfl (fun ls hl => ?_)
        refine lv_aload_n hx hb dX12_summedBy_22 rfl (lv_at hl 2 rfl) ?_
        refine va_get (D := D) (ci := 12) (v := .ref a_clause) (C := RX12) (T := TX12) (N := 37) hx hb hT i_X12 hown hK hP 3 rfl rfl 5 (by decide) (hT _ q_179) (fun _ h9 => h9) rfl dX12_summedBy_23 ?_
        refine lv_iload hx hb dX12_summedBy_26 (lv_at hl 0 rfl) ?_
        refine va_iald hx hb hK hP 1 0 rfl rfl (iv_v hv15 (by decide) (by decide)) dX12_summedBy_28 ?_
        refine lv_topi (fun v17 ev17 => ?_)
        have lv17 : v17.toInt = (a_clause_c (Int32.toNatClampNeg v15)).toInt := by rw [ev17]
        refine lv_iload_n hx hb dX12_summedBy_29 rfl (lv_at hl 4 rfl) ?_
        refine lv_icmp_ne (tgt := 97) hx hb dX12_summedBy_30 (by decide) (fun c18 => ?_) (fun c18 => ?_)
        · have t19 : v17.toInt ≠ p1.toInt := lin_ne c18 rfl rfl
          obtain ⟨v20, ev20⟩ : ∃ z : Int32, z = k2_L_3 + 1 := ⟨_, rfl⟩
          have hv20 : IV 1 12 v20 := iv_add ev20 h7 (iv_c (a := 1) (b := 1) (by decide)) (by decide) (by decide)
          have dv20 : v20.toInt = k2_L_3.toInt + 1 := iv_addE ev20 h7 (iv_c (a := 1) (b := 1) (by decide)) (by decide) (by decide) (by decide)
          refine lv_iinc (v := v20) (lv' := [(3, .int v20), (4, .int v15), (0, .ref a), (1, .int p0), (2, .int p1)]) hx hb dX12_summedBy_97 hl (k := 1) rfl (by rw [ev20]; rfl) (by decide) rfl (fun ls hl => ?_)
          refine lv_goto (tgt := 2) hx hb dX12_summedBy_100 (by decide) ?_
          exact ih2 v20 k2_F_a_18 k2_C_a_stack (by have h9 := hn; omega) q2_9 (iv_w hv20 (by decide) (by decide)) H locs (hP.sub (ws' := [(a_sign, .inl (cs 0, 2400, .inl a_sign_c)), (a_clause, .inl (cs 0, 360, .inl a_clause_c)), (a_clauses, .inl (cs 0, 6, .inl a_clauses_c)), (a, .inr (12, [.ref a_tape, .int a__taped, .int a__rules, .ref a_sign, .ref a_length, .ref a_clause, .ref a_clauses, .ref a_read, .int a__next, .int a__wrong, .int a__number, .int a__text, .int a__made, .int a__deep, .int a__lines, .ref a_open, .int a__opened, .ref a_stack, .int k2_F_a_18, .ref a_word, .ref a_said, .int a__x, .ref a_worth, .ref a_mate, .ref a_wasSaid, .int a__undone, .int a__boughtNow, .ref a_wayBy, .ref a_wayThen, .int a__walkMost, .int a__walkGoing, .int a__walkSet, .ref a_kept, .long a__drawX, .ref a_images, .ref a_imageX, .ref a_isMade])), (a_stack, .inl (cs 3, 64, .inr (.inl k2_C_a_stack))), (a_word, .inl (cs 3, 13, .inr (.inl a_word_c)))]) [0, 1, 2, 3, 4, 5] rfl) (hD.sub (ws' := [(a_sign, .inl (cs 0, 2400, .inl a_sign_c)), (a_clause, .inl (cs 0, 360, .inl a_clause_c)), (a_clauses, .inl (cs 0, 6, .inl a_clauses_c)), (a, .inr (12, [.ref a_tape, .int a__taped, .int a__rules, .ref a_sign, .ref a_length, .ref a_clause, .ref a_clauses, .ref a_read, .int a__next, .int a__wrong, .int a__number, .int a__text, .int a__made, .int a__deep, .int a__lines, .ref a_open, .int a__opened, .ref a_stack, .int k2_F_a_18, .ref a_word, .ref a_said, .int a__x, .ref a_worth, .ref a_mate, .ref a_wasSaid, .int a__undone, .int a__boughtNow, .ref a_wayBy, .ref a_wayThen, .int a__walkMost, .int a__walkGoing, .int a__walkSet, .ref a_kept, .long a__drawX, .ref a_images, .ref a_imageX, .ref a_isMade])), (a_stack, .inl (cs 3, 64, .inr (.inl k2_C_a_stack))), (a_word, .inl (cs 3, 13, .inr (.inl a_word_c)))]) [0, 1, 2, 3, 4, 5] (by decide) rfl) hS ls (lv_sub hl [0, 2, 3, 4] rfl)
        · have t21 : v17.toInt = p1.toInt := lin_eqN c18 rfl rfl
          refine lv_aload_n hx hb dX12_summedBy_33 rfl (lv_at hl 2 rfl) ?_
          refine va_get (D := D) (ci := 12) (v := .ref a_clause) (C := RX12) (T := TX12) (N := 37) hx hb hT i_X12 hown hK hP 3 rfl rfl 5 (by decide) (hT _ q_179) (fun _ h9 => h9) rfl dX12_summedBy_34 ?_
          refine lv_iload hx hb dX12_summedBy_37 (lv_at hl 0 rfl) ?_
          refine lv_iconst (v := 3) hx hb dX12_summedBy_39 (by decide) ?_
          refine lv_iadd hx hb dX12_summedBy_40 ?_
          refine lv_topi (fun v22 ev22 => ?_)
          have hv22 : IV 3 358 v22 := iv_add ev22 hv15 (iv_c (a := 3) (b := 3) (by decide)) (by decide) (by decide)
          have ii23 : 3 ≤ v22.toInt ∧ v22.toInt ≤ 358 := hv22
          have dv22 : v22.toInt = v15.toInt + 3 := iv_addE ev22 hv15 (iv_c (a := 3) (b := 3) (by decide)) (by decide) (by decide) (by decide)
          have lv22 : v22.toInt = v15.toInt + 3 := lin_add ev22 hv15 (iv_c (a := 3) (b := 3) (by decide)) rfl (by decide) (by decide) (by decide)
          refine va_iald hx hb hK hP 1 0 rfl rfl (iv_v hv22 (by decide) (by decide)) dX12_summedBy_41 ?_
          refine lv_topi (fun v24 ev24 => ?_)
          have lv24 : v24.toInt = (a_clause_c (Int32.toNatClampNeg v22)).toInt := by rw [ev24]
          refine lv_if_lt (tgt := 73) hx hb dX12_summedBy_42 (by decide) (fun c25 => ?_) (fun c25 => ?_)
          · have t26 : v24.toInt < 0 := lin_lt c25 rfl (by decide)
            have h27 : IV (-2147483648) (-1) v24 := iv_lt1 c25 iv_top (iv_c (a := 0) (b := 0) (by decide)) (by decide)
            have ii28 : (-2147483648) ≤ v24.toInt ∧ v24.toInt ≤ (-1) := h27
            refine lv_aload_n hx hb dX12_summedBy_73 rfl (lv_at hl 2 rfl) ?_
            refine lv_iload_n hx hb dX12_summedBy_74 rfl (lv_at hl 3 rfl) ?_
            refine lv_aload_n hx hb dX12_summedBy_75 rfl (lv_at hl 2 rfl) ?_
            refine va_get (D := D) (ci := 12) (v := .ref a_clause) (C := RX12) (T := TX12) (N := 37) hx hb hT i_X12 hown hK hP 3 rfl rfl 5 (by decide) (hT _ q_179) (fun _ h9 => h9) rfl dX12_summedBy_76 ?_
            refine lv_iload hx hb dX12_summedBy_79 (lv_at hl 0 rfl) ?_
            refine lv_iconst (v := 1) hx hb dX12_summedBy_81 (by decide) ?_
            refine lv_iadd hx hb dX12_summedBy_82 ?_
            refine lv_topi (fun v29 ev29 => ?_)
            have hv29 : IV 1 356 v29 := iv_add ev29 hv15 (iv_c (a := 1) (b := 1) (by decide)) (by decide) (by decide)
            have ii30 : 1 ≤ v29.toInt ∧ v29.toInt ≤ 356 := hv29
            have dv29 : v29.toInt = v15.toInt + 1 := iv_addE ev29 hv15 (iv_c (a := 1) (b := 1) (by decide)) (by decide) (by decide) (by decide)
            have lv29 : v29.toInt = v15.toInt + 1 := lin_add ev29 hv15 (iv_c (a := 1) (b := 1) (by decide)) rfl (by decide) (by decide) (by decide)
            refine va_iald hx hb hK hP 1 0 rfl rfl (iv_v hv29 (by decide) (by decide)) dX12_summedBy_83 ?_
            refine lv_topi (fun v31 ev31 => ?_)
            have lv31 : v31.toInt = (a_clause_c (Int32.toNatClampNeg v29)).toInt := by rw [ev31]
            refine lv_aload_n hx hb dX12_summedBy_84 rfl (lv_at hl 2 rfl) ?_
            refine va_get (D := D) (ci := 12) (v := .ref a_clause) (C := RX12) (T := TX12) (N := 37) hx hb hT i_X12 hown hK hP 3 rfl rfl 5 (by decide) (hT _ q_179) (fun _ h9 => h9) rfl dX12_summedBy_85 ?_
            refine lv_iload hx hb dX12_summedBy_88 (lv_at hl 0 rfl) ?_
            refine lv_iconst (v := 2) hx hb dX12_summedBy_90 (by decide) ?_
            refine lv_iadd hx hb dX12_summedBy_91 ?_
            refine lv_topi (fun v32 ev32 => ?_)
            have hv32 : IV 2 357 v32 := iv_add ev32 hv15 (iv_c (a := 2) (b := 2) (by decide)) (by decide) (by decide)
            have ii33 : 2 ≤ v32.toInt ∧ v32.toInt ≤ 357 := hv32
            have dv32 : v32.toInt = v15.toInt + 2 := iv_addE ev32 hv15 (iv_c (a := 2) (b := 2) (by decide)) (by decide) (by decide) (by decide)
            have lv32 : v32.toInt = v15.toInt + 2 := lin_add ev32 hv15 (iv_c (a := 2) (b := 2) (by decide)) rfl (by decide) (by decide) (by decide)
            refine va_iald hx hb hK hP 1 0 rfl rfl (iv_v hv32 (by decide) (by decide)) dX12_summedBy_92 ?_
            refine lv_topi (fun v34 ev34 => ?_)
            have lv34 : v34.toInt = (a_clause_c (Int32.toNatClampNeg v32)).toInt := by rw [ev34]
            have hFc := va_free (wc := [(a_sign, .inl (cs 0, 2400, .inl a_sign_c)), (a, .inr (12, [.ref a_tape, .int a__taped, .int a__rules, .ref a_sign, .ref a_length, .ref a_clause, .ref a_clauses, .ref a_read, .int a__next, .int a__wrong, .int a__number, .int a__text, .int a__made, .int a__deep, .int a__lines, .ref a_open, .int a__opened, .ref a_stack, .int k2_F_a_18, .ref a_word, .ref a_said, .int a__x, .ref a_worth, .ref a_mate, .ref a_wasSaid, .int a__undone, .int a__boughtNow, .ref a_wayBy, .ref a_wayThen, .int a__walkMost, .int a__walkGoing, .int a__walkSet, .ref a_kept, .long a__drawX, .ref a_images, .ref a_imageX, .ref a_isMade])), (a_stack, .inl (cs 3, 64, .inr (.inl k2_C_a_stack))), (a_word, .inl (cs 3, 13, .inr (.inl a_word_c)))]) hD hS hA [0,3,4,5] rfl
            refine va_calll (va_runV (As := [.int p0, .int v31, .int v34]) (rest := []) ⟨hx, hb, hml, hown, hT⟩ (c_X12_reckons l D cs kK kV a p0 v31 v34 a_sign a_sign_c a_tape a__taped a__rules a_length a_clause a_clauses a_read a__next a__wrong a__number a__text a__made a__deep a__lines a_open a__opened a_stack k2_F_a_18 a_word a_said a__x a_worth a_mate a_wasSaid a__undone a__boughtNow a_wayBy a_wayThen a__walkMost a__walkGoing a__walkSet a_kept a__drawX a_images a_imageX a_isMade k2_C_a_stack a_word_c h_p0 h_a__taped h_a__rules h_a__next h_a__text h_a__made h_a__lines h_a__opened q2_9 h_a__x h_a__undone ((sg_at ((hf0 p0.toInt.toNat (by omega)).1 k2_L_3.toInt.toNat (by show k2_L_3.toInt.toNat < (a_clauses_c (Int32.toNatClampNeg p0)).toInt.toNat; omega)).1 (by rw [ev31]; show a_clause_c (v29.toInt.toNat) = _; congr 1; omega) (by rw [ev34]; show a_clause_c (v32.toInt.toNat) = _; congr 1; omega))) H.size) (cwV 3 hT (hz_gV q_1211 q_1212 q_1213 q_701 q_1214) rfl rfl rfl (by decide +kernel) ⟨(Nat.le_of_ble_eq_true rfl), (Nat.le_of_ble_eq_true rfl)⟩) ⟨hz_C.blind, va_recv hK hP (ci := 12) (q0 := 3) rfl rfl, hz_C.mk (hP.sub (ws' := [(a_sign, .inl (cs 0, 2400, .inl a_sign_c)), (a, .inr (12, [.ref a_tape, .int a__taped, .int a__rules, .ref a_sign, .ref a_length, .ref a_clause, .ref a_clauses, .ref a_read, .int a__next, .int a__wrong, .int a__number, .int a__text, .int a__made, .int a__deep, .int a__lines, .ref a_open, .int a__opened, .ref a_stack, .int k2_F_a_18, .ref a_word, .ref a_said, .int a__x, .ref a_worth, .ref a_mate, .ref a_wasSaid, .int a__undone, .int a__boughtNow, .ref a_wayBy, .ref a_wayThen, .int a__walkMost, .int a__walkGoing, .int a__walkSet, .ref a_kept, .long a__drawX, .ref a_images, .ref a_imageX, .ref a_isMade])), (a_stack, .inl (cs 3, 64, .inr (.inl k2_C_a_stack))), (a_word, .inl (cs 3, 13, .inr (.inl a_word_c)))]) [0,3,4,5] rfl) (hD.sub (ws' := [(a_sign, .inl (cs 0, 2400, .inl a_sign_c)), (a, .inr (12, [.ref a_tape, .int a__taped, .int a__rules, .ref a_sign, .ref a_length, .ref a_clause, .ref a_clauses, .ref a_read, .int a__next, .int a__wrong, .int a__number, .int a__text, .int a__made, .int a__deep, .int a__lines, .ref a_open, .int a__opened, .ref a_stack, .int k2_F_a_18, .ref a_word, .ref a_said, .int a__x, .ref a_worth, .ref a_mate, .ref a_wasSaid, .int a__undone, .int a__boughtNow, .ref a_wayBy, .ref a_wayThen, .int a__walkMost, .int a__walkGoing, .int a__walkSet, .ref a_kept, .long a__drawX, .ref a_images, .ref a_imageX, .ref a_isMade])), (a_stack, .inl (cs 3, 64, .inr (.inl k2_C_a_stack))), (a_word, .inl (cs 3, 13, .inr (.inl a_word_c)))]) [0,3,4,5] (by decide) rfl) hE hS hFc⟩ rfl rfl hl.1 rfl (lv_room (Nat.le_of_ble_eq_true rfl)) dX12_summedBy_93 ⟨(Nat.le_of_ble_eq_true rfl), (Nat.le_of_ble_eq_true rfl)⟩) hS (fun q _ h => hFc q h) hFc (fun r35 o36 t H1 locs ht hvm hw hB hz1 hk1 hS => ?_)
            obtain ⟨o37, hP1, hD1⟩ := hB
            rw [ht] at hP1
            obtain ⟨hP, hD⟩ := va_join (wr := [(a_clause, .inl (cs 0, 360, .inl a_clause_c)), (a_clauses, .inl (cs 0, 6, .inl a_clauses_c))]) (w1 := [(a_sign, .inl (cs 0, 2400, .inl a_sign_c)), (a, .inr (12, [.ref a_tape, .int a__taped, .int a__rules, .ref a_sign, .ref a_length, .ref a_clause, .ref a_clauses, .ref a_read, .int a__next, .int a__wrong, .int a__number, .int a__text, .int a__made, .int a__deep, .int a__lines, .ref a_open, .int a__opened, .ref a_stack, .int (o36.1 1), .ref a_word, .ref a_said, .int a__x, .ref a_worth, .ref a_mate, .ref a_wasSaid, .int a__undone, .int a__boughtNow, .ref a_wayBy, .ref a_wayThen, .int a__walkMost, .int a__walkGoing, .int a__walkSet, .ref a_kept, .long a__drawX, .ref a_images, .ref a_imageX, .ref a_isMade])), (a_stack, .inl (cs 3, 64, .inr (.inl o37))), (a_word, .inl (cs 3, 13, .inr (.inl a_word_c)))]) hP hD [0, 3, 4, 5] [1, 2] rfl rfl (by decide) (by decide) hk1 hFc hP1 hD1
            generalize H1 = H at hP hS ⊢
            have hP : va_P D classes [(a_clause, .inl (cs 0, 360, .inl a_clause_c)), (a_clauses, .inl (cs 0, 6, .inl a_clauses_c)), (a_sign, .inl (cs 0, 2400, .inl a_sign_c)), (a, .inr (12, [.ref a_tape, .int a__taped, .int a__rules, .ref a_sign, .ref a_length, .ref a_clause, .ref a_clauses, .ref a_read, .int a__next, .int a__wrong, .int a__number, .int a__text, .int a__made, .int a__deep, .int a__lines, .ref a_open, .int a__opened, .ref a_stack, .int (o36.1 1), .ref a_word, .ref a_said, .int a__x, .ref a_worth, .ref a_mate, .ref a_wasSaid, .int a__undone, .int a__boughtNow, .ref a_wayBy, .ref a_wayThen, .int a__walkMost, .int a__walkGoing, .int a__walkSet, .ref a_kept, .long a__drawX, .ref a_images, .ref a_imageX, .ref a_isMade])), (a_stack, .inl (cs 3, 64, .inr (.inl o37))), (a_word, .inl (cs 3, 13, .inr (.inl a_word_c)))] H := hP
            have hD : va_D A [(a_clause, .inl (cs 0, 360, .inl a_clause_c)), (a_clauses, .inl (cs 0, 6, .inl a_clauses_c)), (a_sign, .inl (cs 0, 2400, .inl a_sign_c)), (a, .inr (12, [.ref a_tape, .int a__taped, .int a__rules, .ref a_sign, .ref a_length, .ref a_clause, .ref a_clauses, .ref a_read, .int a__next, .int a__wrong, .int a__number, .int a__text, .int a__made, .int a__deep, .int a__lines, .ref a_open, .int a__opened, .ref a_stack, .int (o36.1 1), .ref a_word, .ref a_said, .int a__x, .ref a_worth, .ref a_mate, .ref a_wasSaid, .int a__undone, .int a__boughtNow, .ref a_wayBy, .ref a_wayThen, .int a__walkMost, .int a__walkGoing, .int a__walkSet, .ref a_kept, .long a__drawX, .ref a_images, .ref a_imageX, .ref a_isMade])), (a_stack, .inl (cs 3, 64, .inr (.inl o37))), (a_word, .inl (cs 3, 13, .inr (.inl a_word_c)))] := hD
            clear hk1 hFc hP1 hD1 hz1
            rcases hw with ⟨h38, h39, h40⟩
            have ii41 : 0 ≤ v31.toInt ∧ v31.toInt ≤ 400 := h38
            have ii42 : (-2147483648) ≤ v34.toInt ∧ v34.toInt ≤ 400 := h39
            have ii43 : 0 ≤ (o36.1 1).toInt ∧ (o36.1 1).toInt ≤ 63 := h40
            refine W.widen (k := 0) (n := 0) (Nat.le_of_ble_eq_true rfl) (Nat.le_of_ble_eq_true rfl) ?_
            exact W.lret (v := r35) hx hb hr (fun t ht hW => ⟨⟨r35, (fun k => match k with | 0 => 0 | 1 => o36.1 1 | _ => 0, fun _ _ => 0), rfl, ((iv_w h40 (by decide) (by decide))), o37, by rw [ht]; exact hP.sub [2, 0, 1, 3, 4, 5] rfl, hD.sub [2, 0, 1, 3, 4, 5] (by decide) rfl⟩, hS.F ht⟩) hS.2.2 dX12_summedBy_96
          · have t44 : v24.toInt ≥ 0 := lin_ltN c25 rfl (by decide)
            have h45 : IV 0 2147483647 v24 := iv_le2 (Int32.not_lt.mp c25) (iv_c (a := 0) (b := 0) (by decide)) iv_top (by decide)
            have ii46 : 0 ≤ v24.toInt ∧ v24.toInt ≤ 2147483647 := h45
            refine lv_aload_n hx hb dX12_summedBy_45 rfl (lv_at hl 2 rfl) ?_
            refine lv_iload_n hx hb dX12_summedBy_46 rfl (lv_at hl 3 rfl) ?_
            refine lv_aload_n hx hb dX12_summedBy_47 rfl (lv_at hl 2 rfl) ?_
            refine va_get (D := D) (ci := 12) (v := .ref a_clause) (C := RX12) (T := TX12) (N := 37) hx hb hT i_X12 hown hK hP 3 rfl rfl 5 (by decide) (hT _ q_179) (fun _ h9 => h9) rfl dX12_summedBy_48 ?_
            refine lv_iload hx hb dX12_summedBy_51 (lv_at hl 0 rfl) ?_
            refine lv_iconst (v := 3) hx hb dX12_summedBy_53 (by decide) ?_
            refine lv_iadd hx hb dX12_summedBy_54 ?_
            refine lv_topi (fun v47 ev47 => ?_)
            have hv47 : IV 3 358 v47 := iv_add ev47 hv15 (iv_c (a := 3) (b := 3) (by decide)) (by decide) (by decide)
            have ii48 : 3 ≤ v47.toInt ∧ v47.toInt ≤ 358 := hv47
            have dv47 : v47.toInt = v15.toInt + 3 := iv_addE ev47 hv15 (iv_c (a := 3) (b := 3) (by decide)) (by decide) (by decide) (by decide)
            have lv47 : v47.toInt = v15.toInt + 3 := lin_add ev47 hv15 (iv_c (a := 3) (b := 3) (by decide)) rfl (by decide) (by decide) (by decide)
            refine va_iald hx hb hK hP 1 0 rfl rfl (iv_v hv47 (by decide) (by decide)) dX12_summedBy_55 ?_
            refine lv_topi (fun v49 ev49 => ?_)
            have lv49 : v49.toInt = (a_clause_c (Int32.toNatClampNeg v47)).toInt := by rw [ev49]
            refine lv_aload_n hx hb dX12_summedBy_56 rfl (lv_at hl 2 rfl) ?_
            refine va_get (D := D) (ci := 12) (v := .ref a_clause) (C := RX12) (T := TX12) (N := 37) hx hb hT i_X12 hown hK hP 3 rfl rfl 5 (by decide) (hT _ q_179) (fun _ h9 => h9) rfl dX12_summedBy_57 ?_
            refine lv_iload hx hb dX12_summedBy_60 (lv_at hl 0 rfl) ?_
            refine lv_iconst (v := 4) hx hb dX12_summedBy_62 (by decide) ?_
            refine lv_iadd hx hb dX12_summedBy_63 ?_
            refine lv_topi (fun v50 ev50 => ?_)
            have hv50 : IV 4 359 v50 := iv_add ev50 hv15 (iv_c (a := 4) (b := 4) (by decide)) (by decide) (by decide)
            have ii51 : 4 ≤ v50.toInt ∧ v50.toInt ≤ 359 := hv50
            have dv50 : v50.toInt = v15.toInt + 4 := iv_addE ev50 hv15 (iv_c (a := 4) (b := 4) (by decide)) (by decide) (by decide) (by decide)
            have lv50 : v50.toInt = v15.toInt + 4 := lin_add ev50 hv15 (iv_c (a := 4) (b := 4) (by decide)) rfl (by decide) (by decide) (by decide)
            refine va_iald hx hb hK hP 1 0 rfl rfl (iv_v hv50 (by decide) (by decide)) dX12_summedBy_64 ?_
            refine lv_topi (fun v52 ev52 => ?_)
            have lv52 : v52.toInt = (a_clause_c (Int32.toNatClampNeg v50)).toInt := by rw [ev52]
            have hFc := va_free (wc := [(a_sign, .inl (cs 0, 2400, .inl a_sign_c)), (a, .inr (12, [.ref a_tape, .int a__taped, .int a__rules, .ref a_sign, .ref a_length, .ref a_clause, .ref a_clauses, .ref a_read, .int a__next, .int a__wrong, .int a__number, .int a__text, .int a__made, .int a__deep, .int a__lines, .ref a_open, .int a__opened, .ref a_stack, .int k2_F_a_18, .ref a_word, .ref a_said, .int a__x, .ref a_worth, .ref a_mate, .ref a_wasSaid, .int a__undone, .int a__boughtNow, .ref a_wayBy, .ref a_wayThen, .int a__walkMost, .int a__walkGoing, .int a__walkSet, .ref a_kept, .long a__drawX, .ref a_images, .ref a_imageX, .ref a_isMade])), (a_stack, .inl (cs 3, 64, .inr (.inl k2_C_a_stack))), (a_word, .inl (cs 3, 13, .inr (.inl a_word_c)))]) hD hS hA [0,3,4,5] rfl
            refine va_calll (va_runV (As := [.int p0, .int v49, .int v52]) (rest := []) ⟨hx, hb, hml, hown, hT⟩ (c_X12_reckons l D cs kK kV a p0 v49 v52 a_sign a_sign_c a_tape a__taped a__rules a_length a_clause a_clauses a_read a__next a__wrong a__number a__text a__made a__deep a__lines a_open a__opened a_stack k2_F_a_18 a_word a_said a__x a_worth a_mate a_wasSaid a__undone a__boughtNow a_wayBy a_wayThen a__walkMost a__walkGoing a__walkSet a_kept a__drawX a_images a_imageX a_isMade k2_C_a_stack a_word_c h_p0 h_a__taped h_a__rules h_a__next h_a__text h_a__made h_a__lines h_a__opened q2_9 h_a__x h_a__undone ((sg_at (((hf0 p0.toInt.toNat (by omega)).1 k2_L_3.toInt.toNat (by show k2_L_3.toInt.toNat < (a_clauses_c (Int32.toNatClampNeg p0)).toInt.toNat; omega)).2.resolve_left (fun z => by rw [← ((by rw [ev24]; show a_clause_c (v22.toInt.toNat) = _; congr 1; omega) : v24 = a_clause_c (60 * p0.toInt.toNat + 5 * k2_L_3.toInt.toNat + 3))] at z; omega)) (by rw [ev49]; show a_clause_c (v47.toInt.toNat) = _; congr 1; omega) (by rw [ev52]; show a_clause_c (v50.toInt.toNat) = _; congr 1; omega))) H.size) (cwV 3 hT (hz_gV q_1211 q_1212 q_1213 q_701 q_1214) rfl rfl rfl (by decide +kernel) ⟨(Nat.le_of_ble_eq_true rfl), (Nat.le_of_ble_eq_true rfl)⟩) ⟨hz_C.blind, va_recv hK hP (ci := 12) (q0 := 3) rfl rfl, hz_C.mk (hP.sub (ws' := [(a_sign, .inl (cs 0, 2400, .inl a_sign_c)), (a, .inr (12, [.ref a_tape, .int a__taped, .int a__rules, .ref a_sign, .ref a_length, .ref a_clause, .ref a_clauses, .ref a_read, .int a__next, .int a__wrong, .int a__number, .int a__text, .int a__made, .int a__deep, .int a__lines, .ref a_open, .int a__opened, .ref a_stack, .int k2_F_a_18, .ref a_word, .ref a_said, .int a__x, .ref a_worth, .ref a_mate, .ref a_wasSaid, .int a__undone, .int a__boughtNow, .ref a_wayBy, .ref a_wayThen, .int a__walkMost, .int a__walkGoing, .int a__walkSet, .ref a_kept, .long a__drawX, .ref a_images, .ref a_imageX, .ref a_isMade])), (a_stack, .inl (cs 3, 64, .inr (.inl k2_C_a_stack))), (a_word, .inl (cs 3, 13, .inr (.inl a_word_c)))]) [0,3,4,5] rfl) (hD.sub (ws' := [(a_sign, .inl (cs 0, 2400, .inl a_sign_c)), (a, .inr (12, [.ref a_tape, .int a__taped, .int a__rules, .ref a_sign, .ref a_length, .ref a_clause, .ref a_clauses, .ref a_read, .int a__next, .int a__wrong, .int a__number, .int a__text, .int a__made, .int a__deep, .int a__lines, .ref a_open, .int a__opened, .ref a_stack, .int k2_F_a_18, .ref a_word, .ref a_said, .int a__x, .ref a_worth, .ref a_mate, .ref a_wasSaid, .int a__undone, .int a__boughtNow, .ref a_wayBy, .ref a_wayThen, .int a__walkMost, .int a__walkGoing, .int a__walkSet, .ref a_kept, .long a__drawX, .ref a_images, .ref a_imageX, .ref a_isMade])), (a_stack, .inl (cs 3, 64, .inr (.inl k2_C_a_stack))), (a_word, .inl (cs 3, 13, .inr (.inl a_word_c)))]) [0,3,4,5] (by decide) rfl) hE hS hFc⟩ rfl rfl hl.1 rfl (lv_room (Nat.le_of_ble_eq_true rfl)) dX12_summedBy_65 ⟨(Nat.le_of_ble_eq_true rfl), (Nat.le_of_ble_eq_true rfl)⟩) hS (fun q _ h => hFc q h) hFc (fun r53 o54 t H1 locs ht hvm hw hB hz1 hk1 hS => ?_)
            obtain ⟨o55, hP1, hD1⟩ := hB
            rw [ht] at hP1
            obtain ⟨hP, hD⟩ := va_join (wr := [(a_clause, .inl (cs 0, 360, .inl a_clause_c)), (a_clauses, .inl (cs 0, 6, .inl a_clauses_c))]) (w1 := [(a_sign, .inl (cs 0, 2400, .inl a_sign_c)), (a, .inr (12, [.ref a_tape, .int a__taped, .int a__rules, .ref a_sign, .ref a_length, .ref a_clause, .ref a_clauses, .ref a_read, .int a__next, .int a__wrong, .int a__number, .int a__text, .int a__made, .int a__deep, .int a__lines, .ref a_open, .int a__opened, .ref a_stack, .int (o54.1 1), .ref a_word, .ref a_said, .int a__x, .ref a_worth, .ref a_mate, .ref a_wasSaid, .int a__undone, .int a__boughtNow, .ref a_wayBy, .ref a_wayThen, .int a__walkMost, .int a__walkGoing, .int a__walkSet, .ref a_kept, .long a__drawX, .ref a_images, .ref a_imageX, .ref a_isMade])), (a_stack, .inl (cs 3, 64, .inr (.inl o55))), (a_word, .inl (cs 3, 13, .inr (.inl a_word_c)))]) hP hD [0, 3, 4, 5] [1, 2] rfl rfl (by decide) (by decide) hk1 hFc hP1 hD1
            generalize H1 = H at hP hS ⊢
            have hP : va_P D classes [(a_clause, .inl (cs 0, 360, .inl a_clause_c)), (a_clauses, .inl (cs 0, 6, .inl a_clauses_c)), (a_sign, .inl (cs 0, 2400, .inl a_sign_c)), (a, .inr (12, [.ref a_tape, .int a__taped, .int a__rules, .ref a_sign, .ref a_length, .ref a_clause, .ref a_clauses, .ref a_read, .int a__next, .int a__wrong, .int a__number, .int a__text, .int a__made, .int a__deep, .int a__lines, .ref a_open, .int a__opened, .ref a_stack, .int (o54.1 1), .ref a_word, .ref a_said, .int a__x, .ref a_worth, .ref a_mate, .ref a_wasSaid, .int a__undone, .int a__boughtNow, .ref a_wayBy, .ref a_wayThen, .int a__walkMost, .int a__walkGoing, .int a__walkSet, .ref a_kept, .long a__drawX, .ref a_images, .ref a_imageX, .ref a_isMade])), (a_stack, .inl (cs 3, 64, .inr (.inl o55))), (a_word, .inl (cs 3, 13, .inr (.inl a_word_c)))] H := hP
            have hD : va_D A [(a_clause, .inl (cs 0, 360, .inl a_clause_c)), (a_clauses, .inl (cs 0, 6, .inl a_clauses_c)), (a_sign, .inl (cs 0, 2400, .inl a_sign_c)), (a, .inr (12, [.ref a_tape, .int a__taped, .int a__rules, .ref a_sign, .ref a_length, .ref a_clause, .ref a_clauses, .ref a_read, .int a__next, .int a__wrong, .int a__number, .int a__text, .int a__made, .int a__deep, .int a__lines, .ref a_open, .int a__opened, .ref a_stack, .int (o54.1 1), .ref a_word, .ref a_said, .int a__x, .ref a_worth, .ref a_mate, .ref a_wasSaid, .int a__undone, .int a__boughtNow, .ref a_wayBy, .ref a_wayThen, .int a__walkMost, .int a__walkGoing, .int a__walkSet, .ref a_kept, .long a__drawX, .ref a_images, .ref a_imageX, .ref a_isMade])), (a_stack, .inl (cs 3, 64, .inr (.inl o55))), (a_word, .inl (cs 3, 13, .inr (.inl a_word_c)))] := hD
            clear hk1 hFc hP1 hD1 hz1
            rcases hw with ⟨h56, h57, h58⟩
            have ii59 : 0 ≤ v49.toInt ∧ v49.toInt ≤ 400 := h56
            have ii60 : (-2147483648) ≤ v52.toInt ∧ v52.toInt ≤ 400 := h57
            have ii61 : 0 ≤ (o54.1 1).toInt ∧ (o54.1 1).toInt ≤ 63 := h58
            refine lv_lconst (v := 1) hx hb dX12_summedBy_68 (by decide) ?_
            refine W.lcmp hx hb dX12_summedBy_69 ?_
            refine lv_topi (fun v62 ev62 => ?_)
            have hv62 : IV (-1) 1 v62 := iv_cmp ev62
            have ii63 : (-1) ≤ v62.toInt ∧ v62.toInt ≤ 1 := hv62
            refine lv_if_ne (tgt := 97) hx hb dX12_summedBy_70 (by decide) (fun c64 => ?_) (fun c64 => ?_)
            · have t65 : v62.toInt ≠ 0 := lin_ne c64 rfl (by decide)
              obtain ⟨v66, ev66⟩ : ∃ z : Int32, z = k2_L_3 + 1 := ⟨_, rfl⟩
              have hv66 : IV 1 12 v66 := iv_add ev66 h7 (iv_c (a := 1) (b := 1) (by decide)) (by decide) (by decide)
              have dv66 : v66.toInt = k2_L_3.toInt + 1 := iv_addE ev66 h7 (iv_c (a := 1) (b := 1) (by decide)) (by decide) (by decide) (by decide)
              refine lv_iinc (v := v66) (lv' := [(3, .int v66), (4, .int v15), (0, .ref a), (1, .int p0), (2, .int p1)]) hx hb dX12_summedBy_97 hl (k := 1) rfl (by rw [ev66]; rfl) (by decide) rfl (fun ls hl => ?_)
              refine lv_goto (tgt := 2) hx hb dX12_summedBy_100 (by decide) ?_
              exact ih2 v66 (o54.1 1) o55 (by have h9 := hn; omega) (iv_w h58 (by decide) (by decide)) (iv_w hv66 (by decide) (by decide)) H locs (hP.sub (ws' := [(a_sign, .inl (cs 0, 2400, .inl a_sign_c)), (a_clause, .inl (cs 0, 360, .inl a_clause_c)), (a_clauses, .inl (cs 0, 6, .inl a_clauses_c)), (a, .inr (12, [.ref a_tape, .int a__taped, .int a__rules, .ref a_sign, .ref a_length, .ref a_clause, .ref a_clauses, .ref a_read, .int a__next, .int a__wrong, .int a__number, .int a__text, .int a__made, .int a__deep, .int a__lines, .ref a_open, .int a__opened, .ref a_stack, .int (o54.1 1), .ref a_word, .ref a_said, .int a__x, .ref a_worth, .ref a_mate, .ref a_wasSaid, .int a__undone, .int a__boughtNow, .ref a_wayBy, .ref a_wayThen, .int a__walkMost, .int a__walkGoing, .int a__walkSet, .ref a_kept, .long a__drawX, .ref a_images, .ref a_imageX, .ref a_isMade])), (a_stack, .inl (cs 3, 64, .inr (.inl o55))), (a_word, .inl (cs 3, 13, .inr (.inl a_word_c)))]) [2, 0, 1, 3, 4, 5] rfl) (hD.sub (ws' := [(a_sign, .inl (cs 0, 2400, .inl a_sign_c)), (a_clause, .inl (cs 0, 360, .inl a_clause_c)), (a_clauses, .inl (cs 0, 6, .inl a_clauses_c)), (a, .inr (12, [.ref a_tape, .int a__taped, .int a__rules, .ref a_sign, .ref a_length, .ref a_clause, .ref a_clauses, .ref a_read, .int a__next, .int a__wrong, .int a__number, .int a__text, .int a__made, .int a__deep, .int a__lines, .ref a_open, .int a__opened, .ref a_stack, .int (o54.1 1), .ref a_word, .ref a_said, .int a__x, .ref a_worth, .ref a_mate, .ref a_wasSaid, .int a__undone, .int a__boughtNow, .ref a_wayBy, .ref a_wayThen, .int a__walkMost, .int a__walkGoing, .int a__walkSet, .ref a_kept, .long a__drawX, .ref a_images, .ref a_imageX, .ref a_isMade])), (a_stack, .inl (cs 3, 64, .inr (.inl o55))), (a_word, .inl (cs 3, 13, .inr (.inl a_word_c)))]) [2, 0, 1, 3, 4, 5] (by decide) rfl) hS ls (lv_sub hl [0, 2, 3, 4] rfl)
            · have t67 : v62.toInt = 0 := lin_eqN c64 rfl (by decide)
              have h68 : IV 0 0 v62 := iv_eq1 c64 hv62 (iv_c (a := 0) (b := 0) (by decide)) (by decide) (by decide)
              have ii69 : 0 ≤ v62.toInt ∧ v62.toInt ≤ 0 := h68
              refine lv_aload_n hx hb dX12_summedBy_73 rfl (lv_at hl 2 rfl) ?_
              refine lv_iload_n hx hb dX12_summedBy_74 rfl (lv_at hl 3 rfl) ?_
              refine lv_aload_n hx hb dX12_summedBy_75 rfl (lv_at hl 2 rfl) ?_
              refine va_get (D := D) (ci := 12) (v := .ref a_clause) (C := RX12) (T := TX12) (N := 37) hx hb hT i_X12 hown hK hP 3 rfl rfl 5 (by decide) (hT _ q_179) (fun _ h9 => h9) rfl dX12_summedBy_76 ?_
              refine lv_iload hx hb dX12_summedBy_79 (lv_at hl 0 rfl) ?_
              refine lv_iconst (v := 1) hx hb dX12_summedBy_81 (by decide) ?_
              refine lv_iadd hx hb dX12_summedBy_82 ?_
              refine lv_topi (fun v70 ev70 => ?_)
              have hv70 : IV 1 356 v70 := iv_add ev70 hv15 (iv_c (a := 1) (b := 1) (by decide)) (by decide) (by decide)
              have ii71 : 1 ≤ v70.toInt ∧ v70.toInt ≤ 356 := hv70
              have dv70 : v70.toInt = v15.toInt + 1 := iv_addE ev70 hv15 (iv_c (a := 1) (b := 1) (by decide)) (by decide) (by decide) (by decide)
              have lv70 : v70.toInt = v15.toInt + 1 := lin_add ev70 hv15 (iv_c (a := 1) (b := 1) (by decide)) rfl (by decide) (by decide) (by decide)
              refine va_iald hx hb hK hP 0 0 rfl rfl (iv_v hv70 (by decide) (by decide)) dX12_summedBy_83 ?_
              refine lv_topi (fun v72 ev72 => ?_)
              have lv72 : v72.toInt = (a_clause_c (Int32.toNatClampNeg v70)).toInt := by rw [ev72]
              refine lv_aload_n hx hb dX12_summedBy_84 rfl (lv_at hl 2 rfl) ?_
              refine va_get (D := D) (ci := 12) (v := .ref a_clause) (C := RX12) (T := TX12) (N := 37) hx hb hT i_X12 hown hK hP 3 rfl rfl 5 (by decide) (hT _ q_179) (fun _ h9 => h9) rfl dX12_summedBy_85 ?_
              refine lv_iload hx hb dX12_summedBy_88 (lv_at hl 0 rfl) ?_
              refine lv_iconst (v := 2) hx hb dX12_summedBy_90 (by decide) ?_
              refine lv_iadd hx hb dX12_summedBy_91 ?_
              refine lv_topi (fun v73 ev73 => ?_)
              have hv73 : IV 2 357 v73 := iv_add ev73 hv15 (iv_c (a := 2) (b := 2) (by decide)) (by decide) (by decide)
              have ii74 : 2 ≤ v73.toInt ∧ v73.toInt ≤ 357 := hv73
              have dv73 : v73.toInt = v15.toInt + 2 := iv_addE ev73 hv15 (iv_c (a := 2) (b := 2) (by decide)) (by decide) (by decide) (by decide)
              have lv73 : v73.toInt = v15.toInt + 2 := lin_add ev73 hv15 (iv_c (a := 2) (b := 2) (by decide)) rfl (by decide) (by decide) (by decide)
              refine va_iald hx hb hK hP 0 0 rfl rfl (iv_v hv73 (by decide) (by decide)) dX12_summedBy_92 ?_
              refine lv_topi (fun v75 ev75 => ?_)
              have lv75 : v75.toInt = (a_clause_c (Int32.toNatClampNeg v73)).toInt := by rw [ev75]
              have hFc := va_free (wc := [(a_sign, .inl (cs 0, 2400, .inl a_sign_c)), (a, .inr (12, [.ref a_tape, .int a__taped, .int a__rules, .ref a_sign, .ref a_length, .ref a_clause, .ref a_clauses, .ref a_read, .int a__next, .int a__wrong, .int a__number, .int a__text, .int a__made, .int a__deep, .int a__lines, .ref a_open, .int a__opened, .ref a_stack, .int (o54.1 1), .ref a_word, .ref a_said, .int a__x, .ref a_worth, .ref a_mate, .ref a_wasSaid, .int a__undone, .int a__boughtNow, .ref a_wayBy, .ref a_wayThen, .int a__walkMost, .int a__walkGoing, .int a__walkSet, .ref a_kept, .long a__drawX, .ref a_images, .ref a_imageX, .ref a_isMade])), (a_stack, .inl (cs 3, 64, .inr (.inl o55))), (a_word, .inl (cs 3, 13, .inr (.inl a_word_c)))]) hD hS hA [2,3,4,5] rfl
              refine va_calll (va_runV (As := [.int p0, .int v72, .int v75]) (rest := []) ⟨hx, hb, hml, hown, hT⟩ (c_X12_reckons l D cs kK kV a p0 v72 v75 a_sign a_sign_c a_tape a__taped a__rules a_length a_clause a_clauses a_read a__next a__wrong a__number a__text a__made a__deep a__lines a_open a__opened a_stack (o54.1 1) a_word a_said a__x a_worth a_mate a_wasSaid a__undone a__boughtNow a_wayBy a_wayThen a__walkMost a__walkGoing a__walkSet a_kept a__drawX a_images a_imageX a_isMade o55 a_word_c h_p0 h_a__taped h_a__rules h_a__next h_a__text h_a__made h_a__lines h_a__opened ((iv_w h58 (by decide) (by decide))) h_a__x h_a__undone ((sg_at ((hf0 p0.toInt.toNat (by omega)).1 k2_L_3.toInt.toNat (by show k2_L_3.toInt.toNat < (a_clauses_c (Int32.toNatClampNeg p0)).toInt.toNat; omega)).1 (by rw [ev72]; show a_clause_c (v70.toInt.toNat) = _; congr 1; omega) (by rw [ev75]; show a_clause_c (v73.toInt.toNat) = _; congr 1; omega))) H.size) (cwV 3 hT (hz_gV q_1211 q_1212 q_1213 q_701 q_1214) rfl rfl rfl (by decide +kernel) ⟨(Nat.le_of_ble_eq_true rfl), (Nat.le_of_ble_eq_true rfl)⟩) ⟨hz_C.blind, va_recv hK hP (ci := 12) (q0 := 3) rfl rfl, hz_C.mk (hP.sub (ws' := [(a_sign, .inl (cs 0, 2400, .inl a_sign_c)), (a, .inr (12, [.ref a_tape, .int a__taped, .int a__rules, .ref a_sign, .ref a_length, .ref a_clause, .ref a_clauses, .ref a_read, .int a__next, .int a__wrong, .int a__number, .int a__text, .int a__made, .int a__deep, .int a__lines, .ref a_open, .int a__opened, .ref a_stack, .int (o54.1 1), .ref a_word, .ref a_said, .int a__x, .ref a_worth, .ref a_mate, .ref a_wasSaid, .int a__undone, .int a__boughtNow, .ref a_wayBy, .ref a_wayThen, .int a__walkMost, .int a__walkGoing, .int a__walkSet, .ref a_kept, .long a__drawX, .ref a_images, .ref a_imageX, .ref a_isMade])), (a_stack, .inl (cs 3, 64, .inr (.inl o55))), (a_word, .inl (cs 3, 13, .inr (.inl a_word_c)))]) [2,3,4,5] rfl) (hD.sub (ws' := [(a_sign, .inl (cs 0, 2400, .inl a_sign_c)), (a, .inr (12, [.ref a_tape, .int a__taped, .int a__rules, .ref a_sign, .ref a_length, .ref a_clause, .ref a_clauses, .ref a_read, .int a__next, .int a__wrong, .int a__number, .int a__text, .int a__made, .int a__deep, .int a__lines, .ref a_open, .int a__opened, .ref a_stack, .int (o54.1 1), .ref a_word, .ref a_said, .int a__x, .ref a_worth, .ref a_mate, .ref a_wasSaid, .int a__undone, .int a__boughtNow, .ref a_wayBy, .ref a_wayThen, .int a__walkMost, .int a__walkGoing, .int a__walkSet, .ref a_kept, .long a__drawX, .ref a_images, .ref a_imageX, .ref a_isMade])), (a_stack, .inl (cs 3, 64, .inr (.inl o55))), (a_word, .inl (cs 3, 13, .inr (.inl a_word_c)))]) [2,3,4,5] (by decide) rfl) hE hS hFc⟩ rfl rfl hl.1 rfl (lv_room (Nat.le_of_ble_eq_true rfl)) dX12_summedBy_93 ⟨(Nat.le_of_ble_eq_true rfl), (Nat.le_of_ble_eq_true rfl)⟩) hS (fun q _ h => hFc q h) hFc (fun r76 o77 t H1 locs ht hvm hw hB hz1 hk1 hS => ?_)
              obtain ⟨o78, hP1, hD1⟩ := hB
              rw [ht] at hP1
              obtain ⟨hP, hD⟩ := va_join (wr := [(a_clause, .inl (cs 0, 360, .inl a_clause_c)), (a_clauses, .inl (cs 0, 6, .inl a_clauses_c))]) (w1 := [(a_sign, .inl (cs 0, 2400, .inl a_sign_c)), (a, .inr (12, [.ref a_tape, .int a__taped, .int a__rules, .ref a_sign, .ref a_length, .ref a_clause, .ref a_clauses, .ref a_read, .int a__next, .int a__wrong, .int a__number, .int a__text, .int a__made, .int a__deep, .int a__lines, .ref a_open, .int a__opened, .ref a_stack, .int (o77.1 1), .ref a_word, .ref a_said, .int a__x, .ref a_worth, .ref a_mate, .ref a_wasSaid, .int a__undone, .int a__boughtNow, .ref a_wayBy, .ref a_wayThen, .int a__walkMost, .int a__walkGoing, .int a__walkSet, .ref a_kept, .long a__drawX, .ref a_images, .ref a_imageX, .ref a_isMade])), (a_stack, .inl (cs 3, 64, .inr (.inl o78))), (a_word, .inl (cs 3, 13, .inr (.inl a_word_c)))]) hP hD [2, 3, 4, 5] [0, 1] rfl rfl (by decide) (by decide) hk1 hFc hP1 hD1
              generalize H1 = H at hP hS ⊢
              have hP : va_P D classes [(a_clause, .inl (cs 0, 360, .inl a_clause_c)), (a_clauses, .inl (cs 0, 6, .inl a_clauses_c)), (a_sign, .inl (cs 0, 2400, .inl a_sign_c)), (a, .inr (12, [.ref a_tape, .int a__taped, .int a__rules, .ref a_sign, .ref a_length, .ref a_clause, .ref a_clauses, .ref a_read, .int a__next, .int a__wrong, .int a__number, .int a__text, .int a__made, .int a__deep, .int a__lines, .ref a_open, .int a__opened, .ref a_stack, .int (o77.1 1), .ref a_word, .ref a_said, .int a__x, .ref a_worth, .ref a_mate, .ref a_wasSaid, .int a__undone, .int a__boughtNow, .ref a_wayBy, .ref a_wayThen, .int a__walkMost, .int a__walkGoing, .int a__walkSet, .ref a_kept, .long a__drawX, .ref a_images, .ref a_imageX, .ref a_isMade])), (a_stack, .inl (cs 3, 64, .inr (.inl o78))), (a_word, .inl (cs 3, 13, .inr (.inl a_word_c)))] H := hP
              have hD : va_D A [(a_clause, .inl (cs 0, 360, .inl a_clause_c)), (a_clauses, .inl (cs 0, 6, .inl a_clauses_c)), (a_sign, .inl (cs 0, 2400, .inl a_sign_c)), (a, .inr (12, [.ref a_tape, .int a__taped, .int a__rules, .ref a_sign, .ref a_length, .ref a_clause, .ref a_clauses, .ref a_read, .int a__next, .int a__wrong, .int a__number, .int a__text, .int a__made, .int a__deep, .int a__lines, .ref a_open, .int a__opened, .ref a_stack, .int (o77.1 1), .ref a_word, .ref a_said, .int a__x, .ref a_worth, .ref a_mate, .ref a_wasSaid, .int a__undone, .int a__boughtNow, .ref a_wayBy, .ref a_wayThen, .int a__walkMost, .int a__walkGoing, .int a__walkSet, .ref a_kept, .long a__drawX, .ref a_images, .ref a_imageX, .ref a_isMade])), (a_stack, .inl (cs 3, 64, .inr (.inl o78))), (a_word, .inl (cs 3, 13, .inr (.inl a_word_c)))] := hD
              clear hk1 hFc hP1 hD1 hz1
              rcases hw with ⟨h79, h80, h81⟩
              have ii82 : 0 ≤ v72.toInt ∧ v72.toInt ≤ 400 := h79
              have ii83 : (-2147483648) ≤ v75.toInt ∧ v75.toInt ≤ 400 := h80
              have ii84 : 0 ≤ (o77.1 1).toInt ∧ (o77.1 1).toInt ≤ 63 := h81
              refine W.widen (k := 0) (n := 0) (Nat.le_of_ble_eq_true rfl) (Nat.le_of_ble_eq_true rfl) ?_
              exact W.lret (v := r76) hx hb hr (fun t ht hW => ⟨⟨r76, (fun k => match k with | 0 => 0 | 1 => o77.1 1 | _ => 0, fun _ _ => 0), rfl, ((iv_w h81 (by decide) (by decide))), o78, by rw [ht]; exact hP.sub [2, 0, 1, 3, 4, 5] rfl, hD.sub [2, 0, 1, 3, 4, 5] (by decide) rfl⟩, hS.F ht⟩) hS.2.2 dX12_summedBy_96
  refine lv_iconst (v := 0) hx hb dX12_summedBy_0 (by decide) ?_
  refine lv_istore_n (lv' := [(3, .int 0), (0, .ref a), (1, .int p0), (2, .int p1)]) hx hb dX12_summedBy_1 rfl hl (by decide) rfl (fun ls hl => ?_)
  exact K2 _ ((0 : Int32)) a__top a_stack_c (Nat.le_refl _) h_a__top (iv_c (by decide)) H locs (hP.sub (ws' := [(a_sign, .inl (cs 0, 2400, .inl a_sign_c)), (a_clause, .inl (cs 0, 360, .inl a_clause_c)), (a_clauses, .inl (cs 0, 6, .inl a_clauses_c)), (a, .inr (12, [.ref a_tape, .int a__taped, .int a__rules, .ref a_sign, .ref a_length, .ref a_clause, .ref a_clauses, .ref a_read, .int a__next, .int a__wrong, .int a__number, .int a__text, .int a__made, .int a__deep, .int a__lines, .ref a_open, .int a__opened, .ref a_stack, .int a__top, .ref a_word, .ref a_said, .int a__x, .ref a_worth, .ref a_mate, .ref a_wasSaid, .int a__undone, .int a__boughtNow, .ref a_wayBy, .ref a_wayThen, .int a__walkMost, .int a__walkGoing, .int a__walkSet, .ref a_kept, .long a__drawX, .ref a_images, .ref a_imageX, .ref a_isMade])), (a_stack, .inl (cs 3, 64, .inr (.inl a_stack_c))), (a_word, .inl (cs 3, 13, .inr (.inl a_word_c)))]) [0, 1, 2, 3, 4, 5] rfl) (hD.sub (ws' := [(a_sign, .inl (cs 0, 2400, .inl a_sign_c)), (a_clause, .inl (cs 0, 360, .inl a_clause_c)), (a_clauses, .inl (cs 0, 6, .inl a_clauses_c)), (a, .inr (12, [.ref a_tape, .int a__taped, .int a__rules, .ref a_sign, .ref a_length, .ref a_clause, .ref a_clauses, .ref a_read, .int a__next, .int a__wrong, .int a__number, .int a__text, .int a__made, .int a__deep, .int a__lines, .ref a_open, .int a__opened, .ref a_stack, .int a__top, .ref a_word, .ref a_said, .int a__x, .ref a_worth, .ref a_mate, .ref a_wasSaid, .int a__undone, .int a__boughtNow, .ref a_wayBy, .ref a_wayThen, .int a__walkMost, .int a__walkGoing, .int a__walkSet, .ref a_kept, .long a__drawX, .ref a_images, .ref a_imageX, .ref a_isMade])), (a_stack, .inl (cs 3, 64, .inr (.inl a_stack_c))), (a_word, .inl (cs 3, 13, .inr (.inl a_word_c)))]) [0, 1, 2, 3, 4, 5] (by decide) rfl) hS ls (lv_sub hl [0, 1, 2, 3] rfl)
theorem dX12_wordsOf_0 : decode cX12_wordsOf 0 = .ok (.aload_n 0, 1) := by decide +kernel
theorem dX12_wordsOf_1 : decode cX12_wordsOf 1 = .ok (.getfield 36, 3) := by decide +kernel
theorem dX12_wordsOf_4 : decode cX12_wordsOf 4 = .ok (.iconst 0, 1) := by decide +kernel
theorem dX12_wordsOf_5 : decode cX12_wordsOf 5 = .ok (.iload_n 1, 1) := by decide +kernel
theorem dX12_wordsOf_6 : decode cX12_wordsOf 6 = .ok (.i2l, 1) := by decide +kernel
theorem dX12_wordsOf_7 : decode cX12_wordsOf 7 = .ok (.lastore, 1) := by decide +kernel
theorem dX12_wordsOf_8 : decode cX12_wordsOf 8 = .ok (.aload_n 0, 1) := by decide +kernel
theorem dX12_wordsOf_9 : decode cX12_wordsOf 9 = .ok (.getfield 36, 3) := by decide +kernel
theorem dX12_wordsOf_12 : decode cX12_wordsOf 12 = .ok (.iconst 1, 1) := by decide +kernel
theorem dX12_wordsOf_13 : decode cX12_wordsOf 13 = .ok (.aload_n 0, 1) := by decide +kernel
theorem dX12_wordsOf_14 : decode cX12_wordsOf 14 = .ok (.iload_n 1, 1) := by decide +kernel
theorem dX12_wordsOf_15 : decode cX12_wordsOf 15 = .ok (.iconst 0, 1) := by decide +kernel
theorem dX12_wordsOf_16 : decode cX12_wordsOf 16 = .ok (.invokevirtual 314, 3) := by decide +kernel
theorem dX12_wordsOf_19 : decode cX12_wordsOf 19 = .ok (.i2l, 1) := by decide +kernel
theorem dX12_wordsOf_20 : decode cX12_wordsOf 20 = .ok (.lastore, 1) := by decide +kernel
theorem dX12_wordsOf_21 : decode cX12_wordsOf 21 = .ok (.aload_n 0, 1) := by decide +kernel
theorem dX12_wordsOf_22 : decode cX12_wordsOf 22 = .ok (.getfield 36, 3) := by decide +kernel
theorem dX12_wordsOf_25 : decode cX12_wordsOf 25 = .ok (.iconst 2, 1) := by decide +kernel
theorem dX12_wordsOf_26 : decode cX12_wordsOf 26 = .ok (.aload_n 0, 1) := by decide +kernel
theorem dX12_wordsOf_27 : decode cX12_wordsOf 27 = .ok (.iload_n 1, 1) := by decide +kernel
theorem dX12_wordsOf_28 : decode cX12_wordsOf 28 = .ok (.iconst 1, 1) := by decide +kernel
theorem dX12_wordsOf_29 : decode cX12_wordsOf 29 = .ok (.invokevirtual 314, 3) := by decide +kernel
theorem dX12_wordsOf_32 : decode cX12_wordsOf 32 = .ok (.i2l, 1) := by decide +kernel
theorem dX12_wordsOf_33 : decode cX12_wordsOf 33 = .ok (.lastore, 1) := by decide +kernel
theorem dX12_wordsOf_34 : decode cX12_wordsOf 34 = .ok (.aload_n 0, 1) := by decide +kernel
theorem dX12_wordsOf_35 : decode cX12_wordsOf 35 = .ok (.getfield 36, 3) := by decide +kernel
theorem dX12_wordsOf_38 : decode cX12_wordsOf 38 = .ok (.iconst 3, 1) := by decide +kernel
theorem dX12_wordsOf_39 : decode cX12_wordsOf 39 = .ok (.aload_n 0, 1) := by decide +kernel
theorem dX12_wordsOf_40 : decode cX12_wordsOf 40 = .ok (.getfield 39, 3) := by decide +kernel
theorem dX12_wordsOf_43 : decode cX12_wordsOf 43 = .ok (.iconst 3, 1) := by decide +kernel
theorem dX12_wordsOf_44 : decode cX12_wordsOf 44 = .ok (.iaload, 1) := by decide +kernel
theorem dX12_wordsOf_45 : decode cX12_wordsOf 45 = .ok (.i2l, 1) := by decide +kernel
theorem dX12_wordsOf_46 : decode cX12_wordsOf 46 = .ok (.lastore, 1) := by decide +kernel
theorem dX12_wordsOf_47 : decode cX12_wordsOf 47 = .ok (.aload_n 0, 1) := by decide +kernel
theorem dX12_wordsOf_48 : decode cX12_wordsOf 48 = .ok (.getfield 36, 3) := by decide +kernel
theorem dX12_wordsOf_51 : decode cX12_wordsOf 51 = .ok (.iconst 4, 1) := by decide +kernel
theorem dX12_wordsOf_52 : decode cX12_wordsOf 52 = .ok (.aload_n 0, 1) := by decide +kernel
theorem dX12_wordsOf_53 : decode cX12_wordsOf 53 = .ok (.invokevirtual 298, 3) := by decide +kernel
theorem dX12_wordsOf_56 : decode cX12_wordsOf 56 = .ok (.ifCond .eq 7, 3) := by decide +kernel
theorem dX12_wordsOf_59 : decode cX12_wordsOf 59 = .ok (.lconst 0, 1) := by decide +kernel
theorem dX12_wordsOf_60 : decode cX12_wordsOf 60 = .ok (.goto 18, 3) := by decide +kernel
theorem dX12_wordsOf_63 : decode cX12_wordsOf 63 = .ok (.aload_n 0, 1) := by decide +kernel
theorem dX12_wordsOf_64 : decode cX12_wordsOf 64 = .ok (.getfield 39, 3) := by decide +kernel
theorem dX12_wordsOf_67 : decode cX12_wordsOf 67 = .ok (.bipush 6, 2) := by decide +kernel
theorem dX12_wordsOf_69 : decode cX12_wordsOf 69 = .ok (.iaload, 1) := by decide +kernel
theorem dX12_wordsOf_70 : decode cX12_wordsOf 70 = .ok (.aload_n 0, 1) := by decide +kernel
theorem dX12_wordsOf_71 : decode cX12_wordsOf 71 = .ok (.getfield 39, 3) := by decide +kernel
theorem dX12_wordsOf_74 : decode cX12_wordsOf 74 = .ok (.iconst 3, 1) := by decide +kernel
theorem dX12_wordsOf_75 : decode cX12_wordsOf 75 = .ok (.iaload, 1) := by decide +kernel
theorem dX12_wordsOf_76 : decode cX12_wordsOf 76 = .ok (.isub, 1) := by decide +kernel
theorem dX12_wordsOf_77 : decode cX12_wordsOf 77 = .ok (.i2l, 1) := by decide +kernel
theorem dX12_wordsOf_78 : decode cX12_wordsOf 78 = .ok (.lastore, 1) := by decide +kernel
theorem dX12_wordsOf_79 : decode cX12_wordsOf 79 = .ok (.aload_n 0, 1) := by decide +kernel
theorem dX12_wordsOf_80 : decode cX12_wordsOf 80 = .ok (.getfield 36, 3) := by decide +kernel
theorem dX12_wordsOf_83 : decode cX12_wordsOf 83 = .ok (.iconst 5, 1) := by decide +kernel
theorem dX12_wordsOf_84 : decode cX12_wordsOf 84 = .ok (.aload_n 0, 1) := by decide +kernel
theorem dX12_wordsOf_85 : decode cX12_wordsOf 85 = .ok (.iload_n 1, 1) := by decide +kernel
theorem dX12_wordsOf_86 : decode cX12_wordsOf 86 = .ok (.invokevirtual 346, 3) := by decide +kernel
theorem dX12_wordsOf_89 : decode cX12_wordsOf 89 = .ok (.invokestatic 374, 3) := by decide +kernel
theorem dX12_wordsOf_92 : decode cX12_wordsOf 92 = .ok (.i2l, 1) := by decide +kernel
theorem dX12_wordsOf_93 : decode cX12_wordsOf 93 = .ok (.lastore, 1) := by decide +kernel
theorem dX12_wordsOf_94 : decode cX12_wordsOf 94 = .ok (.bipush 6, 2) := by decide +kernel
theorem dX12_wordsOf_96 : decode cX12_wordsOf 96 = .ok (.istore_n 2, 1) := by decide +kernel
theorem dX12_wordsOf_97 : decode cX12_wordsOf 97 = .ok (.iload_n 2, 1) := by decide +kernel
theorem dX12_wordsOf_98 : decode cX12_wordsOf 98 = .ok (.bipush 13, 2) := by decide +kernel
theorem dX12_wordsOf_100 : decode cX12_wordsOf 100 = .ok (.if_icmp .ge 16, 3) := by decide +kernel
theorem dX12_wordsOf_103 : decode cX12_wordsOf 103 = .ok (.aload_n 0, 1) := by decide +kernel
theorem dX12_wordsOf_104 : decode cX12_wordsOf 104 = .ok (.getfield 36, 3) := by decide +kernel
theorem dX12_wordsOf_107 : decode cX12_wordsOf 107 = .ok (.iload_n 2, 1) := by decide +kernel
theorem dX12_wordsOf_108 : decode cX12_wordsOf 108 = .ok (.lconst 0, 1) := by decide +kernel
theorem dX12_wordsOf_109 : decode cX12_wordsOf 109 = .ok (.lastore, 1) := by decide +kernel
theorem dX12_wordsOf_110 : decode cX12_wordsOf 110 = .ok (.iinc 2 1, 3) := by decide +kernel
theorem dX12_wordsOf_113 : decode cX12_wordsOf 113 = .ok (.goto (-16), 3) := by decide +kernel
theorem dX12_wordsOf_116 : decode cX12_wordsOf 116 = .ok (.return_, 1) := by decide +kernel
set_option maxHeartbeats 4000000 in
set_option maxRecDepth 100000 in
theorem c_X12_wordsOf (l : Launch) (D : va_G) (cs : Nat → ClassId) (kK kV : Nat → Nat) (a : Nat) (p0 : Int32) (a_said : Nat) (a_said_c : Nat → Int32) (a_tape : Nat) (a__taped : Int32) (a__rules : Int32) (a_sign : Nat) (a_length : Nat) (a_clause : Nat) (a_clauses : Nat) (a_read : Nat) (a__next : Int32) (a__wrong : Int32) (a__number : Int32) (a__text : Int32) (a__made : Int32) (a__deep : Int32) (a__lines : Int32) (a_open : Nat) (a__opened : Int32) (a_stack : Nat) (a__top : Int32) (a_word : Nat) (a__x : Int32) (a_worth : Nat) (a_mate : Nat) (a_wasSaid : Nat) (a__undone : Int32) (a__boughtNow : Int32) (a_wayBy : Nat) (a_wayThen : Nat) (a__walkMost : Int32) (a__walkGoing : Int32) (a__walkSet : Int32) (a_kept : Nat) (a__drawX : Int64) (a_images : Nat) (a_imageX : Nat) (a_isMade : Nat) (a_word_c : Nat → Int64) (h_p0 : IV 0 3 p0) (h_a__taped : IV 0 400 a__taped) (h_a__rules : IV 0 6 a__rules) (h_a__next : IV 0 400 a__next) (h_a__text : IV 0 6 a__text) (h_a__made : IV 0 60 a__made) (h_a__lines : IV 0 40 a__lines) (h_a__opened : IV 0 400 a__opened) (h_a__top : IV 0 64 a__top) (h_a__x : IV 0 2147483647 a__x) (h_a__undone : IV 0 20 a__undone) (hf0 : BS a_said_c 200) (sz : Nat) : Met l yX12_wordsOf (hz_w yX12_wordsOf cX12_wordsOf 3 none) ({ frames := 2, cells := 0, slots := 0, locals := 45 }) (va_Pc [.ref a, .int p0] (hz_C D cs kK kV sz [(a_said, .inl (cs 0, 123, .inl a_said_c)), (a, .inr (12, [.ref a_tape, .int a__taped, .int a__rules, .ref a_sign, .ref a_length, .ref a_clause, .ref a_clauses, .ref a_read, .int a__next, .int a__wrong, .int a__number, .int a__text, .int a__made, .int a__deep, .int a__lines, .ref a_open, .int a__opened, .ref a_stack, .int a__top, .ref a_word, .ref a_said, .int a__x, .ref a_worth, .ref a_mate, .ref a_wasSaid, .int a__undone, .int a__boughtNow, .ref a_wayBy, .ref a_wayThen, .int a__walkMost, .int a__walkGoing, .int a__walkSet, .ref a_kept, .long a__drawX, .ref a_images, .ref a_imageX, .ref a_isMade])), (a_word, .inl (cs 3, 13, .inr (.inl a_word_c)))])) (va_Qv (fun (u : (Nat → Int32) × (Nat → Nat → Int32)) => True) (fun u t => ∃ (o_a_word_c : Nat → Int64), va_P D classes [(a_said, .inl (cs 0, 123, .inl a_said_c)), (a, .inr (12, [.ref a_tape, .int a__taped, .int a__rules, .ref a_sign, .ref a_length, .ref a_clause, .ref a_clauses, .ref a_read, .int a__next, .int a__wrong, .int a__number, .int a__text, .int a__made, .int a__deep, .int a__lines, .ref a_open, .int a__opened, .ref a_stack, .int a__top, .ref a_word, .ref a_said, .int a__x, .ref a_worth, .ref a_mate, .ref a_wasSaid, .int a__undone, .int a__boughtNow, .ref a_wayBy, .ref a_wayThen, .int a__walkMost, .int a__walkGoing, .int a__walkSet, .ref a_kept, .long a__drawX, .ref a_images, .ref a_imageX, .ref a_isMade])), (a_word, .inl (cs 3, 13, .inr (.inl o_a_word_c)))] t.heap ∧ va_D (va_A [(a_said, .inl (cs 0, 123, .inl a_said_c)), (a, .inr (12, [.ref a_tape, .int a__taped, .int a__rules, .ref a_sign, .ref a_length, .ref a_clause, .ref a_clauses, .ref a_read, .int a__next, .int a__wrong, .int a__number, .int a__text, .int a__made, .int a__deep, .int a__lines, .ref a_open, .int a__opened, .ref a_stack, .int a__top, .ref a_word, .ref a_said, .int a__x, .ref a_worth, .ref a_mate, .ref a_wasSaid, .int a__undone, .int a__boughtNow, .ref a_wayBy, .ref a_wayThen, .int a__walkMost, .int a__walkGoing, .int a__walkSet, .ref a_kept, .long a__drawX, .ref a_images, .ref a_imageX, .ref a_isMade])), (a_word, .inl (cs 3, 13, .inr (.inl a_word_c)))] sz) [(a_said, .inl (cs 0, 123, .inl a_said_c)), (a, .inr (12, [.ref a_tape, .int a__taped, .int a__rules, .ref a_sign, .ref a_length, .ref a_clause, .ref a_clauses, .ref a_read, .int a__next, .int a__wrong, .int a__number, .int a__text, .int a__made, .int a__deep, .int a__lines, .ref a_open, .int a__opened, .ref a_stack, .int a__top, .ref a_word, .ref a_said, .int a__x, .ref a_worth, .ref a_mate, .ref a_wasSaid, .int a__undone, .int a__boughtNow, .ref a_wayBy, .ref a_wayThen, .int a__walkMost, .int a__walkGoing, .int a__walkSet, .ref a_kept, .long a__drawX, .ref a_images, .ref a_imageX, .ref a_isMade])), (a_word, .inl (cs 3, 13, .inr (.inl o_a_word_c)))]) (va_A [(a_said, .inl (cs 0, 123, .inl a_said_c)), (a, .inr (12, [.ref a_tape, .int a__taped, .int a__rules, .ref a_sign, .ref a_length, .ref a_clause, .ref a_clauses, .ref a_read, .int a__next, .int a__wrong, .int a__number, .int a__text, .int a__made, .int a__deep, .int a__lines, .ref a_open, .int a__opened, .ref a_stack, .int a__top, .ref a_word, .ref a_said, .int a__x, .ref a_worth, .ref a_mate, .ref a_wasSaid, .int a__undone, .int a__boughtNow, .ref a_wayBy, .ref a_wayThen, .int a__walkMost, .int a__walkGoing, .int a__walkSet, .ref a_kept, .long a__drawX, .ref a_images, .ref a_imageX, .ref a_isMade])), (a_word, .inl (cs 3, 13, .inr (.inl a_word_c)))] sz)) 0 0 (va_A [(a_said, .inl (cs 0, 123, .inl a_said_c)), (a, .inr (12, [.ref a_tape, .int a__taped, .int a__rules, .ref a_sign, .ref a_length, .ref a_clause, .ref a_clauses, .ref a_read, .int a__next, .int a__wrong, .int a__number, .int a__text, .int a__made, .int a__deep, .int a__lines, .ref a_open, .int a__opened, .ref a_stack, .int a__top, .ref a_word, .ref a_said, .int a__x, .ref a_worth, .ref a_mate, .ref a_wasSaid, .int a__undone, .int a__boughtNow, .ref a_wayBy, .ref a_wayThen, .int a__walkMost, .int a__walkGoing, .int a__walkSet, .ref a_kept, .long a__drawX, .ref a_images, .ref a_imageX, .ref a_isMade])), (a_word, .inl (cs 3, 13, .inr (.inl a_word_c)))] sz) := by
  refine Met.ofW (cc := cX12_wordsOf) (maxL := 3) (ret := none) (by decide) rfl ?_
  intro p e s m args below meth c s₁ B hml hv
  obtain ⟨rfl, hsz, hP, hD0, hE⟩ := hv
  have hx := B.exec
  have hb := B.bytes
  have hr := B.returns
  have hT : ∀ w ∈ TB, w.before _ s = true := fun w h => atoms_spec (ws := hz_w yX12_wordsOf cX12_wordsOf 3 none) B.pre w (List.mem_cons_of_mem _ h)
  have hown : s.vm.findClass RX12 = some m.cls := findClass_of_methodNamed B.named
  have hlocks := B.notSynchronized
  clear B
  subst hsz
  have hD := hD0.self (sz := s.heap.size)
  generalize hAe : va_A [(a_said, .inl (cs 0, 123, .inl a_said_c)), (a, .inr (12, [.ref a_tape, .int a__taped, .int a__rules, .ref a_sign, .ref a_length, .ref a_clause, .ref a_clauses, .ref a_read, .int a__next, .int a__wrong, .int a__number, .int a__text, .int a__made, .int a__deep, .int a__lines, .ref a_open, .int a__opened, .ref a_stack, .int a__top, .ref a_word, .ref a_said, .int a__x, .ref a_worth, .ref a_mate, .ref a_wasSaid, .int a__undone, .int a__boughtNow, .ref a_wayBy, .ref a_wayThen, .int a__walkMost, .int a__walkGoing, .int a__walkSet, .ref a_kept, .long a__drawX, .ref a_images, .ref a_imageX, .ref a_isMade])), (a_word, .inl (cs 3, 13, .inr (.inl a_word_c)))] s.heap.size = A at hD hE ⊢
  have hA : ∀ q : Nat, s.heap.size ≤ q → A q := fun q h => by rw [← hAe]; exact Or.inr h
  clear hAe hD0
  have hS : va_S A s.heap s.heap [] := va_S.rf
  have hK := hE.1
  have hl := lv_entry ([.ref a, .int p0]) (n := 3) (Nat.le_of_ble_eq_true rfl)
  rw [lg_entry_eq]
  generalize (lg_sl ([.ref a, .int p0]) ++ List.replicate (3 - (lg_sl ([.ref a, .int p0])).length) Slot.unset).toArray = ls at hl ⊢
  have hl : lv_has ls 3 [(0, .ref a), (1, .int p0)] := hl
  obtain ⟨H, eH⟩ : ∃ z, z = s.heap := ⟨_, rfl⟩
  have hP : va_P D classes [(a_said, .inl (cs 0, 123, .inl a_said_c)), (a, .inr (12, [.ref a_tape, .int a__taped, .int a__rules, .ref a_sign, .ref a_length, .ref a_clause, .ref a_clauses, .ref a_read, .int a__next, .int a__wrong, .int a__number, .int a__text, .int a__made, .int a__deep, .int a__lines, .ref a_open, .int a__opened, .ref a_stack, .int a__top, .ref a_word, .ref a_said, .int a__x, .ref a_worth, .ref a_mate, .ref a_wasSaid, .int a__undone, .int a__boughtNow, .ref a_wayBy, .ref a_wayThen, .int a__walkMost, .int a__walkGoing, .int a__walkSet, .ref a_kept, .long a__drawX, .ref a_images, .ref a_imageX, .ref a_isMade])), (a_word, .inl (cs 3, 13, .inr (.inl a_word_c)))] H := by rw [eH]; exact hP
  have hS : va_S A s.heap H [] := by rw [eH]; exact hS
  rw [← eH]
  clear eH
  obtain ⟨locs, el⟩ : ∃ z : List Loc, z = [] := ⟨_, rfl⟩
  rw [← el] at hS ⊢
  clear el
  have z0 : (0 : Int32).toInt = 0 := by decide
  have z1 : (1 : Int32).toInt = 1 := by decide
  have zm1 : (-1 : Int32).toInt = -1 := by decide
  have i_a__lines : 0 ≤ a__lines.toInt ∧ a__lines.toInt ≤ 40 := h_a__lines
  have i_a__made : 0 ≤ a__made.toInt ∧ a__made.toInt ≤ 60 := h_a__made
  have i_a__next : 0 ≤ a__next.toInt ∧ a__next.toInt ≤ 400 := h_a__next
  have i_a__opened : 0 ≤ a__opened.toInt ∧ a__opened.toInt ≤ 400 := h_a__opened
  have i_a__rules : 0 ≤ a__rules.toInt ∧ a__rules.toInt ≤ 6 := h_a__rules
  have i_a__taped : 0 ≤ a__taped.toInt ∧ a__taped.toInt ≤ 400 := h_a__taped
  have i_a__text : 0 ≤ a__text.toInt ∧ a__text.toInt ≤ 6 := h_a__text
  have i_a__top : 0 ≤ a__top.toInt ∧ a__top.toInt ≤ 64 := h_a__top
  have i_a__undone : 0 ≤ a__undone.toInt ∧ a__undone.toInt ≤ 20 := h_a__undone
  have i_a__x : 0 ≤ a__x.toInt ∧ a__x.toInt ≤ 2147483647 := h_a__x
  have i_p0 : 0 ≤ p0.toInt ∧ p0.toInt ≤ 3 := h_p0
  have K97 : ∀ (n : Nat) (k97_L_2 : Int32) (k97_C_a_word : Nat → Int64), (13 - k97_L_2.toInt + 1).toNat ≤ n → IV 6 13 k97_L_2 → ∀ (H : Heap) (locs : List Loc), va_P D classes [(a_said, .inl (cs 0, 123, .inl a_said_c)), (a, .inr (12, [.ref a_tape, .int a__taped, .int a__rules, .ref a_sign, .ref a_length, .ref a_clause, .ref a_clauses, .ref a_read, .int a__next, .int a__wrong, .int a__number, .int a__text, .int a__made, .int a__deep, .int a__lines, .ref a_open, .int a__opened, .ref a_stack, .int a__top, .ref a_word, .ref a_said, .int a__x, .ref a_worth, .ref a_mate, .ref a_wasSaid, .int a__undone, .int a__boughtNow, .ref a_wayBy, .ref a_wayThen, .int a__walkMost, .int a__walkGoing, .int a__walkSet, .ref a_kept, .long a__drawX, .ref a_images, .ref a_imageX, .ref a_isMade])), (a_word, .inl (cs 3, 13, .inr (.inl k97_C_a_word)))] H → va_D A [(a_said, .inl (cs 0, 123, .inl a_said_c)), (a, .inr (12, [.ref a_tape, .int a__taped, .int a__rules, .ref a_sign, .ref a_length, .ref a_clause, .ref a_clauses, .ref a_read, .int a__next, .int a__wrong, .int a__number, .int a__text, .int a__made, .int a__deep, .int a__lines, .ref a_open, .int a__opened, .ref a_stack, .int a__top, .ref a_word, .ref a_said, .int a__x, .ref a_worth, .ref a_mate, .ref a_wasSaid, .int a__undone, .int a__boughtNow, .ref a_wayBy, .ref a_wayThen, .int a__walkMost, .int a__walkGoing, .int a__walkSet, .ref a_kept, .long a__drawX, .ref a_images, .ref a_imageX, .ref a_isMade])), (a_word, .inl (cs 3, 13, .inr (.inl k97_C_a_word)))] → va_S A s.heap H locs → ∀ ls : Array Slot, lv_has ls 3 [(2, .int k97_L_2), (0, .ref a), (1, .int p0)] → W p l e (headSpec (hz_w yX12_wordsOf cX12_wordsOf 3 none) ({ frames := 2, cells := 0, slots := 0, locals := 45 })).room s m [.ref a, .int p0].toArray below meth c H locs 0 0 (MQ below (va_Qv (fun (u : (Nat → Int32) × (Nat → Nat → Int32)) => True) (fun u t => ∃ (o_a_word_c : Nat → Int64), va_P D classes [(a_said, .inl (cs 0, 123, .inl a_said_c)), (a, .inr (12, [.ref a_tape, .int a__taped, .int a__rules, .ref a_sign, .ref a_length, .ref a_clause, .ref a_clauses, .ref a_read, .int a__next, .int a__wrong, .int a__number, .int a__text, .int a__made, .int a__deep, .int a__lines, .ref a_open, .int a__opened, .ref a_stack, .int a__top, .ref a_word, .ref a_said, .int a__x, .ref a_worth, .ref a_mate, .ref a_wasSaid, .int a__undone, .int a__boughtNow, .ref a_wayBy, .ref a_wayThen, .int a__walkMost, .int a__walkGoing, .int a__walkSet, .ref a_kept, .long a__drawX, .ref a_images, .ref a_imageX, .ref a_isMade])), (a_word, .inl (cs 3, 13, .inr (.inl o_a_word_c)))] t.heap ∧ va_D A [(a_said, .inl (cs 0, 123, .inl a_said_c)), (a, .inr (12, [.ref a_tape, .int a__taped, .int a__rules, .ref a_sign, .ref a_length, .ref a_clause, .ref a_clauses, .ref a_read, .int a__next, .int a__wrong, .int a__number, .int a__text, .int a__made, .int a__deep, .int a__lines, .ref a_open, .int a__opened, .ref a_stack, .int a__top, .ref a_word, .ref a_said, .int a__x, .ref a_worth, .ref a_mate, .ref a_wasSaid, .int a__undone, .int a__boughtNow, .ref a_wayBy, .ref a_wayThen, .int a__walkMost, .int a__walkGoing, .int a__walkSet, .ref a_kept, .long a__drawX, .ref a_images, .ref a_imageX, .ref a_isMade])), (a_word, .inl (cs 3, 13, .inr (.inl o_a_word_c)))]) A) [.ref a, .int p0].toArray s 0 0 A) (F0 m 97 ls []) := by
    intro n
    induction n with
    | zero =>
      intro k97_L_2 k97_C_a_word hn q97_10 H locs hP hD hS ls hl
      exact absurd hn (by unfold IV at q97_10; omega)
    | succ n ih97 =>
      intro k97_L_2 k97_C_a_word hn q97_10 H locs hP hD hS ls hl
      have i_a__lines : 0 ≤ a__lines.toInt ∧ a__lines.toInt ≤ 40 := h_a__lines
      have i_a__made : 0 ≤ a__made.toInt ∧ a__made.toInt ≤ 60 := h_a__made
      have i_a__next : 0 ≤ a__next.toInt ∧ a__next.toInt ≤ 400 := h_a__next
      have i_a__opened : 0 ≤ a__opened.toInt ∧ a__opened.toInt ≤ 400 := h_a__opened
      have i_a__rules : 0 ≤ a__rules.toInt ∧ a__rules.toInt ≤ 6 := h_a__rules
      have i_a__taped : 0 ≤ a__taped.toInt ∧ a__taped.toInt ≤ 400 := h_a__taped
      have i_a__text : 0 ≤ a__text.toInt ∧ a__text.toInt ≤ 6 := h_a__text
      have i_a__top : 0 ≤ a__top.toInt ∧ a__top.toInt ≤ 64 := h_a__top
      have i_a__undone : 0 ≤ a__undone.toInt ∧ a__undone.toInt ≤ 20 := h_a__undone
      have i_a__x : 0 ≤ a__x.toInt ∧ a__x.toInt ≤ 2147483647 := h_a__x
      have i_k97_L_2 : 6 ≤ k97_L_2.toInt ∧ k97_L_2.toInt ≤ 13 := q97_10
      have i_p0 : 0 ≤ p0.toInt ∧ p0.toInt ≤ 3 := h_p0
      refine lv_iload_n hx hb dX12_wordsOf_97 rfl (lv_at hl 0 rfl) ?_
      refine lv_bipush (v := 13) hx hb dX12_wordsOf_98 (by decide) ?_
      refine lv_icmp_ge (tgt := 116) hx hb dX12_wordsOf_100 (by decide) (fun c1 => ?_) (fun c1 => ?_)
      · have t2 : k97_L_2.toInt ≥ 13 := lin_ge c1 rfl (by decide)
        have h3 : IV 13 13 k97_L_2 := iv_le2 c1 (iv_c (a := 13) (b := 13) (by decide)) q97_10 (by decide)
        have ii4 : 13 ≤ k97_L_2.toInt ∧ k97_L_2.toInt ≤ 13 := h3
        refine W.widen (k := 0) (n := 0) (Nat.le_of_ble_eq_true rfl) (Nat.le_of_ble_eq_true rfl) ?_
        exact W.vret hx hb hr (fun t ht hW => ⟨⟨(fun k => match k with | 0 => 0 | _ => 0, fun _ _ => 0), rfl, (trivial), k97_C_a_word, by rw [ht]; exact hP.sub [0, 1, 2] rfl, hD.sub [0, 1, 2] (by decide) rfl⟩, hS.F ht⟩) hS.2.2 dX12_wordsOf_116
      · have t5 : k97_L_2.toInt < 13 := lin_geN c1 rfl (by decide)
        have h6 : IV 6 12 k97_L_2 := iv_lt1 (Int32.not_le.mp c1) q97_10 (iv_c (a := 13) (b := 13) (by decide)) (by decide)
        have ii7 : 6 ≤ k97_L_2.toInt ∧ k97_L_2.toInt ≤ 12 := h6
        refine lv_aload_n hx hb dX12_wordsOf_103 rfl (lv_at hl 1 rfl) ?_
        refine va_get (D := D) (ci := 12) (v := .ref a_word) (C := RX12) (T := TX12) (N := 37) hx hb hT i_X12 hown hK hP 1 rfl rfl 19 (by decide) (hT _ q_184) (fun _ h9 => h9) rfl dX12_wordsOf_104 ?_
        refine lv_iload_n hx hb dX12_wordsOf_107 rfl (lv_at hl 0 rfl) ?_
        refine lv_lconst (v := 0) hx hb dX12_wordsOf_108 (by decide) ?_
        refine va_last hx hb hK hP hD hS 2 3 rfl rfl (iv_v h6 (by decide) (by decide)) dX12_wordsOf_109 (fun H locs hP hD hS => ?_)
        have hP : va_P D classes [(a_said, .inl (cs 0, 123, .inl a_said_c)), (a, .inr (12, [.ref a_tape, .int a__taped, .int a__rules, .ref a_sign, .ref a_length, .ref a_clause, .ref a_clauses, .ref a_read, .int a__next, .int a__wrong, .int a__number, .int a__text, .int a__made, .int a__deep, .int a__lines, .ref a_open, .int a__opened, .ref a_stack, .int a__top, .ref a_word, .ref a_said, .int a__x, .ref a_worth, .ref a_mate, .ref a_wasSaid, .int a__undone, .int a__boughtNow, .ref a_wayBy, .ref a_wayThen, .int a__walkMost, .int a__walkGoing, .int a__walkSet, .ref a_kept, .long a__drawX, .ref a_images, .ref a_imageX, .ref a_isMade])), (a_word, .inl (cs 3, 13, .inr (.inl (vp_updL k97_C_a_word (Int32.toNatClampNeg k97_L_2) (0 : Int64)))))] H := hP
        have hD : va_D A [(a_said, .inl (cs 0, 123, .inl a_said_c)), (a, .inr (12, [.ref a_tape, .int a__taped, .int a__rules, .ref a_sign, .ref a_length, .ref a_clause, .ref a_clauses, .ref a_read, .int a__next, .int a__wrong, .int a__number, .int a__text, .int a__made, .int a__deep, .int a__lines, .ref a_open, .int a__opened, .ref a_stack, .int a__top, .ref a_word, .ref a_said, .int a__x, .ref a_worth, .ref a_mate, .ref a_wasSaid, .int a__undone, .int a__boughtNow, .ref a_wayBy, .ref a_wayThen, .int a__walkMost, .int a__walkGoing, .int a__walkSet, .ref a_kept, .long a__drawX, .ref a_images, .ref a_imageX, .ref a_isMade])), (a_word, .inl (cs 3, 13, .inr (.inl (vp_updL k97_C_a_word (Int32.toNatClampNeg k97_L_2) (0 : Int64)))))] := hD
        generalize vp_updL k97_C_a_word (Int32.toNatClampNeg k97_L_2) (0 : Int64) = f8 at hP hD
        obtain ⟨v9, ev9⟩ : ∃ z : Int32, z = k97_L_2 + 1 := ⟨_, rfl⟩
        have hv9 : IV 7 13 v9 := iv_add ev9 h6 (iv_c (a := 1) (b := 1) (by decide)) (by decide) (by decide)
        have dv9 : v9.toInt = k97_L_2.toInt + 1 := iv_addE ev9 h6 (iv_c (a := 1) (b := 1) (by decide)) (by decide) (by decide) (by decide)
        refine lv_iinc (v := v9) (lv' := [(2, .int v9), (0, .ref a), (1, .int p0)]) hx hb dX12_wordsOf_110 hl (k := 0) rfl (by rw [ev9]; rfl) (by decide) rfl (fun ls hl => ?_)
        refine lv_goto (tgt := 97) hx hb dX12_wordsOf_113 (by decide) ?_
        exact ih97 v9 f8 (by have h9 := h6; unfold IV at h9; have := dv9; omega) (iv_w hv9 (by decide) (by decide)) H locs (hP.sub (ws' := [(a_said, .inl (cs 0, 123, .inl a_said_c)), (a, .inr (12, [.ref a_tape, .int a__taped, .int a__rules, .ref a_sign, .ref a_length, .ref a_clause, .ref a_clauses, .ref a_read, .int a__next, .int a__wrong, .int a__number, .int a__text, .int a__made, .int a__deep, .int a__lines, .ref a_open, .int a__opened, .ref a_stack, .int a__top, .ref a_word, .ref a_said, .int a__x, .ref a_worth, .ref a_mate, .ref a_wasSaid, .int a__undone, .int a__boughtNow, .ref a_wayBy, .ref a_wayThen, .int a__walkMost, .int a__walkGoing, .int a__walkSet, .ref a_kept, .long a__drawX, .ref a_images, .ref a_imageX, .ref a_isMade])), (a_word, .inl (cs 3, 13, .inr (.inl f8)))]) [0, 1, 2] rfl) (hD.sub (ws' := [(a_said, .inl (cs 0, 123, .inl a_said_c)), (a, .inr (12, [.ref a_tape, .int a__taped, .int a__rules, .ref a_sign, .ref a_length, .ref a_clause, .ref a_clauses, .ref a_read, .int a__next, .int a__wrong, .int a__number, .int a__text, .int a__made, .int a__deep, .int a__lines, .ref a_open, .int a__opened, .ref a_stack, .int a__top, .ref a_word, .ref a_said, .int a__x, .ref a_worth, .ref a_mate, .ref a_wasSaid, .int a__undone, .int a__boughtNow, .ref a_wayBy, .ref a_wayThen, .int a__walkMost, .int a__walkGoing, .int a__walkSet, .ref a_kept, .long a__drawX, .ref a_images, .ref a_imageX, .ref a_isMade])), (a_word, .inl (cs 3, 13, .inr (.inl f8)))]) [0, 1, 2] (by decide) rfl) hS ls (lv_sub hl [0, 1, 2] rfl)
  refine lv_aload_n hx hb dX12_wordsOf_0 rfl (lv_at hl 0 rfl) ?_
  refine va_get (D := D) (ci := 12) (v := .ref a_word) (C := RX12) (T := TX12) (N := 37) hx hb hT i_X12 hown hK hP 1 rfl rfl 19 (by decide) (hT _ q_184) (fun _ h9 => h9) rfl dX12_wordsOf_1 ?_
  refine lv_iconst (v := 0) hx hb dX12_wordsOf_4 (by decide) ?_
  refine lv_iload_n hx hb dX12_wordsOf_5 rfl (lv_at hl 1 rfl) ?_
  refine lv_i2l (v := p0.toInt64) hx hb dX12_wordsOf_6 rfl ?_
  refine va_last hx hb hK hP hD hS 2 3 rfl rfl (iv_vc (by decide)) dX12_wordsOf_7 (fun H locs hP hD hS => ?_)
  have hP : va_P D classes [(a_said, .inl (cs 0, 123, .inl a_said_c)), (a, .inr (12, [.ref a_tape, .int a__taped, .int a__rules, .ref a_sign, .ref a_length, .ref a_clause, .ref a_clauses, .ref a_read, .int a__next, .int a__wrong, .int a__number, .int a__text, .int a__made, .int a__deep, .int a__lines, .ref a_open, .int a__opened, .ref a_stack, .int a__top, .ref a_word, .ref a_said, .int a__x, .ref a_worth, .ref a_mate, .ref a_wasSaid, .int a__undone, .int a__boughtNow, .ref a_wayBy, .ref a_wayThen, .int a__walkMost, .int a__walkGoing, .int a__walkSet, .ref a_kept, .long a__drawX, .ref a_images, .ref a_imageX, .ref a_isMade])), (a_word, .inl (cs 3, 13, .inr (.inl (vp_updL a_word_c (Int32.toNatClampNeg (0 : Int32)) p0.toInt64))))] H := hP
  have hD : va_D A [(a_said, .inl (cs 0, 123, .inl a_said_c)), (a, .inr (12, [.ref a_tape, .int a__taped, .int a__rules, .ref a_sign, .ref a_length, .ref a_clause, .ref a_clauses, .ref a_read, .int a__next, .int a__wrong, .int a__number, .int a__text, .int a__made, .int a__deep, .int a__lines, .ref a_open, .int a__opened, .ref a_stack, .int a__top, .ref a_word, .ref a_said, .int a__x, .ref a_worth, .ref a_mate, .ref a_wasSaid, .int a__undone, .int a__boughtNow, .ref a_wayBy, .ref a_wayThen, .int a__walkMost, .int a__walkGoing, .int a__walkSet, .ref a_kept, .long a__drawX, .ref a_images, .ref a_imageX, .ref a_isMade])), (a_word, .inl (cs 3, 13, .inr (.inl (vp_updL a_word_c (Int32.toNatClampNeg (0 : Int32)) p0.toInt64))))] := hD
  generalize vp_updL a_word_c (Int32.toNatClampNeg (0 : Int32)) p0.toInt64 = f10 at hP hD
  refine lv_aload_n hx hb dX12_wordsOf_8 rfl (lv_at hl 0 rfl) ?_
  refine va_get (D := D) (ci := 12) (v := .ref a_word) (C := RX12) (T := TX12) (N := 37) hx hb hT i_X12 hown hK hP 1 rfl rfl 19 (by decide) (hT _ q_184) (fun _ h9 => h9) rfl dX12_wordsOf_9 ?_
  refine lv_iconst (v := 1) hx hb dX12_wordsOf_12 (by decide) ?_
  refine lv_aload_n hx hb dX12_wordsOf_13 rfl (lv_at hl 0 rfl) ?_
  refine lv_iload_n hx hb dX12_wordsOf_14 rfl (lv_at hl 1 rfl) ?_
  refine lv_iconst (v := 0) hx hb dX12_wordsOf_15 (by decide) ?_
  refine va_calli (va_runV (As := [.int p0, .int 0]) (rest := [.int 1, .ref a_word]) ⟨hx, hb, hml, hown, hT⟩ (c_X12_buyerOf l D cs kK kV a p0 0 a_said a_said_c a_tape a__taped a__rules a_sign a_length a_clause a_clauses a_read a__next a__wrong a__number a__text a__made a__deep a__lines a_open a__opened a_stack a__top a_word a__x a_worth a_mate a_wasSaid a__undone a__boughtNow a_wayBy a_wayThen a__walkMost a__walkGoing a__walkSet a_kept a__drawX a_images a_imageX a_isMade h_p0 ((iv_c (by decide))) h_a__taped h_a__rules h_a__next h_a__text h_a__made h_a__lines h_a__opened h_a__top h_a__x h_a__undone hf0) (cwV 2 hT (hz_gV q_1120 q_1121 q_1122 q_701 q_1123) rfl rfl rfl (by decide +kernel) ⟨(Nat.le_of_ble_eq_true rfl), (Nat.le_of_ble_eq_true rfl)⟩) ⟨hz_P.blind, va_recv hK hP (ci := 12) (q0 := 1) rfl rfl, hz_P.mk (hP.sub (ws' := [(a_said, .inl (cs 0, 123, .inl a_said_c)), (a, .inr (12, [.ref a_tape, .int a__taped, .int a__rules, .ref a_sign, .ref a_length, .ref a_clause, .ref a_clauses, .ref a_read, .int a__next, .int a__wrong, .int a__number, .int a__text, .int a__made, .int a__deep, .int a__lines, .ref a_open, .int a__opened, .ref a_stack, .int a__top, .ref a_word, .ref a_said, .int a__x, .ref a_worth, .ref a_mate, .ref a_wasSaid, .int a__undone, .int a__boughtNow, .ref a_wayBy, .ref a_wayThen, .int a__walkMost, .int a__walkGoing, .int a__walkSet, .ref a_kept, .long a__drawX, .ref a_images, .ref a_imageX, .ref a_isMade]))]) [0,1] rfl) hE hS⟩ rfl rfl hl.1 rfl (lv_room (Nat.le_of_ble_eq_true rfl)) dX12_wordsOf_16 ⟨(Nat.le_of_ble_eq_true rfl), (Nat.le_of_ble_eq_true rfl)⟩) hS (fun _ _ h => h.elim) (fun _ h => h.elim) (fun r11 u t H1 locs ht hvm hw hB hz1 hk1 hS => ?_)
  have hP := hz_keep hP hk1
  clear hk1 hB hz1
  generalize H1 = H at hP hS ⊢
  rcases hw with ⟨x12, x13⟩
  refine lv_i2l (v := r11.toInt64) hx hb dX12_wordsOf_19 rfl ?_
  refine va_last hx hb hK hP hD hS 2 3 rfl rfl (iv_vc (by decide)) dX12_wordsOf_20 (fun H locs hP hD hS => ?_)
  have hP : va_P D classes [(a_said, .inl (cs 0, 123, .inl a_said_c)), (a, .inr (12, [.ref a_tape, .int a__taped, .int a__rules, .ref a_sign, .ref a_length, .ref a_clause, .ref a_clauses, .ref a_read, .int a__next, .int a__wrong, .int a__number, .int a__text, .int a__made, .int a__deep, .int a__lines, .ref a_open, .int a__opened, .ref a_stack, .int a__top, .ref a_word, .ref a_said, .int a__x, .ref a_worth, .ref a_mate, .ref a_wasSaid, .int a__undone, .int a__boughtNow, .ref a_wayBy, .ref a_wayThen, .int a__walkMost, .int a__walkGoing, .int a__walkSet, .ref a_kept, .long a__drawX, .ref a_images, .ref a_imageX, .ref a_isMade])), (a_word, .inl (cs 3, 13, .inr (.inl (vp_updL f10 (Int32.toNatClampNeg (1 : Int32)) r11.toInt64))))] H := hP
  have hD : va_D A [(a_said, .inl (cs 0, 123, .inl a_said_c)), (a, .inr (12, [.ref a_tape, .int a__taped, .int a__rules, .ref a_sign, .ref a_length, .ref a_clause, .ref a_clauses, .ref a_read, .int a__next, .int a__wrong, .int a__number, .int a__text, .int a__made, .int a__deep, .int a__lines, .ref a_open, .int a__opened, .ref a_stack, .int a__top, .ref a_word, .ref a_said, .int a__x, .ref a_worth, .ref a_mate, .ref a_wasSaid, .int a__undone, .int a__boughtNow, .ref a_wayBy, .ref a_wayThen, .int a__walkMost, .int a__walkGoing, .int a__walkSet, .ref a_kept, .long a__drawX, .ref a_images, .ref a_imageX, .ref a_isMade])), (a_word, .inl (cs 3, 13, .inr (.inl (vp_updL f10 (Int32.toNatClampNeg (1 : Int32)) r11.toInt64))))] := hD
  generalize vp_updL f10 (Int32.toNatClampNeg (1 : Int32)) r11.toInt64 = f14 at hP hD
  refine lv_aload_n hx hb dX12_wordsOf_21 rfl (lv_at hl 0 rfl) ?_
  refine va_get (D := D) (ci := 12) (v := .ref a_word) (C := RX12) (T := TX12) (N := 37) hx hb hT i_X12 hown hK hP 1 rfl rfl 19 (by decide) (hT _ q_184) (fun _ h9 => h9) rfl dX12_wordsOf_22 ?_
  refine lv_iconst (v := 2) hx hb dX12_wordsOf_25 (by decide) ?_
  refine lv_aload_n hx hb dX12_wordsOf_26 rfl (lv_at hl 0 rfl) ?_
  refine lv_iload_n hx hb dX12_wordsOf_27 rfl (lv_at hl 1 rfl) ?_
  refine lv_iconst (v := 1) hx hb dX12_wordsOf_28 (by decide) ?_
  refine va_calli (va_runV (As := [.int p0, .int 1]) (rest := [.int 2, .ref a_word]) ⟨hx, hb, hml, hown, hT⟩ (c_X12_buyerOf l D cs kK kV a p0 1 a_said a_said_c a_tape a__taped a__rules a_sign a_length a_clause a_clauses a_read a__next a__wrong a__number a__text a__made a__deep a__lines a_open a__opened a_stack a__top a_word a__x a_worth a_mate a_wasSaid a__undone a__boughtNow a_wayBy a_wayThen a__walkMost a__walkGoing a__walkSet a_kept a__drawX a_images a_imageX a_isMade h_p0 ((iv_c (by decide))) h_a__taped h_a__rules h_a__next h_a__text h_a__made h_a__lines h_a__opened h_a__top h_a__x h_a__undone hf0) (cwV 2 hT (hz_gV q_1120 q_1121 q_1122 q_701 q_1123) rfl rfl rfl (by decide +kernel) ⟨(Nat.le_of_ble_eq_true rfl), (Nat.le_of_ble_eq_true rfl)⟩) ⟨hz_P.blind, va_recv hK hP (ci := 12) (q0 := 1) rfl rfl, hz_P.mk (hP.sub (ws' := [(a_said, .inl (cs 0, 123, .inl a_said_c)), (a, .inr (12, [.ref a_tape, .int a__taped, .int a__rules, .ref a_sign, .ref a_length, .ref a_clause, .ref a_clauses, .ref a_read, .int a__next, .int a__wrong, .int a__number, .int a__text, .int a__made, .int a__deep, .int a__lines, .ref a_open, .int a__opened, .ref a_stack, .int a__top, .ref a_word, .ref a_said, .int a__x, .ref a_worth, .ref a_mate, .ref a_wasSaid, .int a__undone, .int a__boughtNow, .ref a_wayBy, .ref a_wayThen, .int a__walkMost, .int a__walkGoing, .int a__walkSet, .ref a_kept, .long a__drawX, .ref a_images, .ref a_imageX, .ref a_isMade]))]) [0,1] rfl) hE hS⟩ rfl rfl hl.1 rfl (lv_room (Nat.le_of_ble_eq_true rfl)) dX12_wordsOf_29 ⟨(Nat.le_of_ble_eq_true rfl), (Nat.le_of_ble_eq_true rfl)⟩) hS (fun _ _ h => h.elim) (fun _ h => h.elim) (fun r15 u t H1 locs ht hvm hw hB hz1 hk1 hS => ?_)
  have hP := hz_keep hP hk1
  clear hk1 hB hz1
  generalize H1 = H at hP hS ⊢
  rcases hw with ⟨x16, x17⟩
  refine lv_i2l (v := r15.toInt64) hx hb dX12_wordsOf_32 rfl ?_
  refine va_last hx hb hK hP hD hS 2 3 rfl rfl (iv_vc (by decide)) dX12_wordsOf_33 (fun H locs hP hD hS => ?_)
  have hP : va_P D classes [(a_said, .inl (cs 0, 123, .inl a_said_c)), (a, .inr (12, [.ref a_tape, .int a__taped, .int a__rules, .ref a_sign, .ref a_length, .ref a_clause, .ref a_clauses, .ref a_read, .int a__next, .int a__wrong, .int a__number, .int a__text, .int a__made, .int a__deep, .int a__lines, .ref a_open, .int a__opened, .ref a_stack, .int a__top, .ref a_word, .ref a_said, .int a__x, .ref a_worth, .ref a_mate, .ref a_wasSaid, .int a__undone, .int a__boughtNow, .ref a_wayBy, .ref a_wayThen, .int a__walkMost, .int a__walkGoing, .int a__walkSet, .ref a_kept, .long a__drawX, .ref a_images, .ref a_imageX, .ref a_isMade])), (a_word, .inl (cs 3, 13, .inr (.inl (vp_updL f14 (Int32.toNatClampNeg (2 : Int32)) r15.toInt64))))] H := hP
  have hD : va_D A [(a_said, .inl (cs 0, 123, .inl a_said_c)), (a, .inr (12, [.ref a_tape, .int a__taped, .int a__rules, .ref a_sign, .ref a_length, .ref a_clause, .ref a_clauses, .ref a_read, .int a__next, .int a__wrong, .int a__number, .int a__text, .int a__made, .int a__deep, .int a__lines, .ref a_open, .int a__opened, .ref a_stack, .int a__top, .ref a_word, .ref a_said, .int a__x, .ref a_worth, .ref a_mate, .ref a_wasSaid, .int a__undone, .int a__boughtNow, .ref a_wayBy, .ref a_wayThen, .int a__walkMost, .int a__walkGoing, .int a__walkSet, .ref a_kept, .long a__drawX, .ref a_images, .ref a_imageX, .ref a_isMade])), (a_word, .inl (cs 3, 13, .inr (.inl (vp_updL f14 (Int32.toNatClampNeg (2 : Int32)) r15.toInt64))))] := hD
  generalize vp_updL f14 (Int32.toNatClampNeg (2 : Int32)) r15.toInt64 = f18 at hP hD
  refine lv_aload_n hx hb dX12_wordsOf_34 rfl (lv_at hl 0 rfl) ?_
  refine va_get (D := D) (ci := 12) (v := .ref a_word) (C := RX12) (T := TX12) (N := 37) hx hb hT i_X12 hown hK hP 1 rfl rfl 19 (by decide) (hT _ q_184) (fun _ h9 => h9) rfl dX12_wordsOf_35 ?_
  refine lv_iconst (v := 3) hx hb dX12_wordsOf_38 (by decide) ?_
  refine lv_aload_n hx hb dX12_wordsOf_39 rfl (lv_at hl 0 rfl) ?_
  refine va_get (D := D) (ci := 12) (v := .ref a_said) (C := RX12) (T := TX12) (N := 37) hx hb hT i_X12 hown hK hP 1 rfl rfl 20 (by decide) (hT _ q_185) (fun _ h9 => h9) rfl dX12_wordsOf_40 ?_
  refine lv_iconst (v := 3) hx hb dX12_wordsOf_43 (by decide) ?_
  refine va_iald hx hb hK hP 0 0 rfl rfl (iv_vc (by decide)) dX12_wordsOf_44 ?_
  refine lv_topi (fun v19 ev19 => ?_)
  have h20 : IV 0 200 v19 := (by rw [ev19]; exact bs_i3 hf0)
  have ii21 : 0 ≤ v19.toInt ∧ v19.toInt ≤ 200 := h20
  have lv19 : v19.toInt = (a_said_c 3).toInt := by rw [ev19]; rfl
  refine lv_i2l (v := v19.toInt64) hx hb dX12_wordsOf_45 rfl ?_
  refine va_last hx hb hK hP hD hS 2 3 rfl rfl (iv_vc (by decide)) dX12_wordsOf_46 (fun H locs hP hD hS => ?_)
  have hP : va_P D classes [(a_said, .inl (cs 0, 123, .inl a_said_c)), (a, .inr (12, [.ref a_tape, .int a__taped, .int a__rules, .ref a_sign, .ref a_length, .ref a_clause, .ref a_clauses, .ref a_read, .int a__next, .int a__wrong, .int a__number, .int a__text, .int a__made, .int a__deep, .int a__lines, .ref a_open, .int a__opened, .ref a_stack, .int a__top, .ref a_word, .ref a_said, .int a__x, .ref a_worth, .ref a_mate, .ref a_wasSaid, .int a__undone, .int a__boughtNow, .ref a_wayBy, .ref a_wayThen, .int a__walkMost, .int a__walkGoing, .int a__walkSet, .ref a_kept, .long a__drawX, .ref a_images, .ref a_imageX, .ref a_isMade])), (a_word, .inl (cs 3, 13, .inr (.inl (vp_updL f18 (Int32.toNatClampNeg (3 : Int32)) v19.toInt64))))] H := hP
  have hD : va_D A [(a_said, .inl (cs 0, 123, .inl a_said_c)), (a, .inr (12, [.ref a_tape, .int a__taped, .int a__rules, .ref a_sign, .ref a_length, .ref a_clause, .ref a_clauses, .ref a_read, .int a__next, .int a__wrong, .int a__number, .int a__text, .int a__made, .int a__deep, .int a__lines, .ref a_open, .int a__opened, .ref a_stack, .int a__top, .ref a_word, .ref a_said, .int a__x, .ref a_worth, .ref a_mate, .ref a_wasSaid, .int a__undone, .int a__boughtNow, .ref a_wayBy, .ref a_wayThen, .int a__walkMost, .int a__walkGoing, .int a__walkSet, .ref a_kept, .long a__drawX, .ref a_images, .ref a_imageX, .ref a_isMade])), (a_word, .inl (cs 3, 13, .inr (.inl (vp_updL f18 (Int32.toNatClampNeg (3 : Int32)) v19.toInt64))))] := hD
  generalize vp_updL f18 (Int32.toNatClampNeg (3 : Int32)) v19.toInt64 = f22 at hP hD
  refine lv_aload_n hx hb dX12_wordsOf_47 rfl (lv_at hl 0 rfl) ?_
  refine va_get (D := D) (ci := 12) (v := .ref a_word) (C := RX12) (T := TX12) (N := 37) hx hb hT i_X12 hown hK hP 1 rfl rfl 19 (by decide) (hT _ q_184) (fun _ h9 => h9) rfl dX12_wordsOf_48 ?_
  refine lv_iconst (v := 4) hx hb dX12_wordsOf_51 (by decide) ?_
  refine lv_aload_n hx hb dX12_wordsOf_52 rfl (lv_at hl 0 rfl) ?_
  refine va_calli (va_runV (As := []) (rest := [.int 4, .ref a_word]) ⟨hx, hb, hml, hown, hT⟩ (c_X12_isDusk l D cs kK kV a a_tape a__taped a__rules a_sign a_length a_clause a_clauses a_read a__next a__wrong a__number a__text a__made a__deep a__lines a_open a__opened a_stack a__top a_word a_said a__x a_worth a_mate a_wasSaid a__undone a__boughtNow a_wayBy a_wayThen a__walkMost a__walkGoing a__walkSet a_kept a__drawX a_images a_imageX a_isMade a_said_c h_a__taped h_a__rules h_a__next h_a__text h_a__made h_a__lines h_a__opened h_a__top h_a__x h_a__undone) (cwV 0 hT (hz_gV q_1100 q_1101 q_1102 q_701 q_1103) rfl rfl rfl (by decide +kernel) ⟨(Nat.le_of_ble_eq_true rfl), (Nat.le_of_ble_eq_true rfl)⟩) ⟨hz_P.blind, va_recv hK hP (ci := 12) (q0 := 1) rfl rfl, hz_P.mk (hP.sub (ws' := [(a, .inr (12, [.ref a_tape, .int a__taped, .int a__rules, .ref a_sign, .ref a_length, .ref a_clause, .ref a_clauses, .ref a_read, .int a__next, .int a__wrong, .int a__number, .int a__text, .int a__made, .int a__deep, .int a__lines, .ref a_open, .int a__opened, .ref a_stack, .int a__top, .ref a_word, .ref a_said, .int a__x, .ref a_worth, .ref a_mate, .ref a_wasSaid, .int a__undone, .int a__boughtNow, .ref a_wayBy, .ref a_wayThen, .int a__walkMost, .int a__walkGoing, .int a__walkSet, .ref a_kept, .long a__drawX, .ref a_images, .ref a_imageX, .ref a_isMade])), (a_said, .inl (cs 0, 123, .inl a_said_c))]) [1,0] rfl) hE hS⟩ rfl rfl hl.1 rfl (lv_room (Nat.le_of_ble_eq_true rfl)) dX12_wordsOf_53 ⟨(Nat.le_of_ble_eq_true rfl), (Nat.le_of_ble_eq_true rfl)⟩) hS (fun _ _ h => h.elim) (fun _ h => h.elim) (fun r23 u t H1 locs ht hvm hw hB hz1 hk1 hS => ?_)
  have hP := hz_keep hP hk1
  clear hk1 hB hz1
  generalize H1 = H at hP hS ⊢
  rcases hw with ⟨rfl, x24⟩ | rfl
  · refine lv_if_eq (tgt := 63) hx hb dX12_wordsOf_56 (by decide) (fun _ => ?_) (fun z => absurd (by decide) z)
    refine lv_aload_n hx hb dX12_wordsOf_63 rfl (lv_at hl 0 rfl) ?_
    refine va_get (D := D) (ci := 12) (v := .ref a_said) (C := RX12) (T := TX12) (N := 37) hx hb hT i_X12 hown hK hP 1 rfl rfl 20 (by decide) (hT _ q_185) (fun _ h9 => h9) rfl dX12_wordsOf_64 ?_
    refine lv_bipush (v := 6) hx hb dX12_wordsOf_67 (by decide) ?_
    refine va_iald hx hb hK hP 0 0 rfl rfl (iv_vc (by decide)) dX12_wordsOf_69 ?_
    refine lv_topi (fun v25 ev25 => ?_)
    have lv25 : v25.toInt = (a_said_c 6).toInt := by rw [ev25]; rfl
    refine lv_aload_n hx hb dX12_wordsOf_70 rfl (lv_at hl 0 rfl) ?_
    refine va_get (D := D) (ci := 12) (v := .ref a_said) (C := RX12) (T := TX12) (N := 37) hx hb hT i_X12 hown hK hP 1 rfl rfl 20 (by decide) (hT _ q_185) (fun _ h9 => h9) rfl dX12_wordsOf_71 ?_
    refine lv_iconst (v := 3) hx hb dX12_wordsOf_74 (by decide) ?_
    refine va_iald hx hb hK hP 0 0 rfl rfl (iv_vc (by decide)) dX12_wordsOf_75 ?_
    refine hz_ev v19 ev19.symm ?_
    refine lv_isub hx hb dX12_wordsOf_76 ?_
    refine lv_topi (fun v26 ev26 => ?_)
    refine lv_i2l (v := v26.toInt64) hx hb dX12_wordsOf_77 rfl ?_
    refine va_last hx hb hK hP hD hS 2 3 rfl rfl (iv_vc (by decide)) dX12_wordsOf_78 (fun H locs hP hD hS => ?_)
    have hP : va_P D classes [(a_said, .inl (cs 0, 123, .inl a_said_c)), (a, .inr (12, [.ref a_tape, .int a__taped, .int a__rules, .ref a_sign, .ref a_length, .ref a_clause, .ref a_clauses, .ref a_read, .int a__next, .int a__wrong, .int a__number, .int a__text, .int a__made, .int a__deep, .int a__lines, .ref a_open, .int a__opened, .ref a_stack, .int a__top, .ref a_word, .ref a_said, .int a__x, .ref a_worth, .ref a_mate, .ref a_wasSaid, .int a__undone, .int a__boughtNow, .ref a_wayBy, .ref a_wayThen, .int a__walkMost, .int a__walkGoing, .int a__walkSet, .ref a_kept, .long a__drawX, .ref a_images, .ref a_imageX, .ref a_isMade])), (a_word, .inl (cs 3, 13, .inr (.inl (vp_updL f22 (Int32.toNatClampNeg (4 : Int32)) v26.toInt64))))] H := hP
    have hD : va_D A [(a_said, .inl (cs 0, 123, .inl a_said_c)), (a, .inr (12, [.ref a_tape, .int a__taped, .int a__rules, .ref a_sign, .ref a_length, .ref a_clause, .ref a_clauses, .ref a_read, .int a__next, .int a__wrong, .int a__number, .int a__text, .int a__made, .int a__deep, .int a__lines, .ref a_open, .int a__opened, .ref a_stack, .int a__top, .ref a_word, .ref a_said, .int a__x, .ref a_worth, .ref a_mate, .ref a_wasSaid, .int a__undone, .int a__boughtNow, .ref a_wayBy, .ref a_wayThen, .int a__walkMost, .int a__walkGoing, .int a__walkSet, .ref a_kept, .long a__drawX, .ref a_images, .ref a_imageX, .ref a_isMade])), (a_word, .inl (cs 3, 13, .inr (.inl (vp_updL f22 (Int32.toNatClampNeg (4 : Int32)) v26.toInt64))))] := hD
    generalize vp_updL f22 (Int32.toNatClampNeg (4 : Int32)) v26.toInt64 = f27 at hP hD
    refine lv_aload_n hx hb dX12_wordsOf_79 rfl (lv_at hl 0 rfl) ?_
    refine va_get (D := D) (ci := 12) (v := .ref a_word) (C := RX12) (T := TX12) (N := 37) hx hb hT i_X12 hown hK hP 1 rfl rfl 19 (by decide) (hT _ q_184) (fun _ h9 => h9) rfl dX12_wordsOf_80 ?_
    refine lv_iconst (v := 5) hx hb dX12_wordsOf_83 (by decide) ?_
    refine lv_aload_n hx hb dX12_wordsOf_84 rfl (lv_at hl 0 rfl) ?_
    refine lv_iload_n hx hb dX12_wordsOf_85 rfl (lv_at hl 1 rfl) ?_
    refine va_calli (va_runV (As := [.int p0]) (rest := [.int 5, .ref a_word]) ⟨hx, hb, hml, hown, hT⟩ (c_X12_hasOf l D cs kK kV a p0 a_said a_said_c a_tape a__taped a__rules a_sign a_length a_clause a_clauses a_read a__next a__wrong a__number a__text a__made a__deep a__lines a_open a__opened a_stack a__top a_word a__x a_worth a_mate a_wasSaid a__undone a__boughtNow a_wayBy a_wayThen a__walkMost a__walkGoing a__walkSet a_kept a__drawX a_images a_imageX a_isMade h_a__taped h_a__rules h_a__next h_a__text h_a__made h_a__lines h_a__opened h_a__top h_a__x h_a__undone hf0) (cwV 1 hT (hz_gV q_1160 q_1161 q_1162 q_701 q_1163) rfl rfl rfl (by decide +kernel) ⟨(Nat.le_of_ble_eq_true rfl), (Nat.le_of_ble_eq_true rfl)⟩) ⟨hz_P.blind, va_recv hK hP (ci := 12) (q0 := 1) rfl rfl, hz_P.mk (hP.sub (ws' := [(a_said, .inl (cs 0, 123, .inl a_said_c)), (a, .inr (12, [.ref a_tape, .int a__taped, .int a__rules, .ref a_sign, .ref a_length, .ref a_clause, .ref a_clauses, .ref a_read, .int a__next, .int a__wrong, .int a__number, .int a__text, .int a__made, .int a__deep, .int a__lines, .ref a_open, .int a__opened, .ref a_stack, .int a__top, .ref a_word, .ref a_said, .int a__x, .ref a_worth, .ref a_mate, .ref a_wasSaid, .int a__undone, .int a__boughtNow, .ref a_wayBy, .ref a_wayThen, .int a__walkMost, .int a__walkGoing, .int a__walkSet, .ref a_kept, .long a__drawX, .ref a_images, .ref a_imageX, .ref a_isMade]))]) [0,1] rfl) hE hS⟩ rfl rfl hl.1 rfl (lv_room (Nat.le_of_ble_eq_true rfl)) dX12_wordsOf_86 ⟨(Nat.le_of_ble_eq_true rfl), (Nat.le_of_ble_eq_true rfl)⟩) hS (fun _ _ h => h.elim) (fun _ h => h.elim) (fun r28 u t H1 locs ht hvm hw hB hz1 hk1 hS => ?_)
    have hP := hz_keep hP hk1
    clear hk1 hB hz1
    generalize H1 = H at hP hS ⊢
    have hw_r28 := hw
    refine va_calli (va_runS (As := [.int r28]) (rest := [.int 5, .ref a_word]) ⟨hx, hb, hml, hown, hT⟩ (c_X12_bits l D cs kK kV r28) (va_cwS 1 hT (hz_gS q_1192 q_1193 q_701 q_1194) rfl rfl rfl (by decide +kernel) ⟨(Nat.le_of_ble_eq_true rfl), (Nat.le_of_ble_eq_true rfl)⟩) ⟨hz_P.blind, hz_P.mk (hP.sub (ws' := []) [] rfl) hE hS⟩ rfl rfl hl.1 rfl (lv_room (Nat.le_of_ble_eq_true rfl)) dX12_wordsOf_89 ⟨(Nat.le_of_ble_eq_true rfl), (Nat.le_of_ble_eq_true rfl)⟩) hS (fun _ _ h => h.elim) (fun _ h => h.elim) (fun r29 u t H1 locs ht hvm hw hB hz1 hk1 hS => ?_)
    have hP := hz_keep hP hk1
    clear hk1 hB hz1
    generalize H1 = H at hP hS ⊢
    refine lv_i2l (v := r29.toInt64) hx hb dX12_wordsOf_92 rfl ?_
    refine va_last hx hb hK hP hD hS 2 3 rfl rfl (iv_vc (by decide)) dX12_wordsOf_93 (fun H locs hP hD hS => ?_)
    have hP : va_P D classes [(a_said, .inl (cs 0, 123, .inl a_said_c)), (a, .inr (12, [.ref a_tape, .int a__taped, .int a__rules, .ref a_sign, .ref a_length, .ref a_clause, .ref a_clauses, .ref a_read, .int a__next, .int a__wrong, .int a__number, .int a__text, .int a__made, .int a__deep, .int a__lines, .ref a_open, .int a__opened, .ref a_stack, .int a__top, .ref a_word, .ref a_said, .int a__x, .ref a_worth, .ref a_mate, .ref a_wasSaid, .int a__undone, .int a__boughtNow, .ref a_wayBy, .ref a_wayThen, .int a__walkMost, .int a__walkGoing, .int a__walkSet, .ref a_kept, .long a__drawX, .ref a_images, .ref a_imageX, .ref a_isMade])), (a_word, .inl (cs 3, 13, .inr (.inl (vp_updL f27 (Int32.toNatClampNeg (5 : Int32)) r29.toInt64))))] H := hP
    have hD : va_D A [(a_said, .inl (cs 0, 123, .inl a_said_c)), (a, .inr (12, [.ref a_tape, .int a__taped, .int a__rules, .ref a_sign, .ref a_length, .ref a_clause, .ref a_clauses, .ref a_read, .int a__next, .int a__wrong, .int a__number, .int a__text, .int a__made, .int a__deep, .int a__lines, .ref a_open, .int a__opened, .ref a_stack, .int a__top, .ref a_word, .ref a_said, .int a__x, .ref a_worth, .ref a_mate, .ref a_wasSaid, .int a__undone, .int a__boughtNow, .ref a_wayBy, .ref a_wayThen, .int a__walkMost, .int a__walkGoing, .int a__walkSet, .ref a_kept, .long a__drawX, .ref a_images, .ref a_imageX, .ref a_isMade])), (a_word, .inl (cs 3, 13, .inr (.inl (vp_updL f27 (Int32.toNatClampNeg (5 : Int32)) r29.toInt64))))] := hD
    generalize vp_updL f27 (Int32.toNatClampNeg (5 : Int32)) r29.toInt64 = f30 at hP hD
    refine lv_bipush (v := 6) hx hb dX12_wordsOf_94 (by decide) ?_
    refine lv_istore_n (lv' := [(2, .int 6), (0, .ref a), (1, .int p0)]) hx hb dX12_wordsOf_96 rfl hl (by decide) rfl (fun ls hl => ?_)
    exact K97 _ ((6 : Int32)) f30 (Nat.le_refl _) (iv_c (by decide)) H locs (hP.sub (ws' := [(a_said, .inl (cs 0, 123, .inl a_said_c)), (a, .inr (12, [.ref a_tape, .int a__taped, .int a__rules, .ref a_sign, .ref a_length, .ref a_clause, .ref a_clauses, .ref a_read, .int a__next, .int a__wrong, .int a__number, .int a__text, .int a__made, .int a__deep, .int a__lines, .ref a_open, .int a__opened, .ref a_stack, .int a__top, .ref a_word, .ref a_said, .int a__x, .ref a_worth, .ref a_mate, .ref a_wasSaid, .int a__undone, .int a__boughtNow, .ref a_wayBy, .ref a_wayThen, .int a__walkMost, .int a__walkGoing, .int a__walkSet, .ref a_kept, .long a__drawX, .ref a_images, .ref a_imageX, .ref a_isMade])), (a_word, .inl (cs 3, 13, .inr (.inl f30)))]) [0, 1, 2] rfl) (hD.sub (ws' := [(a_said, .inl (cs 0, 123, .inl a_said_c)), (a, .inr (12, [.ref a_tape, .int a__taped, .int a__rules, .ref a_sign, .ref a_length, .ref a_clause, .ref a_clauses, .ref a_read, .int a__next, .int a__wrong, .int a__number, .int a__text, .int a__made, .int a__deep, .int a__lines, .ref a_open, .int a__opened, .ref a_stack, .int a__top, .ref a_word, .ref a_said, .int a__x, .ref a_worth, .ref a_mate, .ref a_wasSaid, .int a__undone, .int a__boughtNow, .ref a_wayBy, .ref a_wayThen, .int a__walkMost, .int a__walkGoing, .int a__walkSet, .ref a_kept, .long a__drawX, .ref a_images, .ref a_imageX, .ref a_isMade])), (a_word, .inl (cs 3, 13, .inr (.inl f30)))]) [0, 1, 2] (by decide) rfl) hS ls (lv_sub hl [0, 1, 2] rfl)
  · refine lv_if_eq (tgt := 63) hx hb dX12_wordsOf_56 (by decide) (fun z => absurd z (by decide)) (fun _ => ?_)
    refine lv_lconst (v := 0) hx hb dX12_wordsOf_59 (by decide) ?_
    refine lv_goto (tgt := 78) hx hb dX12_wordsOf_60 (by decide) ?_
    refine va_last hx hb hK hP hD hS 2 3 rfl rfl (iv_vc (by decide)) dX12_wordsOf_78 (fun H locs hP hD hS => ?_)
    have hP : va_P D classes [(a_said, .inl (cs 0, 123, .inl a_said_c)), (a, .inr (12, [.ref a_tape, .int a__taped, .int a__rules, .ref a_sign, .ref a_length, .ref a_clause, .ref a_clauses, .ref a_read, .int a__next, .int a__wrong, .int a__number, .int a__text, .int a__made, .int a__deep, .int a__lines, .ref a_open, .int a__opened, .ref a_stack, .int a__top, .ref a_word, .ref a_said, .int a__x, .ref a_worth, .ref a_mate, .ref a_wasSaid, .int a__undone, .int a__boughtNow, .ref a_wayBy, .ref a_wayThen, .int a__walkMost, .int a__walkGoing, .int a__walkSet, .ref a_kept, .long a__drawX, .ref a_images, .ref a_imageX, .ref a_isMade])), (a_word, .inl (cs 3, 13, .inr (.inl (vp_updL f22 (Int32.toNatClampNeg (4 : Int32)) (0 : Int64)))))] H := hP
    have hD : va_D A [(a_said, .inl (cs 0, 123, .inl a_said_c)), (a, .inr (12, [.ref a_tape, .int a__taped, .int a__rules, .ref a_sign, .ref a_length, .ref a_clause, .ref a_clauses, .ref a_read, .int a__next, .int a__wrong, .int a__number, .int a__text, .int a__made, .int a__deep, .int a__lines, .ref a_open, .int a__opened, .ref a_stack, .int a__top, .ref a_word, .ref a_said, .int a__x, .ref a_worth, .ref a_mate, .ref a_wasSaid, .int a__undone, .int a__boughtNow, .ref a_wayBy, .ref a_wayThen, .int a__walkMost, .int a__walkGoing, .int a__walkSet, .ref a_kept, .long a__drawX, .ref a_images, .ref a_imageX, .ref a_isMade])), (a_word, .inl (cs 3, 13, .inr (.inl (vp_updL f22 (Int32.toNatClampNeg (4 : Int32)) (0 : Int64)))))] := hD
    generalize vp_updL f22 (Int32.toNatClampNeg (4 : Int32)) (0 : Int64) = f31 at hP hD
    refine lv_aload_n hx hb dX12_wordsOf_79 rfl (lv_at hl 0 rfl) ?_
    refine va_get (D := D) (ci := 12) (v := .ref a_word) (C := RX12) (T := TX12) (N := 37) hx hb hT i_X12 hown hK hP 1 rfl rfl 19 (by decide) (hT _ q_184) (fun _ h9 => h9) rfl dX12_wordsOf_80 ?_
    refine lv_iconst (v := 5) hx hb dX12_wordsOf_83 (by decide) ?_
    refine lv_aload_n hx hb dX12_wordsOf_84 rfl (lv_at hl 0 rfl) ?_
    refine lv_iload_n hx hb dX12_wordsOf_85 rfl (lv_at hl 1 rfl) ?_
    refine va_calli (va_runV (As := [.int p0]) (rest := [.int 5, .ref a_word]) ⟨hx, hb, hml, hown, hT⟩ (c_X12_hasOf l D cs kK kV a p0 a_said a_said_c a_tape a__taped a__rules a_sign a_length a_clause a_clauses a_read a__next a__wrong a__number a__text a__made a__deep a__lines a_open a__opened a_stack a__top a_word a__x a_worth a_mate a_wasSaid a__undone a__boughtNow a_wayBy a_wayThen a__walkMost a__walkGoing a__walkSet a_kept a__drawX a_images a_imageX a_isMade h_a__taped h_a__rules h_a__next h_a__text h_a__made h_a__lines h_a__opened h_a__top h_a__x h_a__undone hf0) (cwV 1 hT (hz_gV q_1160 q_1161 q_1162 q_701 q_1163) rfl rfl rfl (by decide +kernel) ⟨(Nat.le_of_ble_eq_true rfl), (Nat.le_of_ble_eq_true rfl)⟩) ⟨hz_P.blind, va_recv hK hP (ci := 12) (q0 := 1) rfl rfl, hz_P.mk (hP.sub (ws' := [(a_said, .inl (cs 0, 123, .inl a_said_c)), (a, .inr (12, [.ref a_tape, .int a__taped, .int a__rules, .ref a_sign, .ref a_length, .ref a_clause, .ref a_clauses, .ref a_read, .int a__next, .int a__wrong, .int a__number, .int a__text, .int a__made, .int a__deep, .int a__lines, .ref a_open, .int a__opened, .ref a_stack, .int a__top, .ref a_word, .ref a_said, .int a__x, .ref a_worth, .ref a_mate, .ref a_wasSaid, .int a__undone, .int a__boughtNow, .ref a_wayBy, .ref a_wayThen, .int a__walkMost, .int a__walkGoing, .int a__walkSet, .ref a_kept, .long a__drawX, .ref a_images, .ref a_imageX, .ref a_isMade]))]) [0,1] rfl) hE hS⟩ rfl rfl hl.1 rfl (lv_room (Nat.le_of_ble_eq_true rfl)) dX12_wordsOf_86 ⟨(Nat.le_of_ble_eq_true rfl), (Nat.le_of_ble_eq_true rfl)⟩) hS (fun _ _ h => h.elim) (fun _ h => h.elim) (fun r32 u t H1 locs ht hvm hw hB hz1 hk1 hS => ?_)
    have hP := hz_keep hP hk1
    clear hk1 hB hz1
    generalize H1 = H at hP hS ⊢
    have hw_r32 := hw
    refine va_calli (va_runS (As := [.int r32]) (rest := [.int 5, .ref a_word]) ⟨hx, hb, hml, hown, hT⟩ (c_X12_bits l D cs kK kV r32) (va_cwS 1 hT (hz_gS q_1192 q_1193 q_701 q_1194) rfl rfl rfl (by decide +kernel) ⟨(Nat.le_of_ble_eq_true rfl), (Nat.le_of_ble_eq_true rfl)⟩) ⟨hz_P.blind, hz_P.mk (hP.sub (ws' := []) [] rfl) hE hS⟩ rfl rfl hl.1 rfl (lv_room (Nat.le_of_ble_eq_true rfl)) dX12_wordsOf_89 ⟨(Nat.le_of_ble_eq_true rfl), (Nat.le_of_ble_eq_true rfl)⟩) hS (fun _ _ h => h.elim) (fun _ h => h.elim) (fun r33 u t H1 locs ht hvm hw hB hz1 hk1 hS => ?_)
    have hP := hz_keep hP hk1
    clear hk1 hB hz1
    generalize H1 = H at hP hS ⊢
    refine lv_i2l (v := r33.toInt64) hx hb dX12_wordsOf_92 rfl ?_
    refine va_last hx hb hK hP hD hS 2 3 rfl rfl (iv_vc (by decide)) dX12_wordsOf_93 (fun H locs hP hD hS => ?_)
    have hP : va_P D classes [(a_said, .inl (cs 0, 123, .inl a_said_c)), (a, .inr (12, [.ref a_tape, .int a__taped, .int a__rules, .ref a_sign, .ref a_length, .ref a_clause, .ref a_clauses, .ref a_read, .int a__next, .int a__wrong, .int a__number, .int a__text, .int a__made, .int a__deep, .int a__lines, .ref a_open, .int a__opened, .ref a_stack, .int a__top, .ref a_word, .ref a_said, .int a__x, .ref a_worth, .ref a_mate, .ref a_wasSaid, .int a__undone, .int a__boughtNow, .ref a_wayBy, .ref a_wayThen, .int a__walkMost, .int a__walkGoing, .int a__walkSet, .ref a_kept, .long a__drawX, .ref a_images, .ref a_imageX, .ref a_isMade])), (a_word, .inl (cs 3, 13, .inr (.inl (vp_updL f31 (Int32.toNatClampNeg (5 : Int32)) r33.toInt64))))] H := hP
    have hD : va_D A [(a_said, .inl (cs 0, 123, .inl a_said_c)), (a, .inr (12, [.ref a_tape, .int a__taped, .int a__rules, .ref a_sign, .ref a_length, .ref a_clause, .ref a_clauses, .ref a_read, .int a__next, .int a__wrong, .int a__number, .int a__text, .int a__made, .int a__deep, .int a__lines, .ref a_open, .int a__opened, .ref a_stack, .int a__top, .ref a_word, .ref a_said, .int a__x, .ref a_worth, .ref a_mate, .ref a_wasSaid, .int a__undone, .int a__boughtNow, .ref a_wayBy, .ref a_wayThen, .int a__walkMost, .int a__walkGoing, .int a__walkSet, .ref a_kept, .long a__drawX, .ref a_images, .ref a_imageX, .ref a_isMade])), (a_word, .inl (cs 3, 13, .inr (.inl (vp_updL f31 (Int32.toNatClampNeg (5 : Int32)) r33.toInt64))))] := hD
    generalize vp_updL f31 (Int32.toNatClampNeg (5 : Int32)) r33.toInt64 = f34 at hP hD
    refine lv_bipush (v := 6) hx hb dX12_wordsOf_94 (by decide) ?_
    refine lv_istore_n (lv' := [(2, .int 6), (0, .ref a), (1, .int p0)]) hx hb dX12_wordsOf_96 rfl hl (by decide) rfl (fun ls hl => ?_)
    exact K97 _ ((6 : Int32)) f34 (Nat.le_refl _) (iv_c (by decide)) H locs (hP.sub (ws' := [(a_said, .inl (cs 0, 123, .inl a_said_c)), (a, .inr (12, [.ref a_tape, .int a__taped, .int a__rules, .ref a_sign, .ref a_length, .ref a_clause, .ref a_clauses, .ref a_read, .int a__next, .int a__wrong, .int a__number, .int a__text, .int a__made, .int a__deep, .int a__lines, .ref a_open, .int a__opened, .ref a_stack, .int a__top, .ref a_word, .ref a_said, .int a__x, .ref a_worth, .ref a_mate, .ref a_wasSaid, .int a__undone, .int a__boughtNow, .ref a_wayBy, .ref a_wayThen, .int a__walkMost, .int a__walkGoing, .int a__walkSet, .ref a_kept, .long a__drawX, .ref a_images, .ref a_imageX, .ref a_isMade])), (a_word, .inl (cs 3, 13, .inr (.inl f34)))]) [0, 1, 2] rfl) (hD.sub (ws' := [(a_said, .inl (cs 0, 123, .inl a_said_c)), (a, .inr (12, [.ref a_tape, .int a__taped, .int a__rules, .ref a_sign, .ref a_length, .ref a_clause, .ref a_clauses, .ref a_read, .int a__next, .int a__wrong, .int a__number, .int a__text, .int a__made, .int a__deep, .int a__lines, .ref a_open, .int a__opened, .ref a_stack, .int a__top, .ref a_word, .ref a_said, .int a__x, .ref a_worth, .ref a_mate, .ref a_wasSaid, .int a__undone, .int a__boughtNow, .ref a_wayBy, .ref a_wayThen, .int a__walkMost, .int a__walkGoing, .int a__walkSet, .ref a_kept, .long a__drawX, .ref a_images, .ref a_imageX, .ref a_isMade])), (a_word, .inl (cs 3, 13, .inr (.inl f34)))]) [0, 1, 2] (by decide) rfl) hS ls (lv_sub hl [0, 1, 2] rfl)
theorem dX12_fitting_0 : decode cX12_fitting 0 = .ok (.iconst 0, 1) := by decide +kernel
theorem dX12_fitting_1 : decode cX12_fitting 1 = .ok (.istore 4, 2) := by decide +kernel
theorem dX12_fitting_3 : decode cX12_fitting 3 = .ok (.iconst 0, 1) := by decide +kernel
theorem dX12_fitting_4 : decode cX12_fitting 4 = .ok (.istore 5, 2) := by decide +kernel
theorem dX12_fitting_6 : decode cX12_fitting 6 = .ok (.iload 5, 2) := by decide +kernel
theorem dX12_fitting_8 : decode cX12_fitting 8 = .ok (.aload_n 0, 1) := by decide +kernel
theorem dX12_fitting_9 : decode cX12_fitting 9 = .ok (.getfield 39, 3) := by decide +kernel
theorem dX12_fitting_12 : decode cX12_fitting 12 = .ok (.iconst 1, 1) := by decide +kernel
theorem dX12_fitting_13 : decode cX12_fitting 13 = .ok (.iaload, 1) := by decide +kernel
theorem dX12_fitting_14 : decode cX12_fitting 14 = .ok (.if_icmp .ge 45, 3) := by decide +kernel
theorem dX12_fitting_17 : decode cX12_fitting 17 = .ok (.iload 4, 2) := by decide +kernel
theorem dX12_fitting_19 : decode cX12_fitting 19 = .ok (.iload 5, 2) := by decide +kernel
theorem dX12_fitting_21 : decode cX12_fitting 21 = .ok (.iload_n 2, 1) := by decide +kernel
theorem dX12_fitting_22 : decode cX12_fitting 22 = .ok (.if_icmp .eq 27, 3) := by decide +kernel
theorem dX12_fitting_25 : decode cX12_fitting 25 = .ok (.iload_n 1, 1) := by decide +kernel
theorem dX12_fitting_26 : decode cX12_fitting 26 = .ok (.iload 5, 2) := by decide +kernel
theorem dX12_fitting_28 : decode cX12_fitting 28 = .ok (.invokestatic 215, 3) := by decide +kernel
theorem dX12_fitting_31 : decode cX12_fitting 31 = .ok (.ifCond .eq 18, 3) := by decide +kernel
theorem dX12_fitting_34 : decode cX12_fitting 34 = .ok (.aload_n 0, 1) := by decide +kernel
theorem dX12_fitting_35 : decode cX12_fitting 35 = .ok (.iload 5, 2) := by decide +kernel
theorem dX12_fitting_37 : decode cX12_fitting 37 = .ok (.iload_n 2, 1) := by decide +kernel
theorem dX12_fitting_38 : decode cX12_fitting 38 = .ok (.invokevirtual 326, 3) := by decide +kernel
theorem dX12_fitting_41 : decode cX12_fitting 41 = .ok (.iload_n 3, 1) := by decide +kernel
theorem dX12_fitting_42 : decode cX12_fitting 42 = .ok (.if_icmp .ne 7, 3) := by decide +kernel
theorem dX12_fitting_45 : decode cX12_fitting 45 = .ok (.iconst 1, 1) := by decide +kernel
theorem dX12_fitting_46 : decode cX12_fitting 46 = .ok (.goto 4, 3) := by decide +kernel
theorem dX12_fitting_49 : decode cX12_fitting 49 = .ok (.iconst 0, 1) := by decide +kernel
theorem dX12_fitting_50 : decode cX12_fitting 50 = .ok (.iadd, 1) := by decide +kernel
theorem dX12_fitting_51 : decode cX12_fitting 51 = .ok (.istore 4, 2) := by decide +kernel
theorem dX12_fitting_53 : decode cX12_fitting 53 = .ok (.iinc 5 1, 3) := by decide +kernel
theorem dX12_fitting_56 : decode cX12_fitting 56 = .ok (.goto (-50), 3) := by decide +kernel
theorem dX12_fitting_59 : decode cX12_fitting 59 = .ok (.iload 4, 2) := by decide +kernel
theorem dX12_fitting_61 : decode cX12_fitting 61 = .ok (.ireturn, 1) := by decide +kernel
set_option maxHeartbeats 4000000 in
set_option maxRecDepth 100000 in
theorem c_X12_fitting (l : Launch) (D : va_G) (cs : Nat → ClassId) (kK kV : Nat → Nat) (a : Nat) (p0 : Int32) (p1 : Int32) (p2 : Int32) (a_said : Nat) (a_said_c : Nat → Int32) (a_tape : Nat) (a__taped : Int32) (a__rules : Int32) (a_sign : Nat) (a_length : Nat) (a_clause : Nat) (a_clauses : Nat) (a_read : Nat) (a__next : Int32) (a__wrong : Int32) (a__number : Int32) (a__text : Int32) (a__made : Int32) (a__deep : Int32) (a__lines : Int32) (a_open : Nat) (a__opened : Int32) (a_stack : Nat) (a__top : Int32) (a_word : Nat) (a__x : Int32) (a_worth : Nat) (a_mate : Nat) (a_wasSaid : Nat) (a__undone : Int32) (a__boughtNow : Int32) (a_wayBy : Nat) (a_wayThen : Nat) (a__walkMost : Int32) (a__walkGoing : Int32) (a__walkSet : Int32) (a_kept : Nat) (a__drawX : Int64) (a_images : Nat) (a_imageX : Nat) (a_isMade : Nat) (h_p1 : IV 0 11 p1) (h_a__taped : IV 0 400 a__taped) (h_a__rules : IV 0 6 a__rules) (h_a__next : IV 0 400 a__next) (h_a__text : IV 0 6 a__text) (h_a__made : IV 0 60 a__made) (h_a__lines : IV 0 40 a__lines) (h_a__opened : IV 0 400 a__opened) (h_a__top : IV 0 64 a__top) (h_a__x : IV 0 2147483647 a__x) (h_a__undone : IV 0 20 a__undone) (hf0 : BS a_said_c 200) : Met l yX12_fitting (hz_w yX12_fitting cX12_fitting 6 (some .int)) ({ frames := 3, cells := 0, slots := 0, locals := 67 }) (va_Pc [.ref a, .int p0, .int p1, .int p2] (hz_P D cs kK kV [(a_said, .inl (cs 0, 123, .inl a_said_c)), (a, .inr (12, [.ref a_tape, .int a__taped, .int a__rules, .ref a_sign, .ref a_length, .ref a_clause, .ref a_clauses, .ref a_read, .int a__next, .int a__wrong, .int a__number, .int a__text, .int a__made, .int a__deep, .int a__lines, .ref a_open, .int a__opened, .ref a_stack, .int a__top, .ref a_word, .ref a_said, .int a__x, .ref a_worth, .ref a_mate, .ref a_wasSaid, .int a__undone, .int a__boughtNow, .ref a_wayBy, .ref a_wayThen, .int a__walkMost, .int a__walkGoing, .int a__walkSet, .ref a_kept, .long a__drawX, .ref a_images, .ref a_imageX, .ref a_isMade]))])) (va_Qi (fun (r : Int32) (_ : Unit) => True) (fun _ t => True) (fun _ => False)) 0 0 (fun _ => False) := by
  refine Met.ofW (cc := cX12_fitting) (maxL := 6) (ret := (some .int)) (by decide) rfl ?_
  intro p e s m args below meth c s₁ B hml hv
  obtain ⟨rfl, hP, hE⟩ := hv
  have hx := B.exec
  have hb := B.bytes
  have hr := B.returns
  have hT : ∀ w ∈ TB, w.before _ s = true := fun w h => atoms_spec (ws := hz_w yX12_fitting cX12_fitting 6 (some .int)) B.pre w (List.mem_cons_of_mem _ h)
  have hown : s.vm.findClass RX12 = some m.cls := findClass_of_methodNamed B.named
  have hlocks := B.notSynchronized
  clear B
  have hS : va_S (fun _ => False) s.heap s.heap [] := va_S.rf
  have hK := hE.1
  have hl := lv_entry ([.ref a, .int p0, .int p1, .int p2]) (n := 6) (Nat.le_of_ble_eq_true rfl)
  rw [lg_entry_eq]
  generalize (lg_sl ([.ref a, .int p0, .int p1, .int p2]) ++ List.replicate (6 - (lg_sl ([.ref a, .int p0, .int p1, .int p2])).length) Slot.unset).toArray = ls at hl ⊢
  have hl : lv_has ls 6 [(0, .ref a), (1, .int p0), (2, .int p1), (3, .int p2)] := hl
  obtain ⟨H, eH⟩ : ∃ z, z = s.heap := ⟨_, rfl⟩
  have hP : va_P D classes [(a_said, .inl (cs 0, 123, .inl a_said_c)), (a, .inr (12, [.ref a_tape, .int a__taped, .int a__rules, .ref a_sign, .ref a_length, .ref a_clause, .ref a_clauses, .ref a_read, .int a__next, .int a__wrong, .int a__number, .int a__text, .int a__made, .int a__deep, .int a__lines, .ref a_open, .int a__opened, .ref a_stack, .int a__top, .ref a_word, .ref a_said, .int a__x, .ref a_worth, .ref a_mate, .ref a_wasSaid, .int a__undone, .int a__boughtNow, .ref a_wayBy, .ref a_wayThen, .int a__walkMost, .int a__walkGoing, .int a__walkSet, .ref a_kept, .long a__drawX, .ref a_images, .ref a_imageX, .ref a_isMade]))] H := by rw [eH]; exact hP
  have hS : va_S (fun _ => False) s.heap H [] := by rw [eH]; exact hS
  rw [← eH]
  clear eH
  obtain ⟨locs, el⟩ : ∃ z : List Loc, z = [] := ⟨_, rfl⟩
  rw [← el] at hS ⊢
  clear el
  have z0 : (0 : Int32).toInt = 0 := by decide
  have z1 : (1 : Int32).toInt = 1 := by decide
  have zm1 : (-1 : Int32).toInt = -1 := by decide
  have i_a__lines : 0 ≤ a__lines.toInt ∧ a__lines.toInt ≤ 40 := h_a__lines
  have i_a__made : 0 ≤ a__made.toInt ∧ a__made.toInt ≤ 60 := h_a__made
  have i_a__next : 0 ≤ a__next.toInt ∧ a__next.toInt ≤ 400 := h_a__next
  have i_a__opened : 0 ≤ a__opened.toInt ∧ a__opened.toInt ≤ 400 := h_a__opened
  have i_a__rules : 0 ≤ a__rules.toInt ∧ a__rules.toInt ≤ 6 := h_a__rules
  have i_a__taped : 0 ≤ a__taped.toInt ∧ a__taped.toInt ≤ 400 := h_a__taped
  have i_a__text : 0 ≤ a__text.toInt ∧ a__text.toInt ≤ 6 := h_a__text
  have i_a__top : 0 ≤ a__top.toInt ∧ a__top.toInt ≤ 64 := h_a__top
  have i_a__undone : 0 ≤ a__undone.toInt ∧ a__undone.toInt ≤ 20 := h_a__undone
  have i_a__x : 0 ≤ a__x.toInt ∧ a__x.toInt ≤ 2147483647 := h_a__x
  have i_p1 : 0 ≤ p1.toInt ∧ p1.toInt ≤ 11 := h_p1
  have K6 : ∀ (n : Nat) (k6_L_5 : Int32) (k6_L_4 : Int32), (12 - k6_L_5.toInt + 1).toNat ≤ n → IV 0 12 k6_L_5 → ∀ (H : Heap) (locs : List Loc), va_P D classes [(a_said, .inl (cs 0, 123, .inl a_said_c)), (a, .inr (12, [.ref a_tape, .int a__taped, .int a__rules, .ref a_sign, .ref a_length, .ref a_clause, .ref a_clauses, .ref a_read, .int a__next, .int a__wrong, .int a__number, .int a__text, .int a__made, .int a__deep, .int a__lines, .ref a_open, .int a__opened, .ref a_stack, .int a__top, .ref a_word, .ref a_said, .int a__x, .ref a_worth, .ref a_mate, .ref a_wasSaid, .int a__undone, .int a__boughtNow, .ref a_wayBy, .ref a_wayThen, .int a__walkMost, .int a__walkGoing, .int a__walkSet, .ref a_kept, .long a__drawX, .ref a_images, .ref a_imageX, .ref a_isMade]))] H → va_S (fun _ => False) s.heap H locs → ∀ ls : Array Slot, lv_has ls 6 [(5, .int k6_L_5), (4, .int k6_L_4), (0, .ref a), (1, .int p0), (2, .int p1), (3, .int p2)] → W p l e (headSpec (hz_w yX12_fitting cX12_fitting 6 (some .int)) ({ frames := 3, cells := 0, slots := 0, locals := 67 })).room s m [.ref a, .int p0, .int p1, .int p2].toArray below meth c H locs 0 0 (MQ below (va_Qi (fun (r : Int32) (_ : Unit) => True) (fun _ t => True) (fun _ => False)) [.ref a, .int p0, .int p1, .int p2].toArray s 0 0 (fun _ => False)) (F0 m 6 ls []) := by
    intro n
    induction n with
    | zero =>
      intro k6_L_5 k6_L_4 hn q6_10 H locs hP hS ls hl
      exact absurd hn (by unfold IV at q6_10; omega)
    | succ n ih6 =>
      intro k6_L_5 k6_L_4 hn q6_10 H locs hP hS ls hl
      have i_a__lines : 0 ≤ a__lines.toInt ∧ a__lines.toInt ≤ 40 := h_a__lines
      have i_a__made : 0 ≤ a__made.toInt ∧ a__made.toInt ≤ 60 := h_a__made
      have i_a__next : 0 ≤ a__next.toInt ∧ a__next.toInt ≤ 400 := h_a__next
      have i_a__opened : 0 ≤ a__opened.toInt ∧ a__opened.toInt ≤ 400 := h_a__opened
      have i_a__rules : 0 ≤ a__rules.toInt ∧ a__rules.toInt ≤ 6 := h_a__rules
      have i_a__taped : 0 ≤ a__taped.toInt ∧ a__taped.toInt ≤ 400 := h_a__taped
      have i_a__text : 0 ≤ a__text.toInt ∧ a__text.toInt ≤ 6 := h_a__text
      have i_a__top : 0 ≤ a__top.toInt ∧ a__top.toInt ≤ 64 := h_a__top
      have i_a__undone : 0 ≤ a__undone.toInt ∧ a__undone.toInt ≤ 20 := h_a__undone
      have i_a__x : 0 ≤ a__x.toInt ∧ a__x.toInt ≤ 2147483647 := h_a__x
      have i_k6_L_5 : 0 ≤ k6_L_5.toInt ∧ k6_L_5.toInt ≤ 12 := q6_10
      have i_p1 : 0 ≤ p1.toInt ∧ p1.toInt ≤ 11 := h_p1
      refine lv_iload hx hb dX12_fitting_6 (lv_at hl 0 rfl) ?_
      refine lv_aload_n hx hb dX12_fitting_8 rfl (lv_at hl 2 rfl) ?_
      refine va_get (D := D) (ci := 12) (v := .ref a_said) (C := RX12) (T := TX12) (N := 37) hx hb hT i_X12 hown hK hP 1 rfl rfl 20 (by decide) (hT _ q_185) (fun _ h9 => h9) rfl dX12_fitting_9 ?_
      refine lv_iconst (v := 1) hx hb dX12_fitting_12 (by decide) ?_
      refine va_iald hx hb hK hP 0 0 rfl rfl (iv_vc (by decide)) dX12_fitting_13 ?_
      refine lv_topi (fun v1 ev1 => ?_)
      have h2 : IV 0 12 v1 := (by rw [ev1]; exact bs_i1 hf0)
      have ii3 : 0 ≤ v1.toInt ∧ v1.toInt ≤ 12 := h2
      have lv1 : v1.toInt = (a_said_c 1).toInt := by rw [ev1]; rfl
      refine lv_icmp_ge (tgt := 59) hx hb dX12_fitting_14 (by decide) (fun c4 => ?_) (fun c4 => ?_)
      · have t5 : k6_L_5.toInt ≥ v1.toInt := lin_ge c4 rfl rfl
        refine lv_iload hx hb dX12_fitting_59 (lv_at hl 1 rfl) ?_
        exact W.iret (v := k6_L_4) hx hb hr (fun t ht hW => ⟨⟨k6_L_4, (), rfl, trivial, trivial⟩, hS.F ht⟩) hS.2.2 dX12_fitting_61
      · have t6 : k6_L_5.toInt < v1.toInt := lin_geN c4 rfl rfl
        have h7 : IV 0 11 k6_L_5 := iv_lt1 (Int32.not_le.mp c4) q6_10 h2 (by decide)
        have ii8 : 0 ≤ k6_L_5.toInt ∧ k6_L_5.toInt ≤ 11 := h7
        have h9 : IV 1 12 v1 := iv_lt2 (Int32.not_le.mp c4) q6_10 h2 (by decide)
        have ii10 : 1 ≤ v1.toInt ∧ v1.toInt ≤ 12 := h9
        refine lv_iload hx hb dX12_fitting_17 (lv_at hl 1 rfl) ?_
        refine lv_iload hx hb dX12_fitting_19 (lv_at hl 0 rfl) ?_
        refine lv_iload_n hx hb dX12_fitting_21 rfl (lv_at hl 4 rfl) ?_
        refine lv_icmp_eq (tgt := 49) hx hb dX12_fitting_22 (by decide) (fun c11 => ?_) (fun c11 => ?_)
        · have t12 : k6_L_5.toInt = p1.toInt := lin_eq c11 rfl rfl
          refine lv_iconst (v := 0) hx hb dX12_fitting_49 (by decide) ?_
          refine lv_iadd hx hb dX12_fitting_50 ?_
          refine lv_topi (fun v13 ev13 => ?_)
          refine lv_istore (lv' := [(4, .int v13), (5, .int k6_L_5), (0, .ref a), (1, .int p0), (2, .int p1), (3, .int p2)]) hx hb dX12_fitting_51 hl (by decide) rfl (fun ls hl => ?_)
          obtain ⟨v14, ev14⟩ : ∃ z : Int32, z = k6_L_5 + 1 := ⟨_, rfl⟩
          have hv14 : IV 1 12 v14 := iv_add ev14 h7 (iv_c (a := 1) (b := 1) (by decide)) (by decide) (by decide)
          have dv14 : v14.toInt = k6_L_5.toInt + 1 := iv_addE ev14 h7 (iv_c (a := 1) (b := 1) (by decide)) (by decide) (by decide) (by decide)
          refine lv_iinc (v := v14) (lv' := [(5, .int v14), (4, .int v13), (0, .ref a), (1, .int p0), (2, .int p1), (3, .int p2)]) hx hb dX12_fitting_53 hl (k := 1) rfl (by rw [ev14]; rfl) (by decide) rfl (fun ls hl => ?_)
          refine lv_goto (tgt := 6) hx hb dX12_fitting_56 (by decide) ?_
          exact ih6 v14 v13 (by have h9 := h7; unfold IV at h9; have := dv14; omega) (iv_w hv14 (by decide) (by decide)) H locs (hP.sub (ws' := [(a_said, .inl (cs 0, 123, .inl a_said_c)), (a, .inr (12, [.ref a_tape, .int a__taped, .int a__rules, .ref a_sign, .ref a_length, .ref a_clause, .ref a_clauses, .ref a_read, .int a__next, .int a__wrong, .int a__number, .int a__text, .int a__made, .int a__deep, .int a__lines, .ref a_open, .int a__opened, .ref a_stack, .int a__top, .ref a_word, .ref a_said, .int a__x, .ref a_worth, .ref a_mate, .ref a_wasSaid, .int a__undone, .int a__boughtNow, .ref a_wayBy, .ref a_wayThen, .int a__walkMost, .int a__walkGoing, .int a__walkSet, .ref a_kept, .long a__drawX, .ref a_images, .ref a_imageX, .ref a_isMade]))]) [0, 1] rfl) hS ls (lv_sub hl [0, 1, 2, 3, 4, 5] rfl)
        · have t15 : k6_L_5.toInt ≠ p1.toInt := lin_ne c11 rfl rfl
          refine lv_iload_n hx hb dX12_fitting_25 rfl (lv_at hl 3 rfl) ?_
          refine lv_iload hx hb dX12_fitting_26 (lv_at hl 0 rfl) ?_
          refine va_calli (va_runS (As := [.int p0, .int k6_L_5]) (rest := [.int k6_L_4]) ⟨hx, hb, hml, hown, hT⟩ (c_X12_isOf l D cs kK kV p0 k6_L_5) (va_cwS 2 hT (hz_gS q_1034 q_1035 q_701 q_1036) rfl rfl rfl (by decide +kernel) ⟨(Nat.le_of_ble_eq_true rfl), (Nat.le_of_ble_eq_true rfl)⟩) ⟨hz_P.blind, hz_P.mk (hP.sub (ws' := []) [] rfl) hE hS⟩ rfl rfl hl.1 rfl (lv_room (Nat.le_of_ble_eq_true rfl)) dX12_fitting_28 ⟨(Nat.le_of_ble_eq_true rfl), (Nat.le_of_ble_eq_true rfl)⟩) hS (fun _ _ h => h.elim) (fun _ h => h.elim) (fun r16 u t H1 locs ht hvm hw hB hz1 hk1 hS => ?_)
          have hP := hz_keep hP hk1
          clear hk1 hB hz1
          generalize H1 = H at hP hS ⊢
          rcases hw with ⟨rfl, x17⟩ | ⟨rfl, x18⟩
          · refine lv_if_eq (tgt := 49) hx hb dX12_fitting_31 (by decide) (fun _ => ?_) (fun z => absurd (by decide) z)
            refine lv_iconst (v := 0) hx hb dX12_fitting_49 (by decide) ?_
            refine lv_iadd hx hb dX12_fitting_50 ?_
            refine lv_topi (fun v19 ev19 => ?_)
            refine lv_istore (lv' := [(4, .int v19), (5, .int k6_L_5), (0, .ref a), (1, .int p0), (2, .int p1), (3, .int p2)]) hx hb dX12_fitting_51 hl (by decide) rfl (fun ls hl => ?_)
            obtain ⟨v20, ev20⟩ : ∃ z : Int32, z = k6_L_5 + 1 := ⟨_, rfl⟩
            have hv20 : IV 1 12 v20 := iv_add ev20 h7 (iv_c (a := 1) (b := 1) (by decide)) (by decide) (by decide)
            have dv20 : v20.toInt = k6_L_5.toInt + 1 := iv_addE ev20 h7 (iv_c (a := 1) (b := 1) (by decide)) (by decide) (by decide) (by decide)
            refine lv_iinc (v := v20) (lv' := [(5, .int v20), (4, .int v19), (0, .ref a), (1, .int p0), (2, .int p1), (3, .int p2)]) hx hb dX12_fitting_53 hl (k := 1) rfl (by rw [ev20]; rfl) (by decide) rfl (fun ls hl => ?_)
            refine lv_goto (tgt := 6) hx hb dX12_fitting_56 (by decide) ?_
            exact ih6 v20 v19 (by have h9 := h7; unfold IV at h9; have := dv20; omega) (iv_w hv20 (by decide) (by decide)) H locs (hP.sub (ws' := [(a_said, .inl (cs 0, 123, .inl a_said_c)), (a, .inr (12, [.ref a_tape, .int a__taped, .int a__rules, .ref a_sign, .ref a_length, .ref a_clause, .ref a_clauses, .ref a_read, .int a__next, .int a__wrong, .int a__number, .int a__text, .int a__made, .int a__deep, .int a__lines, .ref a_open, .int a__opened, .ref a_stack, .int a__top, .ref a_word, .ref a_said, .int a__x, .ref a_worth, .ref a_mate, .ref a_wasSaid, .int a__undone, .int a__boughtNow, .ref a_wayBy, .ref a_wayThen, .int a__walkMost, .int a__walkGoing, .int a__walkSet, .ref a_kept, .long a__drawX, .ref a_images, .ref a_imageX, .ref a_isMade]))]) [0, 1] rfl) hS ls (lv_sub hl [0, 1, 2, 3, 4, 5] rfl)
          · refine lv_if_eq (tgt := 49) hx hb dX12_fitting_31 (by decide) (fun z => absurd z (by decide)) (fun _ => ?_)
            refine lv_aload_n hx hb dX12_fitting_34 rfl (lv_at hl 2 rfl) ?_
            refine lv_iload hx hb dX12_fitting_35 (lv_at hl 0 rfl) ?_
            refine lv_iload_n hx hb dX12_fitting_37 rfl (lv_at hl 4 rfl) ?_
            refine va_calli (va_runV (As := [.int k6_L_5, .int p1]) (rest := [.int k6_L_4]) ⟨hx, hb, hml, hown, hT⟩ (c_X12_fitOf l D cs kK kV a k6_L_5 p1 a_tape a__taped a__rules a_sign a_length a_clause a_clauses a_read a__next a__wrong a__number a__text a__made a__deep a__lines a_open a__opened a_stack a__top a_word a_said a__x a_worth a_mate a_wasSaid a__undone a__boughtNow a_wayBy a_wayThen a__walkMost a__walkGoing a__walkSet a_kept a__drawX a_images a_imageX a_isMade a_said_c h7 h_p1 h_a__taped h_a__rules h_a__next h_a__text h_a__made h_a__lines h_a__opened h_a__top h_a__x h_a__undone) (cwV 2 hT (hz_gV q_1136 q_1137 q_1138 q_701 q_1139) rfl rfl rfl (by decide +kernel) ⟨(Nat.le_of_ble_eq_true rfl), (Nat.le_of_ble_eq_true rfl)⟩) ⟨hz_P.blind, va_recv hK hP (ci := 12) (q0 := 1) rfl rfl, hz_P.mk (hP.sub (ws' := [(a, .inr (12, [.ref a_tape, .int a__taped, .int a__rules, .ref a_sign, .ref a_length, .ref a_clause, .ref a_clauses, .ref a_read, .int a__next, .int a__wrong, .int a__number, .int a__text, .int a__made, .int a__deep, .int a__lines, .ref a_open, .int a__opened, .ref a_stack, .int a__top, .ref a_word, .ref a_said, .int a__x, .ref a_worth, .ref a_mate, .ref a_wasSaid, .int a__undone, .int a__boughtNow, .ref a_wayBy, .ref a_wayThen, .int a__walkMost, .int a__walkGoing, .int a__walkSet, .ref a_kept, .long a__drawX, .ref a_images, .ref a_imageX, .ref a_isMade])), (a_said, .inl (cs 0, 123, .inl a_said_c))]) [1,0] rfl) hE hS⟩ rfl rfl hl.1 rfl (lv_room (Nat.le_of_ble_eq_true rfl)) dX12_fitting_38 ⟨(Nat.le_of_ble_eq_true rfl), (Nat.le_of_ble_eq_true rfl)⟩) hS (fun _ _ h => h.elim) (fun _ h => h.elim) (fun r21 u t H1 locs ht hvm hw hB hz1 hk1 hS => ?_)
            have hP := hz_keep hP hk1
            clear hk1 hB hz1
            generalize H1 = H at hP hS ⊢
            rcases hw with rfl | rfl | rfl
            · refine lv_iload_n hx hb dX12_fitting_41 rfl (lv_at hl 5 rfl) ?_
              refine lv_icmp_ne (tgt := 49) hx hb dX12_fitting_42 (by decide) (fun c22 => ?_) (fun c22 => ?_)
              · have t23 : 0 ≠ p2.toInt := lin_ne c22 (by decide) rfl
                refine lv_iconst (v := 0) hx hb dX12_fitting_49 (by decide) ?_
                refine lv_iadd hx hb dX12_fitting_50 ?_
                refine lv_topi (fun v24 ev24 => ?_)
                refine lv_istore (lv' := [(4, .int v24), (5, .int k6_L_5), (0, .ref a), (1, .int p0), (2, .int p1), (3, .int p2)]) hx hb dX12_fitting_51 hl (by decide) rfl (fun ls hl => ?_)
                obtain ⟨v25, ev25⟩ : ∃ z : Int32, z = k6_L_5 + 1 := ⟨_, rfl⟩
                have hv25 : IV 1 12 v25 := iv_add ev25 h7 (iv_c (a := 1) (b := 1) (by decide)) (by decide) (by decide)
                have dv25 : v25.toInt = k6_L_5.toInt + 1 := iv_addE ev25 h7 (iv_c (a := 1) (b := 1) (by decide)) (by decide) (by decide) (by decide)
                refine lv_iinc (v := v25) (lv' := [(5, .int v25), (4, .int v24), (0, .ref a), (1, .int p0), (2, .int p1), (3, .int p2)]) hx hb dX12_fitting_53 hl (k := 1) rfl (by rw [ev25]; rfl) (by decide) rfl (fun ls hl => ?_)
                refine lv_goto (tgt := 6) hx hb dX12_fitting_56 (by decide) ?_
                exact ih6 v25 v24 (by have h9 := h7; unfold IV at h9; have := dv25; omega) (iv_w hv25 (by decide) (by decide)) H locs (hP.sub (ws' := [(a_said, .inl (cs 0, 123, .inl a_said_c)), (a, .inr (12, [.ref a_tape, .int a__taped, .int a__rules, .ref a_sign, .ref a_length, .ref a_clause, .ref a_clauses, .ref a_read, .int a__next, .int a__wrong, .int a__number, .int a__text, .int a__made, .int a__deep, .int a__lines, .ref a_open, .int a__opened, .ref a_stack, .int a__top, .ref a_word, .ref a_said, .int a__x, .ref a_worth, .ref a_mate, .ref a_wasSaid, .int a__undone, .int a__boughtNow, .ref a_wayBy, .ref a_wayThen, .int a__walkMost, .int a__walkGoing, .int a__walkSet, .ref a_kept, .long a__drawX, .ref a_images, .ref a_imageX, .ref a_isMade]))]) [0, 1] rfl) hS ls (lv_sub hl [0, 1, 2, 3, 4, 5] rfl)
              · have t26 : 0 = p2.toInt := lin_eqN c22 (by decide) rfl
                have h27 : IV 0 0 p2 := iv_eq2 c22 (iv_c (a := 0) (b := 0) (by decide)) iv_top (by decide) (by decide)
                have ii28 : 0 ≤ p2.toInt ∧ p2.toInt ≤ 0 := h27
                refine lv_iconst (v := 1) hx hb dX12_fitting_45 (by decide) ?_
                refine lv_goto (tgt := 50) hx hb dX12_fitting_46 (by decide) ?_
                refine lv_iadd hx hb dX12_fitting_50 ?_
                refine lv_topi (fun v29 ev29 => ?_)
                refine lv_istore (lv' := [(4, .int v29), (5, .int k6_L_5), (0, .ref a), (1, .int p0), (2, .int p1), (3, .int p2)]) hx hb dX12_fitting_51 hl (by decide) rfl (fun ls hl => ?_)
                obtain ⟨v30, ev30⟩ : ∃ z : Int32, z = k6_L_5 + 1 := ⟨_, rfl⟩
                have hv30 : IV 1 12 v30 := iv_add ev30 h7 (iv_c (a := 1) (b := 1) (by decide)) (by decide) (by decide)
                have dv30 : v30.toInt = k6_L_5.toInt + 1 := iv_addE ev30 h7 (iv_c (a := 1) (b := 1) (by decide)) (by decide) (by decide) (by decide)
                refine lv_iinc (v := v30) (lv' := [(5, .int v30), (4, .int v29), (0, .ref a), (1, .int p0), (2, .int p1), (3, .int p2)]) hx hb dX12_fitting_53 hl (k := 1) rfl (by rw [ev30]; rfl) (by decide) rfl (fun ls hl => ?_)
                refine lv_goto (tgt := 6) hx hb dX12_fitting_56 (by decide) ?_
                exact ih6 v30 v29 (by have h9 := h7; unfold IV at h9; have := dv30; omega) (iv_w hv30 (by decide) (by decide)) H locs (hP.sub (ws' := [(a_said, .inl (cs 0, 123, .inl a_said_c)), (a, .inr (12, [.ref a_tape, .int a__taped, .int a__rules, .ref a_sign, .ref a_length, .ref a_clause, .ref a_clauses, .ref a_read, .int a__next, .int a__wrong, .int a__number, .int a__text, .int a__made, .int a__deep, .int a__lines, .ref a_open, .int a__opened, .ref a_stack, .int a__top, .ref a_word, .ref a_said, .int a__x, .ref a_worth, .ref a_mate, .ref a_wasSaid, .int a__undone, .int a__boughtNow, .ref a_wayBy, .ref a_wayThen, .int a__walkMost, .int a__walkGoing, .int a__walkSet, .ref a_kept, .long a__drawX, .ref a_images, .ref a_imageX, .ref a_isMade]))]) [0, 1] rfl) hS ls (lv_sub hl [0, 1, 2, 3, 4, 5] rfl)
            · refine lv_iload_n hx hb dX12_fitting_41 rfl (lv_at hl 5 rfl) ?_
              refine lv_icmp_ne (tgt := 49) hx hb dX12_fitting_42 (by decide) (fun c31 => ?_) (fun c31 => ?_)
              · have t32 : 1 ≠ p2.toInt := lin_ne c31 (by decide) rfl
                refine lv_iconst (v := 0) hx hb dX12_fitting_49 (by decide) ?_
                refine lv_iadd hx hb dX12_fitting_50 ?_
                refine lv_topi (fun v33 ev33 => ?_)
                refine lv_istore (lv' := [(4, .int v33), (5, .int k6_L_5), (0, .ref a), (1, .int p0), (2, .int p1), (3, .int p2)]) hx hb dX12_fitting_51 hl (by decide) rfl (fun ls hl => ?_)
                obtain ⟨v34, ev34⟩ : ∃ z : Int32, z = k6_L_5 + 1 := ⟨_, rfl⟩
                have hv34 : IV 1 12 v34 := iv_add ev34 h7 (iv_c (a := 1) (b := 1) (by decide)) (by decide) (by decide)
                have dv34 : v34.toInt = k6_L_5.toInt + 1 := iv_addE ev34 h7 (iv_c (a := 1) (b := 1) (by decide)) (by decide) (by decide) (by decide)
                refine lv_iinc (v := v34) (lv' := [(5, .int v34), (4, .int v33), (0, .ref a), (1, .int p0), (2, .int p1), (3, .int p2)]) hx hb dX12_fitting_53 hl (k := 1) rfl (by rw [ev34]; rfl) (by decide) rfl (fun ls hl => ?_)
                refine lv_goto (tgt := 6) hx hb dX12_fitting_56 (by decide) ?_
                exact ih6 v34 v33 (by have h9 := h7; unfold IV at h9; have := dv34; omega) (iv_w hv34 (by decide) (by decide)) H locs (hP.sub (ws' := [(a_said, .inl (cs 0, 123, .inl a_said_c)), (a, .inr (12, [.ref a_tape, .int a__taped, .int a__rules, .ref a_sign, .ref a_length, .ref a_clause, .ref a_clauses, .ref a_read, .int a__next, .int a__wrong, .int a__number, .int a__text, .int a__made, .int a__deep, .int a__lines, .ref a_open, .int a__opened, .ref a_stack, .int a__top, .ref a_word, .ref a_said, .int a__x, .ref a_worth, .ref a_mate, .ref a_wasSaid, .int a__undone, .int a__boughtNow, .ref a_wayBy, .ref a_wayThen, .int a__walkMost, .int a__walkGoing, .int a__walkSet, .ref a_kept, .long a__drawX, .ref a_images, .ref a_imageX, .ref a_isMade]))]) [0, 1] rfl) hS ls (lv_sub hl [0, 1, 2, 3, 4, 5] rfl)
              · have t35 : 1 = p2.toInt := lin_eqN c31 (by decide) rfl
                have h36 : IV 1 1 p2 := iv_eq2 c31 (iv_c (a := 1) (b := 1) (by decide)) iv_top (by decide) (by decide)
                have ii37 : 1 ≤ p2.toInt ∧ p2.toInt ≤ 1 := h36
                refine lv_iconst (v := 1) hx hb dX12_fitting_45 (by decide) ?_
                refine lv_goto (tgt := 50) hx hb dX12_fitting_46 (by decide) ?_
                refine lv_iadd hx hb dX12_fitting_50 ?_
                refine lv_topi (fun v38 ev38 => ?_)
                refine lv_istore (lv' := [(4, .int v38), (5, .int k6_L_5), (0, .ref a), (1, .int p0), (2, .int p1), (3, .int p2)]) hx hb dX12_fitting_51 hl (by decide) rfl (fun ls hl => ?_)
                obtain ⟨v39, ev39⟩ : ∃ z : Int32, z = k6_L_5 + 1 := ⟨_, rfl⟩
                have hv39 : IV 1 12 v39 := iv_add ev39 h7 (iv_c (a := 1) (b := 1) (by decide)) (by decide) (by decide)
                have dv39 : v39.toInt = k6_L_5.toInt + 1 := iv_addE ev39 h7 (iv_c (a := 1) (b := 1) (by decide)) (by decide) (by decide) (by decide)
                refine lv_iinc (v := v39) (lv' := [(5, .int v39), (4, .int v38), (0, .ref a), (1, .int p0), (2, .int p1), (3, .int p2)]) hx hb dX12_fitting_53 hl (k := 1) rfl (by rw [ev39]; rfl) (by decide) rfl (fun ls hl => ?_)
                refine lv_goto (tgt := 6) hx hb dX12_fitting_56 (by decide) ?_
                exact ih6 v39 v38 (by have h9 := h7; unfold IV at h9; have := dv39; omega) (iv_w hv39 (by decide) (by decide)) H locs (hP.sub (ws' := [(a_said, .inl (cs 0, 123, .inl a_said_c)), (a, .inr (12, [.ref a_tape, .int a__taped, .int a__rules, .ref a_sign, .ref a_length, .ref a_clause, .ref a_clauses, .ref a_read, .int a__next, .int a__wrong, .int a__number, .int a__text, .int a__made, .int a__deep, .int a__lines, .ref a_open, .int a__opened, .ref a_stack, .int a__top, .ref a_word, .ref a_said, .int a__x, .ref a_worth, .ref a_mate, .ref a_wasSaid, .int a__undone, .int a__boughtNow, .ref a_wayBy, .ref a_wayThen, .int a__walkMost, .int a__walkGoing, .int a__walkSet, .ref a_kept, .long a__drawX, .ref a_images, .ref a_imageX, .ref a_isMade]))]) [0, 1] rfl) hS ls (lv_sub hl [0, 1, 2, 3, 4, 5] rfl)
            · refine lv_iload_n hx hb dX12_fitting_41 rfl (lv_at hl 5 rfl) ?_
              refine lv_icmp_ne (tgt := 49) hx hb dX12_fitting_42 (by decide) (fun c40 => ?_) (fun c40 => ?_)
              · have t41 : 2 ≠ p2.toInt := lin_ne c40 (by decide) rfl
                refine lv_iconst (v := 0) hx hb dX12_fitting_49 (by decide) ?_
                refine lv_iadd hx hb dX12_fitting_50 ?_
                refine lv_topi (fun v42 ev42 => ?_)
                refine lv_istore (lv' := [(4, .int v42), (5, .int k6_L_5), (0, .ref a), (1, .int p0), (2, .int p1), (3, .int p2)]) hx hb dX12_fitting_51 hl (by decide) rfl (fun ls hl => ?_)
                obtain ⟨v43, ev43⟩ : ∃ z : Int32, z = k6_L_5 + 1 := ⟨_, rfl⟩
                have hv43 : IV 1 12 v43 := iv_add ev43 h7 (iv_c (a := 1) (b := 1) (by decide)) (by decide) (by decide)
                have dv43 : v43.toInt = k6_L_5.toInt + 1 := iv_addE ev43 h7 (iv_c (a := 1) (b := 1) (by decide)) (by decide) (by decide) (by decide)
                refine lv_iinc (v := v43) (lv' := [(5, .int v43), (4, .int v42), (0, .ref a), (1, .int p0), (2, .int p1), (3, .int p2)]) hx hb dX12_fitting_53 hl (k := 1) rfl (by rw [ev43]; rfl) (by decide) rfl (fun ls hl => ?_)
                refine lv_goto (tgt := 6) hx hb dX12_fitting_56 (by decide) ?_
                exact ih6 v43 v42 (by have h9 := h7; unfold IV at h9; have := dv43; omega) (iv_w hv43 (by decide) (by decide)) H locs (hP.sub (ws' := [(a_said, .inl (cs 0, 123, .inl a_said_c)), (a, .inr (12, [.ref a_tape, .int a__taped, .int a__rules, .ref a_sign, .ref a_length, .ref a_clause, .ref a_clauses, .ref a_read, .int a__next, .int a__wrong, .int a__number, .int a__text, .int a__made, .int a__deep, .int a__lines, .ref a_open, .int a__opened, .ref a_stack, .int a__top, .ref a_word, .ref a_said, .int a__x, .ref a_worth, .ref a_mate, .ref a_wasSaid, .int a__undone, .int a__boughtNow, .ref a_wayBy, .ref a_wayThen, .int a__walkMost, .int a__walkGoing, .int a__walkSet, .ref a_kept, .long a__drawX, .ref a_images, .ref a_imageX, .ref a_isMade]))]) [0, 1] rfl) hS ls (lv_sub hl [0, 1, 2, 3, 4, 5] rfl)
              · have t44 : 2 = p2.toInt := lin_eqN c40 (by decide) rfl
                have h45 : IV 2 2 p2 := iv_eq2 c40 (iv_c (a := 2) (b := 2) (by decide)) iv_top (by decide) (by decide)
                have ii46 : 2 ≤ p2.toInt ∧ p2.toInt ≤ 2 := h45
                refine lv_iconst (v := 1) hx hb dX12_fitting_45 (by decide) ?_
                refine lv_goto (tgt := 50) hx hb dX12_fitting_46 (by decide) ?_
                refine lv_iadd hx hb dX12_fitting_50 ?_
                refine lv_topi (fun v47 ev47 => ?_)
                refine lv_istore (lv' := [(4, .int v47), (5, .int k6_L_5), (0, .ref a), (1, .int p0), (2, .int p1), (3, .int p2)]) hx hb dX12_fitting_51 hl (by decide) rfl (fun ls hl => ?_)
                obtain ⟨v48, ev48⟩ : ∃ z : Int32, z = k6_L_5 + 1 := ⟨_, rfl⟩
                have hv48 : IV 1 12 v48 := iv_add ev48 h7 (iv_c (a := 1) (b := 1) (by decide)) (by decide) (by decide)
                have dv48 : v48.toInt = k6_L_5.toInt + 1 := iv_addE ev48 h7 (iv_c (a := 1) (b := 1) (by decide)) (by decide) (by decide) (by decide)
                refine lv_iinc (v := v48) (lv' := [(5, .int v48), (4, .int v47), (0, .ref a), (1, .int p0), (2, .int p1), (3, .int p2)]) hx hb dX12_fitting_53 hl (k := 1) rfl (by rw [ev48]; rfl) (by decide) rfl (fun ls hl => ?_)
                refine lv_goto (tgt := 6) hx hb dX12_fitting_56 (by decide) ?_
                exact ih6 v48 v47 (by have h9 := h7; unfold IV at h9; have := dv48; omega) (iv_w hv48 (by decide) (by decide)) H locs (hP.sub (ws' := [(a_said, .inl (cs 0, 123, .inl a_said_c)), (a, .inr (12, [.ref a_tape, .int a__taped, .int a__rules, .ref a_sign, .ref a_length, .ref a_clause, .ref a_clauses, .ref a_read, .int a__next, .int a__wrong, .int a__number, .int a__text, .int a__made, .int a__deep, .int a__lines, .ref a_open, .int a__opened, .ref a_stack, .int a__top, .ref a_word, .ref a_said, .int a__x, .ref a_worth, .ref a_mate, .ref a_wasSaid, .int a__undone, .int a__boughtNow, .ref a_wayBy, .ref a_wayThen, .int a__walkMost, .int a__walkGoing, .int a__walkSet, .ref a_kept, .long a__drawX, .ref a_images, .ref a_imageX, .ref a_isMade]))]) [0, 1] rfl) hS ls (lv_sub hl [0, 1, 2, 3, 4, 5] rfl)
  refine lv_iconst (v := 0) hx hb dX12_fitting_0 (by decide) ?_
  refine lv_istore (lv' := [(4, .int 0), (0, .ref a), (1, .int p0), (2, .int p1), (3, .int p2)]) hx hb dX12_fitting_1 hl (by decide) rfl (fun ls hl => ?_)
  refine lv_iconst (v := 0) hx hb dX12_fitting_3 (by decide) ?_
  refine lv_istore (lv' := [(5, .int 0), (4, .int 0), (0, .ref a), (1, .int p0), (2, .int p1), (3, .int p2)]) hx hb dX12_fitting_4 hl (by decide) rfl (fun ls hl => ?_)
  exact K6 _ ((0 : Int32)) ((0 : Int32)) (Nat.le_refl _) (iv_c (by decide)) H locs (hP.sub (ws' := [(a_said, .inl (cs 0, 123, .inl a_said_c)), (a, .inr (12, [.ref a_tape, .int a__taped, .int a__rules, .ref a_sign, .ref a_length, .ref a_clause, .ref a_clauses, .ref a_read, .int a__next, .int a__wrong, .int a__number, .int a__text, .int a__made, .int a__deep, .int a__lines, .ref a_open, .int a__opened, .ref a_stack, .int a__top, .ref a_word, .ref a_said, .int a__x, .ref a_worth, .ref a_mate, .ref a_wasSaid, .int a__undone, .int a__boughtNow, .ref a_wayBy, .ref a_wayThen, .int a__walkMost, .int a__walkGoing, .int a__walkSet, .ref a_kept, .long a__drawX, .ref a_images, .ref a_imageX, .ref a_isMade]))]) [0, 1] rfl) hS ls (lv_sub hl [0, 1, 2, 3, 4, 5] rfl)
theorem dX12_wordsFor_0 : decode cX12_wordsFor 0 = .ok (.aload_n 0, 1) := by decide +kernel
theorem dX12_wordsFor_1 : decode cX12_wordsFor 1 = .ok (.iload_n 1, 1) := by decide +kernel
theorem dX12_wordsFor_2 : decode cX12_wordsFor 2 = .ok (.invokevirtual 380, 3) := by decide +kernel
theorem dX12_wordsFor_5 : decode cX12_wordsFor 5 = .ok (.aload_n 0, 1) := by decide +kernel
theorem dX12_wordsFor_6 : decode cX12_wordsFor 6 = .ok (.getfield 36, 3) := by decide +kernel
theorem dX12_wordsFor_9 : decode cX12_wordsFor 9 = .ok (.bipush 6, 2) := by decide +kernel
theorem dX12_wordsFor_11 : decode cX12_wordsFor 11 = .ok (.iload_n 2, 1) := by decide +kernel
theorem dX12_wordsFor_12 : decode cX12_wordsFor 12 = .ok (.i2l, 1) := by decide +kernel
theorem dX12_wordsFor_13 : decode cX12_wordsFor 13 = .ok (.lastore, 1) := by decide +kernel
theorem dX12_wordsFor_14 : decode cX12_wordsFor 14 = .ok (.aload_n 0, 1) := by decide +kernel
theorem dX12_wordsFor_15 : decode cX12_wordsFor 15 = .ok (.getfield 36, 3) := by decide +kernel
theorem dX12_wordsFor_18 : decode cX12_wordsFor 18 = .ok (.bipush 7, 2) := by decide +kernel
theorem dX12_wordsFor_20 : decode cX12_wordsFor 20 = .ok (.aload_n 0, 1) := by decide +kernel
theorem dX12_wordsFor_21 : decode cX12_wordsFor 21 = .ok (.iload_n 2, 1) := by decide +kernel
theorem dX12_wordsFor_22 : decode cX12_wordsFor 22 = .ok (.iconst 0, 1) := by decide +kernel
theorem dX12_wordsFor_23 : decode cX12_wordsFor 23 = .ok (.invokevirtual 301, 3) := by decide +kernel
theorem dX12_wordsFor_26 : decode cX12_wordsFor 26 = .ok (.i2l, 1) := by decide +kernel
theorem dX12_wordsFor_27 : decode cX12_wordsFor 27 = .ok (.lastore, 1) := by decide +kernel
theorem dX12_wordsFor_28 : decode cX12_wordsFor 28 = .ok (.aload_n 0, 1) := by decide +kernel
theorem dX12_wordsFor_29 : decode cX12_wordsFor 29 = .ok (.getfield 36, 3) := by decide +kernel
theorem dX12_wordsFor_32 : decode cX12_wordsFor 32 = .ok (.bipush 8, 2) := by decide +kernel
theorem dX12_wordsFor_34 : decode cX12_wordsFor 34 = .ok (.aload_n 0, 1) := by decide +kernel
theorem dX12_wordsFor_35 : decode cX12_wordsFor 35 = .ok (.iload_n 2, 1) := by decide +kernel
theorem dX12_wordsFor_36 : decode cX12_wordsFor 36 = .ok (.iconst 1, 1) := by decide +kernel
theorem dX12_wordsFor_37 : decode cX12_wordsFor 37 = .ok (.invokevirtual 301, 3) := by decide +kernel
theorem dX12_wordsFor_40 : decode cX12_wordsFor 40 = .ok (.i2l, 1) := by decide +kernel
theorem dX12_wordsFor_41 : decode cX12_wordsFor 41 = .ok (.lastore, 1) := by decide +kernel
theorem dX12_wordsFor_42 : decode cX12_wordsFor 42 = .ok (.aload_n 0, 1) := by decide +kernel
theorem dX12_wordsFor_43 : decode cX12_wordsFor 43 = .ok (.getfield 36, 3) := by decide +kernel
theorem dX12_wordsFor_46 : decode cX12_wordsFor 46 = .ok (.bipush 9, 2) := by decide +kernel
theorem dX12_wordsFor_48 : decode cX12_wordsFor 48 = .ok (.aload_n 0, 1) := by decide +kernel
theorem dX12_wordsFor_49 : decode cX12_wordsFor 49 = .ok (.iload_n 2, 1) := by decide +kernel
theorem dX12_wordsFor_50 : decode cX12_wordsFor 50 = .ok (.invokevirtual 340, 3) := by decide +kernel
theorem dX12_wordsFor_53 : decode cX12_wordsFor 53 = .ok (.i2l, 1) := by decide +kernel
theorem dX12_wordsFor_54 : decode cX12_wordsFor 54 = .ok (.lastore, 1) := by decide +kernel
theorem dX12_wordsFor_55 : decode cX12_wordsFor 55 = .ok (.aload_n 0, 1) := by decide +kernel
theorem dX12_wordsFor_56 : decode cX12_wordsFor 56 = .ok (.getfield 36, 3) := by decide +kernel
theorem dX12_wordsFor_59 : decode cX12_wordsFor 59 = .ok (.bipush 10, 2) := by decide +kernel
theorem dX12_wordsFor_61 : decode cX12_wordsFor 61 = .ok (.aload_n 0, 1) := by decide +kernel
theorem dX12_wordsFor_62 : decode cX12_wordsFor 62 = .ok (.aload_n 0, 1) := by decide +kernel
theorem dX12_wordsFor_63 : decode cX12_wordsFor 63 = .ok (.iload_n 1, 1) := by decide +kernel
theorem dX12_wordsFor_64 : decode cX12_wordsFor 64 = .ok (.invokevirtual 346, 3) := by decide +kernel
theorem dX12_wordsFor_67 : decode cX12_wordsFor 67 = .ok (.iload_n 2, 1) := by decide +kernel
theorem dX12_wordsFor_68 : decode cX12_wordsFor 68 = .ok (.iconst 2, 1) := by decide +kernel
theorem dX12_wordsFor_69 : decode cX12_wordsFor 69 = .ok (.invokevirtual 383, 3) := by decide +kernel
theorem dX12_wordsFor_72 : decode cX12_wordsFor 72 = .ok (.i2l, 1) := by decide +kernel
theorem dX12_wordsFor_73 : decode cX12_wordsFor 73 = .ok (.lastore, 1) := by decide +kernel
theorem dX12_wordsFor_74 : decode cX12_wordsFor 74 = .ok (.aload_n 0, 1) := by decide +kernel
theorem dX12_wordsFor_75 : decode cX12_wordsFor 75 = .ok (.getfield 36, 3) := by decide +kernel
theorem dX12_wordsFor_78 : decode cX12_wordsFor 78 = .ok (.bipush 11, 2) := by decide +kernel
theorem dX12_wordsFor_80 : decode cX12_wordsFor 80 = .ok (.aload_n 0, 1) := by decide +kernel
theorem dX12_wordsFor_81 : decode cX12_wordsFor 81 = .ok (.aload_n 0, 1) := by decide +kernel
theorem dX12_wordsFor_82 : decode cX12_wordsFor 82 = .ok (.iload_n 1, 1) := by decide +kernel
theorem dX12_wordsFor_83 : decode cX12_wordsFor 83 = .ok (.invokevirtual 346, 3) := by decide +kernel
theorem dX12_wordsFor_86 : decode cX12_wordsFor 86 = .ok (.iload_n 2, 1) := by decide +kernel
theorem dX12_wordsFor_87 : decode cX12_wordsFor 87 = .ok (.iconst 1, 1) := by decide +kernel
theorem dX12_wordsFor_88 : decode cX12_wordsFor 88 = .ok (.invokevirtual 383, 3) := by decide +kernel
theorem dX12_wordsFor_91 : decode cX12_wordsFor 91 = .ok (.i2l, 1) := by decide +kernel
theorem dX12_wordsFor_92 : decode cX12_wordsFor 92 = .ok (.lastore, 1) := by decide +kernel
theorem dX12_wordsFor_93 : decode cX12_wordsFor 93 = .ok (.aload_n 0, 1) := by decide +kernel
theorem dX12_wordsFor_94 : decode cX12_wordsFor 94 = .ok (.getfield 36, 3) := by decide +kernel
theorem dX12_wordsFor_97 : decode cX12_wordsFor 97 = .ok (.bipush 12, 2) := by decide +kernel
theorem dX12_wordsFor_99 : decode cX12_wordsFor 99 = .ok (.aload_n 0, 1) := by decide +kernel
theorem dX12_wordsFor_100 : decode cX12_wordsFor 100 = .ok (.aload_n 0, 1) := by decide +kernel
theorem dX12_wordsFor_101 : decode cX12_wordsFor 101 = .ok (.iload_n 1, 1) := by decide +kernel
theorem dX12_wordsFor_102 : decode cX12_wordsFor 102 = .ok (.invokevirtual 349, 3) := by decide +kernel
theorem dX12_wordsFor_105 : decode cX12_wordsFor 105 = .ok (.aload_n 0, 1) := by decide +kernel
theorem dX12_wordsFor_106 : decode cX12_wordsFor 106 = .ok (.invokevirtual 387, 3) := by decide +kernel
theorem dX12_wordsFor_109 : decode cX12_wordsFor 109 = .ok (.iand, 1) := by decide +kernel
theorem dX12_wordsFor_110 : decode cX12_wordsFor 110 = .ok (.iload_n 2, 1) := by decide +kernel
theorem dX12_wordsFor_111 : decode cX12_wordsFor 111 = .ok (.iconst 2, 1) := by decide +kernel
theorem dX12_wordsFor_112 : decode cX12_wordsFor 112 = .ok (.invokevirtual 383, 3) := by decide +kernel
theorem dX12_wordsFor_115 : decode cX12_wordsFor 115 = .ok (.i2l, 1) := by decide +kernel
theorem dX12_wordsFor_116 : decode cX12_wordsFor 116 = .ok (.lastore, 1) := by decide +kernel
theorem dX12_wordsFor_117 : decode cX12_wordsFor 117 = .ok (.return_, 1) := by decide +kernel
set_option maxHeartbeats 4000000 in
set_option maxRecDepth 100000 in
theorem c_X12_wordsFor (l : Launch) (D : va_G) (cs : Nat → ClassId) (kK kV : Nat → Nat) (a : Nat) (p0 : Int32) (p1 : Int32) (a_said : Nat) (a_said_c : Nat → Int32) (a_tape : Nat) (a__taped : Int32) (a__rules : Int32) (a_sign : Nat) (a_length : Nat) (a_clause : Nat) (a_clauses : Nat) (a_read : Nat) (a__next : Int32) (a__wrong : Int32) (a__number : Int32) (a__text : Int32) (a__made : Int32) (a__deep : Int32) (a__lines : Int32) (a_open : Nat) (a__opened : Int32) (a_stack : Nat) (a__top : Int32) (a_word : Nat) (a__x : Int32) (a_worth : Nat) (a_mate : Nat) (a_wasSaid : Nat) (a__undone : Int32) (a__boughtNow : Int32) (a_wayBy : Nat) (a_wayThen : Nat) (a__walkMost : Int32) (a__walkGoing : Int32) (a__walkSet : Int32) (a_kept : Nat) (a__drawX : Int64) (a_images : Nat) (a_imageX : Nat) (a_isMade : Nat) (a_word_c : Nat → Int64) (h_p0 : IV 0 3 p0) (h_p1 : IV 0 11 p1) (h_a__taped : IV 0 400 a__taped) (h_a__rules : IV 0 6 a__rules) (h_a__next : IV 0 400 a__next) (h_a__text : IV 0 6 a__text) (h_a__made : IV 0 60 a__made) (h_a__lines : IV 0 40 a__lines) (h_a__opened : IV 0 400 a__opened) (h_a__top : IV 0 64 a__top) (h_a__x : IV 0 2147483647 a__x) (h_a__undone : IV 0 20 a__undone) (hf0 : BS a_said_c 200) (sz : Nat) : Met l yX12_wordsFor (hz_w yX12_wordsFor cX12_wordsFor 3 none) ({ frames := 4, cells := 0, slots := 0, locals := 92 }) (va_Pc [.ref a, .int p0, .int p1] (hz_C D cs kK kV sz [(a_said, .inl (cs 0, 123, .inl a_said_c)), (a, .inr (12, [.ref a_tape, .int a__taped, .int a__rules, .ref a_sign, .ref a_length, .ref a_clause, .ref a_clauses, .ref a_read, .int a__next, .int a__wrong, .int a__number, .int a__text, .int a__made, .int a__deep, .int a__lines, .ref a_open, .int a__opened, .ref a_stack, .int a__top, .ref a_word, .ref a_said, .int a__x, .ref a_worth, .ref a_mate, .ref a_wasSaid, .int a__undone, .int a__boughtNow, .ref a_wayBy, .ref a_wayThen, .int a__walkMost, .int a__walkGoing, .int a__walkSet, .ref a_kept, .long a__drawX, .ref a_images, .ref a_imageX, .ref a_isMade])), (a_word, .inl (cs 3, 13, .inr (.inl a_word_c)))])) (va_Qv (fun (u : (Nat → Int32) × (Nat → Nat → Int32)) => True) (fun u t => ∃ (o_a_word_c : Nat → Int64), va_P D classes [(a_said, .inl (cs 0, 123, .inl a_said_c)), (a, .inr (12, [.ref a_tape, .int a__taped, .int a__rules, .ref a_sign, .ref a_length, .ref a_clause, .ref a_clauses, .ref a_read, .int a__next, .int a__wrong, .int a__number, .int a__text, .int a__made, .int a__deep, .int a__lines, .ref a_open, .int a__opened, .ref a_stack, .int a__top, .ref a_word, .ref a_said, .int a__x, .ref a_worth, .ref a_mate, .ref a_wasSaid, .int a__undone, .int a__boughtNow, .ref a_wayBy, .ref a_wayThen, .int a__walkMost, .int a__walkGoing, .int a__walkSet, .ref a_kept, .long a__drawX, .ref a_images, .ref a_imageX, .ref a_isMade])), (a_word, .inl (cs 3, 13, .inr (.inl o_a_word_c)))] t.heap ∧ va_D (va_A [(a_said, .inl (cs 0, 123, .inl a_said_c)), (a, .inr (12, [.ref a_tape, .int a__taped, .int a__rules, .ref a_sign, .ref a_length, .ref a_clause, .ref a_clauses, .ref a_read, .int a__next, .int a__wrong, .int a__number, .int a__text, .int a__made, .int a__deep, .int a__lines, .ref a_open, .int a__opened, .ref a_stack, .int a__top, .ref a_word, .ref a_said, .int a__x, .ref a_worth, .ref a_mate, .ref a_wasSaid, .int a__undone, .int a__boughtNow, .ref a_wayBy, .ref a_wayThen, .int a__walkMost, .int a__walkGoing, .int a__walkSet, .ref a_kept, .long a__drawX, .ref a_images, .ref a_imageX, .ref a_isMade])), (a_word, .inl (cs 3, 13, .inr (.inl a_word_c)))] sz) [(a_said, .inl (cs 0, 123, .inl a_said_c)), (a, .inr (12, [.ref a_tape, .int a__taped, .int a__rules, .ref a_sign, .ref a_length, .ref a_clause, .ref a_clauses, .ref a_read, .int a__next, .int a__wrong, .int a__number, .int a__text, .int a__made, .int a__deep, .int a__lines, .ref a_open, .int a__opened, .ref a_stack, .int a__top, .ref a_word, .ref a_said, .int a__x, .ref a_worth, .ref a_mate, .ref a_wasSaid, .int a__undone, .int a__boughtNow, .ref a_wayBy, .ref a_wayThen, .int a__walkMost, .int a__walkGoing, .int a__walkSet, .ref a_kept, .long a__drawX, .ref a_images, .ref a_imageX, .ref a_isMade])), (a_word, .inl (cs 3, 13, .inr (.inl o_a_word_c)))]) (va_A [(a_said, .inl (cs 0, 123, .inl a_said_c)), (a, .inr (12, [.ref a_tape, .int a__taped, .int a__rules, .ref a_sign, .ref a_length, .ref a_clause, .ref a_clauses, .ref a_read, .int a__next, .int a__wrong, .int a__number, .int a__text, .int a__made, .int a__deep, .int a__lines, .ref a_open, .int a__opened, .ref a_stack, .int a__top, .ref a_word, .ref a_said, .int a__x, .ref a_worth, .ref a_mate, .ref a_wasSaid, .int a__undone, .int a__boughtNow, .ref a_wayBy, .ref a_wayThen, .int a__walkMost, .int a__walkGoing, .int a__walkSet, .ref a_kept, .long a__drawX, .ref a_images, .ref a_imageX, .ref a_isMade])), (a_word, .inl (cs 3, 13, .inr (.inl a_word_c)))] sz)) 0 0 (va_A [(a_said, .inl (cs 0, 123, .inl a_said_c)), (a, .inr (12, [.ref a_tape, .int a__taped, .int a__rules, .ref a_sign, .ref a_length, .ref a_clause, .ref a_clauses, .ref a_read, .int a__next, .int a__wrong, .int a__number, .int a__text, .int a__made, .int a__deep, .int a__lines, .ref a_open, .int a__opened, .ref a_stack, .int a__top, .ref a_word, .ref a_said, .int a__x, .ref a_worth, .ref a_mate, .ref a_wasSaid, .int a__undone, .int a__boughtNow, .ref a_wayBy, .ref a_wayThen, .int a__walkMost, .int a__walkGoing, .int a__walkSet, .ref a_kept, .long a__drawX, .ref a_images, .ref a_imageX, .ref a_isMade])), (a_word, .inl (cs 3, 13, .inr (.inl a_word_c)))] sz) := by
  refine Met.ofW (cc := cX12_wordsFor) (maxL := 3) (ret := none) (by decide) rfl ?_
  intro p e s m args below meth c s₁ B hml hv
  obtain ⟨rfl, hsz, hP, hD0, hE⟩ := hv
  have hx := B.exec
  have hb := B.bytes
  have hr := B.returns
  have hT : ∀ w ∈ TB, w.before _ s = true := fun w h => atoms_spec (ws := hz_w yX12_wordsFor cX12_wordsFor 3 none) B.pre w (List.mem_cons_of_mem _ h)
  have hown : s.vm.findClass RX12 = some m.cls := findClass_of_methodNamed B.named
  have hlocks := B.notSynchronized
  clear B
  subst hsz
  have hD := hD0.self (sz := s.heap.size)
  generalize hAe : va_A [(a_said, .inl (cs 0, 123, .inl a_said_c)), (a, .inr (12, [.ref a_tape, .int a__taped, .int a__rules, .ref a_sign, .ref a_length, .ref a_clause, .ref a_clauses, .ref a_read, .int a__next, .int a__wrong, .int a__number, .int a__text, .int a__made, .int a__deep, .int a__lines, .ref a_open, .int a__opened, .ref a_stack, .int a__top, .ref a_word, .ref a_said, .int a__x, .ref a_worth, .ref a_mate, .ref a_wasSaid, .int a__undone, .int a__boughtNow, .ref a_wayBy, .ref a_wayThen, .int a__walkMost, .int a__walkGoing, .int a__walkSet, .ref a_kept, .long a__drawX, .ref a_images, .ref a_imageX, .ref a_isMade])), (a_word, .inl (cs 3, 13, .inr (.inl a_word_c)))] s.heap.size = A at hD hE ⊢
  have hA : ∀ q : Nat, s.heap.size ≤ q → A q := fun q h => by rw [← hAe]; exact Or.inr h
  clear hAe hD0
  have hS : va_S A s.heap s.heap [] := va_S.rf
  have hK := hE.1
  have hl := lv_entry ([.ref a, .int p0, .int p1]) (n := 3) (Nat.le_of_ble_eq_true rfl)
  rw [lg_entry_eq]
  generalize (lg_sl ([.ref a, .int p0, .int p1]) ++ List.replicate (3 - (lg_sl ([.ref a, .int p0, .int p1])).length) Slot.unset).toArray = ls at hl ⊢
  have hl : lv_has ls 3 [(0, .ref a), (1, .int p0), (2, .int p1)] := hl
  obtain ⟨H, eH⟩ : ∃ z, z = s.heap := ⟨_, rfl⟩
  have hP : va_P D classes [(a_said, .inl (cs 0, 123, .inl a_said_c)), (a, .inr (12, [.ref a_tape, .int a__taped, .int a__rules, .ref a_sign, .ref a_length, .ref a_clause, .ref a_clauses, .ref a_read, .int a__next, .int a__wrong, .int a__number, .int a__text, .int a__made, .int a__deep, .int a__lines, .ref a_open, .int a__opened, .ref a_stack, .int a__top, .ref a_word, .ref a_said, .int a__x, .ref a_worth, .ref a_mate, .ref a_wasSaid, .int a__undone, .int a__boughtNow, .ref a_wayBy, .ref a_wayThen, .int a__walkMost, .int a__walkGoing, .int a__walkSet, .ref a_kept, .long a__drawX, .ref a_images, .ref a_imageX, .ref a_isMade])), (a_word, .inl (cs 3, 13, .inr (.inl a_word_c)))] H := by rw [eH]; exact hP
  have hS : va_S A s.heap H [] := by rw [eH]; exact hS
  rw [← eH]
  clear eH
  obtain ⟨locs, el⟩ : ∃ z : List Loc, z = [] := ⟨_, rfl⟩
  rw [← el] at hS ⊢
  clear el
  have z0 : (0 : Int32).toInt = 0 := by decide
  have z1 : (1 : Int32).toInt = 1 := by decide
  have zm1 : (-1 : Int32).toInt = -1 := by decide
  have i_a__lines : 0 ≤ a__lines.toInt ∧ a__lines.toInt ≤ 40 := h_a__lines
  have i_a__made : 0 ≤ a__made.toInt ∧ a__made.toInt ≤ 60 := h_a__made
  have i_a__next : 0 ≤ a__next.toInt ∧ a__next.toInt ≤ 400 := h_a__next
  have i_a__opened : 0 ≤ a__opened.toInt ∧ a__opened.toInt ≤ 400 := h_a__opened
  have i_a__rules : 0 ≤ a__rules.toInt ∧ a__rules.toInt ≤ 6 := h_a__rules
  have i_a__taped : 0 ≤ a__taped.toInt ∧ a__taped.toInt ≤ 400 := h_a__taped
  have i_a__text : 0 ≤ a__text.toInt ∧ a__text.toInt ≤ 6 := h_a__text
  have i_a__top : 0 ≤ a__top.toInt ∧ a__top.toInt ≤ 64 := h_a__top
  have i_a__undone : 0 ≤ a__undone.toInt ∧ a__undone.toInt ≤ 20 := h_a__undone
  have i_a__x : 0 ≤ a__x.toInt ∧ a__x.toInt ≤ 2147483647 := h_a__x
  have i_p0 : 0 ≤ p0.toInt ∧ p0.toInt ≤ 3 := h_p0
  have i_p1 : 0 ≤ p1.toInt ∧ p1.toInt ≤ 11 := h_p1
  refine lv_aload_n hx hb dX12_wordsFor_0 rfl (lv_at hl 0 rfl) ?_
  refine lv_iload_n hx hb dX12_wordsFor_1 rfl (lv_at hl 1 rfl) ?_
  have hFc := va_free (wc := [(a_said, .inl (cs 0, 123, .inl a_said_c)), (a, .inr (12, [.ref a_tape, .int a__taped, .int a__rules, .ref a_sign, .ref a_length, .ref a_clause, .ref a_clauses, .ref a_read, .int a__next, .int a__wrong, .int a__number, .int a__text, .int a__made, .int a__deep, .int a__lines, .ref a_open, .int a__opened, .ref a_stack, .int a__top, .ref a_word, .ref a_said, .int a__x, .ref a_worth, .ref a_mate, .ref a_wasSaid, .int a__undone, .int a__boughtNow, .ref a_wayBy, .ref a_wayThen, .int a__walkMost, .int a__walkGoing, .int a__walkSet, .ref a_kept, .long a__drawX, .ref a_images, .ref a_imageX, .ref a_isMade])), (a_word, .inl (cs 3, 13, .inr (.inl a_word_c)))]) hD hS hA [0,1,2] rfl
  refine va_callv (va_runV (As := [.int p0]) (rest := []) ⟨hx, hb, hml, hown, hT⟩ (c_X12_wordsOf l D cs kK kV a p0 a_said a_said_c a_tape a__taped a__rules a_sign a_length a_clause a_clauses a_read a__next a__wrong a__number a__text a__made a__deep a__lines a_open a__opened a_stack a__top a_word a__x a_worth a_mate a_wasSaid a__undone a__boughtNow a_wayBy a_wayThen a__walkMost a__walkGoing a__walkSet a_kept a__drawX a_images a_imageX a_isMade a_word_c h_p0 h_a__taped h_a__rules h_a__next h_a__text h_a__made h_a__lines h_a__opened h_a__top h_a__x h_a__undone hf0 H.size) (cwV 1 hT (hz_gV q_1199 q_1200 q_1201 q_701 q_1202) rfl rfl rfl (by decide +kernel) ⟨(Nat.le_of_ble_eq_true rfl), (Nat.le_of_ble_eq_true rfl)⟩) ⟨hz_C.blind, va_recv hK hP (ci := 12) (q0 := 1) rfl rfl, hz_C.mk (hP.sub (ws' := [(a_said, .inl (cs 0, 123, .inl a_said_c)), (a, .inr (12, [.ref a_tape, .int a__taped, .int a__rules, .ref a_sign, .ref a_length, .ref a_clause, .ref a_clauses, .ref a_read, .int a__next, .int a__wrong, .int a__number, .int a__text, .int a__made, .int a__deep, .int a__lines, .ref a_open, .int a__opened, .ref a_stack, .int a__top, .ref a_word, .ref a_said, .int a__x, .ref a_worth, .ref a_mate, .ref a_wasSaid, .int a__undone, .int a__boughtNow, .ref a_wayBy, .ref a_wayThen, .int a__walkMost, .int a__walkGoing, .int a__walkSet, .ref a_kept, .long a__drawX, .ref a_images, .ref a_imageX, .ref a_isMade])), (a_word, .inl (cs 3, 13, .inr (.inl a_word_c)))]) [0,1,2] rfl) (hD.sub (ws' := [(a_said, .inl (cs 0, 123, .inl a_said_c)), (a, .inr (12, [.ref a_tape, .int a__taped, .int a__rules, .ref a_sign, .ref a_length, .ref a_clause, .ref a_clauses, .ref a_read, .int a__next, .int a__wrong, .int a__number, .int a__text, .int a__made, .int a__deep, .int a__lines, .ref a_open, .int a__opened, .ref a_stack, .int a__top, .ref a_word, .ref a_said, .int a__x, .ref a_worth, .ref a_mate, .ref a_wasSaid, .int a__undone, .int a__boughtNow, .ref a_wayBy, .ref a_wayThen, .int a__walkMost, .int a__walkGoing, .int a__walkSet, .ref a_kept, .long a__drawX, .ref a_images, .ref a_imageX, .ref a_isMade])), (a_word, .inl (cs 3, 13, .inr (.inl a_word_c)))]) [0,1,2] (by decide) rfl) hE hS hFc⟩ rfl rfl hl.1 rfl (lv_room (Nat.le_of_ble_eq_true rfl)) dX12_wordsFor_2 ⟨(Nat.le_of_ble_eq_true rfl), (Nat.le_of_ble_eq_true rfl)⟩) hS (fun q _ h => hFc q h) hFc (fun o2 t H1 locs ht hvm hw hB hz1 hk1 hS => ?_)
  obtain ⟨o3, hP1, hD1⟩ := hB
  rw [ht] at hP1
  obtain ⟨hP, hD⟩ := va_join (wr := []) (w1 := [(a_said, .inl (cs 0, 123, .inl a_said_c)), (a, .inr (12, [.ref a_tape, .int a__taped, .int a__rules, .ref a_sign, .ref a_length, .ref a_clause, .ref a_clauses, .ref a_read, .int a__next, .int a__wrong, .int a__number, .int a__text, .int a__made, .int a__deep, .int a__lines, .ref a_open, .int a__opened, .ref a_stack, .int a__top, .ref a_word, .ref a_said, .int a__x, .ref a_worth, .ref a_mate, .ref a_wasSaid, .int a__undone, .int a__boughtNow, .ref a_wayBy, .ref a_wayThen, .int a__walkMost, .int a__walkGoing, .int a__walkSet, .ref a_kept, .long a__drawX, .ref a_images, .ref a_imageX, .ref a_isMade])), (a_word, .inl (cs 3, 13, .inr (.inl o3)))]) hP hD [0, 1, 2] [] rfl rfl (by decide) (by decide) hk1 hFc hP1 hD1
  generalize H1 = H at hP hS ⊢
  have hP : va_P D classes [(a_said, .inl (cs 0, 123, .inl a_said_c)), (a, .inr (12, [.ref a_tape, .int a__taped, .int a__rules, .ref a_sign, .ref a_length, .ref a_clause, .ref a_clauses, .ref a_read, .int a__next, .int a__wrong, .int a__number, .int a__text, .int a__made, .int a__deep, .int a__lines, .ref a_open, .int a__opened, .ref a_stack, .int a__top, .ref a_word, .ref a_said, .int a__x, .ref a_worth, .ref a_mate, .ref a_wasSaid, .int a__undone, .int a__boughtNow, .ref a_wayBy, .ref a_wayThen, .int a__walkMost, .int a__walkGoing, .int a__walkSet, .ref a_kept, .long a__drawX, .ref a_images, .ref a_imageX, .ref a_isMade])), (a_word, .inl (cs 3, 13, .inr (.inl o3)))] H := hP
  have hD : va_D A [(a_said, .inl (cs 0, 123, .inl a_said_c)), (a, .inr (12, [.ref a_tape, .int a__taped, .int a__rules, .ref a_sign, .ref a_length, .ref a_clause, .ref a_clauses, .ref a_read, .int a__next, .int a__wrong, .int a__number, .int a__text, .int a__made, .int a__deep, .int a__lines, .ref a_open, .int a__opened, .ref a_stack, .int a__top, .ref a_word, .ref a_said, .int a__x, .ref a_worth, .ref a_mate, .ref a_wasSaid, .int a__undone, .int a__boughtNow, .ref a_wayBy, .ref a_wayThen, .int a__walkMost, .int a__walkGoing, .int a__walkSet, .ref a_kept, .long a__drawX, .ref a_images, .ref a_imageX, .ref a_isMade])), (a_word, .inl (cs 3, 13, .inr (.inl o3)))] := hD
  clear hk1 hFc hP1 hD1 hz1
  refine lv_aload_n hx hb dX12_wordsFor_5 rfl (lv_at hl 0 rfl) ?_
  refine va_get (D := D) (ci := 12) (v := .ref a_word) (C := RX12) (T := TX12) (N := 37) hx hb hT i_X12 hown hK hP 1 rfl rfl 19 (by decide) (hT _ q_184) (fun _ h9 => h9) rfl dX12_wordsFor_6 ?_
  refine lv_bipush (v := 6) hx hb dX12_wordsFor_9 (by decide) ?_
  refine lv_iload_n hx hb dX12_wordsFor_11 rfl (lv_at hl 2 rfl) ?_
  refine lv_i2l (v := p1.toInt64) hx hb dX12_wordsFor_12 rfl ?_
  refine va_last hx hb hK hP hD hS 2 3 rfl rfl (iv_vc (by decide)) dX12_wordsFor_13 (fun H locs hP hD hS => ?_)
  have hP : va_P D classes [(a_said, .inl (cs 0, 123, .inl a_said_c)), (a, .inr (12, [.ref a_tape, .int a__taped, .int a__rules, .ref a_sign, .ref a_length, .ref a_clause, .ref a_clauses, .ref a_read, .int a__next, .int a__wrong, .int a__number, .int a__text, .int a__made, .int a__deep, .int a__lines, .ref a_open, .int a__opened, .ref a_stack, .int a__top, .ref a_word, .ref a_said, .int a__x, .ref a_worth, .ref a_mate, .ref a_wasSaid, .int a__undone, .int a__boughtNow, .ref a_wayBy, .ref a_wayThen, .int a__walkMost, .int a__walkGoing, .int a__walkSet, .ref a_kept, .long a__drawX, .ref a_images, .ref a_imageX, .ref a_isMade])), (a_word, .inl (cs 3, 13, .inr (.inl (vp_updL o3 (Int32.toNatClampNeg (6 : Int32)) p1.toInt64))))] H := hP
  have hD : va_D A [(a_said, .inl (cs 0, 123, .inl a_said_c)), (a, .inr (12, [.ref a_tape, .int a__taped, .int a__rules, .ref a_sign, .ref a_length, .ref a_clause, .ref a_clauses, .ref a_read, .int a__next, .int a__wrong, .int a__number, .int a__text, .int a__made, .int a__deep, .int a__lines, .ref a_open, .int a__opened, .ref a_stack, .int a__top, .ref a_word, .ref a_said, .int a__x, .ref a_worth, .ref a_mate, .ref a_wasSaid, .int a__undone, .int a__boughtNow, .ref a_wayBy, .ref a_wayThen, .int a__walkMost, .int a__walkGoing, .int a__walkSet, .ref a_kept, .long a__drawX, .ref a_images, .ref a_imageX, .ref a_isMade])), (a_word, .inl (cs 3, 13, .inr (.inl (vp_updL o3 (Int32.toNatClampNeg (6 : Int32)) p1.toInt64))))] := hD
  generalize vp_updL o3 (Int32.toNatClampNeg (6 : Int32)) p1.toInt64 = f4 at hP hD
  refine lv_aload_n hx hb dX12_wordsFor_14 rfl (lv_at hl 0 rfl) ?_
  refine va_get (D := D) (ci := 12) (v := .ref a_word) (C := RX12) (T := TX12) (N := 37) hx hb hT i_X12 hown hK hP 1 rfl rfl 19 (by decide) (hT _ q_184) (fun _ h9 => h9) rfl dX12_wordsFor_15 ?_
  refine lv_bipush (v := 7) hx hb dX12_wordsFor_18 (by decide) ?_
  refine lv_aload_n hx hb dX12_wordsFor_20 rfl (lv_at hl 0 rfl) ?_
  refine lv_iload_n hx hb dX12_wordsFor_21 rfl (lv_at hl 2 rfl) ?_
  refine lv_iconst (v := 0) hx hb dX12_wordsFor_22 (by decide) ?_
  refine va_calli (va_runV (As := [.int p1, .int 0]) (rest := [.int 7, .ref a_word]) ⟨hx, hb, hml, hown, hT⟩ (c_X12_halfOf l D cs kK kV a p1 0 a_tape a__taped a__rules a_sign a_length a_clause a_clauses a_read a__next a__wrong a__number a__text a__made a__deep a__lines a_open a__opened a_stack a__top a_word a_said a__x a_worth a_mate a_wasSaid a__undone a__boughtNow a_wayBy a_wayThen a__walkMost a__walkGoing a__walkSet a_kept a__drawX a_images a_imageX a_isMade a_said_c h_p1 ((iv_c (by decide))) h_a__taped h_a__rules h_a__next h_a__text h_a__made h_a__lines h_a__opened h_a__top h_a__x h_a__undone) (cwV 2 hT (hz_gV q_1104 q_1105 q_1106 q_701 q_1107) rfl rfl rfl (by decide +kernel) ⟨(Nat.le_of_ble_eq_true rfl), (Nat.le_of_ble_eq_true rfl)⟩) ⟨hz_P.blind, va_recv hK hP (ci := 12) (q0 := 1) rfl rfl, hz_P.mk (hP.sub (ws' := [(a, .inr (12, [.ref a_tape, .int a__taped, .int a__rules, .ref a_sign, .ref a_length, .ref a_clause, .ref a_clauses, .ref a_read, .int a__next, .int a__wrong, .int a__number, .int a__text, .int a__made, .int a__deep, .int a__lines, .ref a_open, .int a__opened, .ref a_stack, .int a__top, .ref a_word, .ref a_said, .int a__x, .ref a_worth, .ref a_mate, .ref a_wasSaid, .int a__undone, .int a__boughtNow, .ref a_wayBy, .ref a_wayThen, .int a__walkMost, .int a__walkGoing, .int a__walkSet, .ref a_kept, .long a__drawX, .ref a_images, .ref a_imageX, .ref a_isMade])), (a_said, .inl (cs 0, 123, .inl a_said_c))]) [1,0] rfl) hE hS⟩ rfl rfl hl.1 rfl (lv_room (Nat.le_of_ble_eq_true rfl)) dX12_wordsFor_23 ⟨(Nat.le_of_ble_eq_true rfl), (Nat.le_of_ble_eq_true rfl)⟩) hS (fun _ _ h => h.elim) (fun _ h => h.elim) (fun r5 u t H1 locs ht hvm hw hB hz1 hk1 hS => ?_)
  have hP := hz_keep hP hk1
  clear hk1 hB hz1
  generalize H1 = H at hP hS ⊢
  have x6 := hw
  refine lv_i2l (v := r5.toInt64) hx hb dX12_wordsFor_26 rfl ?_
  refine va_last hx hb hK hP hD hS 2 3 rfl rfl (iv_vc (by decide)) dX12_wordsFor_27 (fun H locs hP hD hS => ?_)
  have hP : va_P D classes [(a_said, .inl (cs 0, 123, .inl a_said_c)), (a, .inr (12, [.ref a_tape, .int a__taped, .int a__rules, .ref a_sign, .ref a_length, .ref a_clause, .ref a_clauses, .ref a_read, .int a__next, .int a__wrong, .int a__number, .int a__text, .int a__made, .int a__deep, .int a__lines, .ref a_open, .int a__opened, .ref a_stack, .int a__top, .ref a_word, .ref a_said, .int a__x, .ref a_worth, .ref a_mate, .ref a_wasSaid, .int a__undone, .int a__boughtNow, .ref a_wayBy, .ref a_wayThen, .int a__walkMost, .int a__walkGoing, .int a__walkSet, .ref a_kept, .long a__drawX, .ref a_images, .ref a_imageX, .ref a_isMade])), (a_word, .inl (cs 3, 13, .inr (.inl (vp_updL f4 (Int32.toNatClampNeg (7 : Int32)) r5.toInt64))))] H := hP
  have hD : va_D A [(a_said, .inl (cs 0, 123, .inl a_said_c)), (a, .inr (12, [.ref a_tape, .int a__taped, .int a__rules, .ref a_sign, .ref a_length, .ref a_clause, .ref a_clauses, .ref a_read, .int a__next, .int a__wrong, .int a__number, .int a__text, .int a__made, .int a__deep, .int a__lines, .ref a_open, .int a__opened, .ref a_stack, .int a__top, .ref a_word, .ref a_said, .int a__x, .ref a_worth, .ref a_mate, .ref a_wasSaid, .int a__undone, .int a__boughtNow, .ref a_wayBy, .ref a_wayThen, .int a__walkMost, .int a__walkGoing, .int a__walkSet, .ref a_kept, .long a__drawX, .ref a_images, .ref a_imageX, .ref a_isMade])), (a_word, .inl (cs 3, 13, .inr (.inl (vp_updL f4 (Int32.toNatClampNeg (7 : Int32)) r5.toInt64))))] := hD
  generalize vp_updL f4 (Int32.toNatClampNeg (7 : Int32)) r5.toInt64 = f7 at hP hD
  refine lv_aload_n hx hb dX12_wordsFor_28 rfl (lv_at hl 0 rfl) ?_
  refine va_get (D := D) (ci := 12) (v := .ref a_word) (C := RX12) (T := TX12) (N := 37) hx hb hT i_X12 hown hK hP 1 rfl rfl 19 (by decide) (hT _ q_184) (fun _ h9 => h9) rfl dX12_wordsFor_29 ?_
  refine lv_bipush (v := 8) hx hb dX12_wordsFor_32 (by decide) ?_
  refine lv_aload_n hx hb dX12_wordsFor_34 rfl (lv_at hl 0 rfl) ?_
  refine lv_iload_n hx hb dX12_wordsFor_35 rfl (lv_at hl 2 rfl) ?_
  refine lv_iconst (v := 1) hx hb dX12_wordsFor_36 (by decide) ?_
  refine va_calli (va_runV (As := [.int p1, .int 1]) (rest := [.int 8, .ref a_word]) ⟨hx, hb, hml, hown, hT⟩ (c_X12_halfOf l D cs kK kV a p1 1 a_tape a__taped a__rules a_sign a_length a_clause a_clauses a_read a__next a__wrong a__number a__text a__made a__deep a__lines a_open a__opened a_stack a__top a_word a_said a__x a_worth a_mate a_wasSaid a__undone a__boughtNow a_wayBy a_wayThen a__walkMost a__walkGoing a__walkSet a_kept a__drawX a_images a_imageX a_isMade a_said_c h_p1 ((iv_c (by decide))) h_a__taped h_a__rules h_a__next h_a__text h_a__made h_a__lines h_a__opened h_a__top h_a__x h_a__undone) (cwV 2 hT (hz_gV q_1104 q_1105 q_1106 q_701 q_1107) rfl rfl rfl (by decide +kernel) ⟨(Nat.le_of_ble_eq_true rfl), (Nat.le_of_ble_eq_true rfl)⟩) ⟨hz_P.blind, va_recv hK hP (ci := 12) (q0 := 1) rfl rfl, hz_P.mk (hP.sub (ws' := [(a, .inr (12, [.ref a_tape, .int a__taped, .int a__rules, .ref a_sign, .ref a_length, .ref a_clause, .ref a_clauses, .ref a_read, .int a__next, .int a__wrong, .int a__number, .int a__text, .int a__made, .int a__deep, .int a__lines, .ref a_open, .int a__opened, .ref a_stack, .int a__top, .ref a_word, .ref a_said, .int a__x, .ref a_worth, .ref a_mate, .ref a_wasSaid, .int a__undone, .int a__boughtNow, .ref a_wayBy, .ref a_wayThen, .int a__walkMost, .int a__walkGoing, .int a__walkSet, .ref a_kept, .long a__drawX, .ref a_images, .ref a_imageX, .ref a_isMade])), (a_said, .inl (cs 0, 123, .inl a_said_c))]) [1,0] rfl) hE hS⟩ rfl rfl hl.1 rfl (lv_room (Nat.le_of_ble_eq_true rfl)) dX12_wordsFor_37 ⟨(Nat.le_of_ble_eq_true rfl), (Nat.le_of_ble_eq_true rfl)⟩) hS (fun _ _ h => h.elim) (fun _ h => h.elim) (fun r8 u t H1 locs ht hvm hw hB hz1 hk1 hS => ?_)
  have hP := hz_keep hP hk1
  clear hk1 hB hz1
  generalize H1 = H at hP hS ⊢
  have x9 := hw
  refine lv_i2l (v := r8.toInt64) hx hb dX12_wordsFor_40 rfl ?_
  refine va_last hx hb hK hP hD hS 2 3 rfl rfl (iv_vc (by decide)) dX12_wordsFor_41 (fun H locs hP hD hS => ?_)
  have hP : va_P D classes [(a_said, .inl (cs 0, 123, .inl a_said_c)), (a, .inr (12, [.ref a_tape, .int a__taped, .int a__rules, .ref a_sign, .ref a_length, .ref a_clause, .ref a_clauses, .ref a_read, .int a__next, .int a__wrong, .int a__number, .int a__text, .int a__made, .int a__deep, .int a__lines, .ref a_open, .int a__opened, .ref a_stack, .int a__top, .ref a_word, .ref a_said, .int a__x, .ref a_worth, .ref a_mate, .ref a_wasSaid, .int a__undone, .int a__boughtNow, .ref a_wayBy, .ref a_wayThen, .int a__walkMost, .int a__walkGoing, .int a__walkSet, .ref a_kept, .long a__drawX, .ref a_images, .ref a_imageX, .ref a_isMade])), (a_word, .inl (cs 3, 13, .inr (.inl (vp_updL f7 (Int32.toNatClampNeg (8 : Int32)) r8.toInt64))))] H := hP
  have hD : va_D A [(a_said, .inl (cs 0, 123, .inl a_said_c)), (a, .inr (12, [.ref a_tape, .int a__taped, .int a__rules, .ref a_sign, .ref a_length, .ref a_clause, .ref a_clauses, .ref a_read, .int a__next, .int a__wrong, .int a__number, .int a__text, .int a__made, .int a__deep, .int a__lines, .ref a_open, .int a__opened, .ref a_stack, .int a__top, .ref a_word, .ref a_said, .int a__x, .ref a_worth, .ref a_mate, .ref a_wasSaid, .int a__undone, .int a__boughtNow, .ref a_wayBy, .ref a_wayThen, .int a__walkMost, .int a__walkGoing, .int a__walkSet, .ref a_kept, .long a__drawX, .ref a_images, .ref a_imageX, .ref a_isMade])), (a_word, .inl (cs 3, 13, .inr (.inl (vp_updL f7 (Int32.toNatClampNeg (8 : Int32)) r8.toInt64))))] := hD
  generalize vp_updL f7 (Int32.toNatClampNeg (8 : Int32)) r8.toInt64 = f10 at hP hD
  refine lv_aload_n hx hb dX12_wordsFor_42 rfl (lv_at hl 0 rfl) ?_
  refine va_get (D := D) (ci := 12) (v := .ref a_word) (C := RX12) (T := TX12) (N := 37) hx hb hT i_X12 hown hK hP 1 rfl rfl 19 (by decide) (hT _ q_184) (fun _ h9 => h9) rfl dX12_wordsFor_43 ?_
  refine lv_bipush (v := 9) hx hb dX12_wordsFor_46 (by decide) ?_
  refine lv_aload_n hx hb dX12_wordsFor_48 rfl (lv_at hl 0 rfl) ?_
  refine lv_iload_n hx hb dX12_wordsFor_49 rfl (lv_at hl 2 rfl) ?_
  refine va_calli (va_runV (As := [.int p1]) (rest := [.int 9, .ref a_word]) ⟨hx, hb, hml, hown, hT⟩ (c_X12_priceOf l D cs kK kV a p1 a_tape a__taped a__rules a_sign a_length a_clause a_clauses a_read a__next a__wrong a__number a__text a__made a__deep a__lines a_open a__opened a_stack a__top a_word a_said a__x a_worth a_mate a_wasSaid a__undone a__boughtNow a_wayBy a_wayThen a__walkMost a__walkGoing a__walkSet a_kept a__drawX a_images a_imageX a_isMade a_said_c h_p1 h_a__taped h_a__rules h_a__next h_a__text h_a__made h_a__lines h_a__opened h_a__top h_a__x h_a__undone) (cwV 1 hT (hz_gV q_1152 q_1153 q_1154 q_701 q_1155) rfl rfl rfl (by decide +kernel) ⟨(Nat.le_of_ble_eq_true rfl), (Nat.le_of_ble_eq_true rfl)⟩) ⟨hz_P.blind, va_recv hK hP (ci := 12) (q0 := 1) rfl rfl, hz_P.mk (hP.sub (ws' := [(a, .inr (12, [.ref a_tape, .int a__taped, .int a__rules, .ref a_sign, .ref a_length, .ref a_clause, .ref a_clauses, .ref a_read, .int a__next, .int a__wrong, .int a__number, .int a__text, .int a__made, .int a__deep, .int a__lines, .ref a_open, .int a__opened, .ref a_stack, .int a__top, .ref a_word, .ref a_said, .int a__x, .ref a_worth, .ref a_mate, .ref a_wasSaid, .int a__undone, .int a__boughtNow, .ref a_wayBy, .ref a_wayThen, .int a__walkMost, .int a__walkGoing, .int a__walkSet, .ref a_kept, .long a__drawX, .ref a_images, .ref a_imageX, .ref a_isMade])), (a_said, .inl (cs 0, 123, .inl a_said_c))]) [1,0] rfl) hE hS⟩ rfl rfl hl.1 rfl (lv_room (Nat.le_of_ble_eq_true rfl)) dX12_wordsFor_50 ⟨(Nat.le_of_ble_eq_true rfl), (Nat.le_of_ble_eq_true rfl)⟩) hS (fun _ _ h => h.elim) (fun _ h => h.elim) (fun r11 u t H1 locs ht hvm hw hB hz1 hk1 hS => ?_)
  have hP := hz_keep hP hk1
  clear hk1 hB hz1
  generalize H1 = H at hP hS ⊢
  refine lv_i2l (v := r11.toInt64) hx hb dX12_wordsFor_53 rfl ?_
  refine va_last hx hb hK hP hD hS 2 3 rfl rfl (iv_vc (by decide)) dX12_wordsFor_54 (fun H locs hP hD hS => ?_)
  have hP : va_P D classes [(a_said, .inl (cs 0, 123, .inl a_said_c)), (a, .inr (12, [.ref a_tape, .int a__taped, .int a__rules, .ref a_sign, .ref a_length, .ref a_clause, .ref a_clauses, .ref a_read, .int a__next, .int a__wrong, .int a__number, .int a__text, .int a__made, .int a__deep, .int a__lines, .ref a_open, .int a__opened, .ref a_stack, .int a__top, .ref a_word, .ref a_said, .int a__x, .ref a_worth, .ref a_mate, .ref a_wasSaid, .int a__undone, .int a__boughtNow, .ref a_wayBy, .ref a_wayThen, .int a__walkMost, .int a__walkGoing, .int a__walkSet, .ref a_kept, .long a__drawX, .ref a_images, .ref a_imageX, .ref a_isMade])), (a_word, .inl (cs 3, 13, .inr (.inl (vp_updL f10 (Int32.toNatClampNeg (9 : Int32)) r11.toInt64))))] H := hP
  have hD : va_D A [(a_said, .inl (cs 0, 123, .inl a_said_c)), (a, .inr (12, [.ref a_tape, .int a__taped, .int a__rules, .ref a_sign, .ref a_length, .ref a_clause, .ref a_clauses, .ref a_read, .int a__next, .int a__wrong, .int a__number, .int a__text, .int a__made, .int a__deep, .int a__lines, .ref a_open, .int a__opened, .ref a_stack, .int a__top, .ref a_word, .ref a_said, .int a__x, .ref a_worth, .ref a_mate, .ref a_wasSaid, .int a__undone, .int a__boughtNow, .ref a_wayBy, .ref a_wayThen, .int a__walkMost, .int a__walkGoing, .int a__walkSet, .ref a_kept, .long a__drawX, .ref a_images, .ref a_imageX, .ref a_isMade])), (a_word, .inl (cs 3, 13, .inr (.inl (vp_updL f10 (Int32.toNatClampNeg (9 : Int32)) r11.toInt64))))] := hD
  generalize vp_updL f10 (Int32.toNatClampNeg (9 : Int32)) r11.toInt64 = f12 at hP hD
  refine lv_aload_n hx hb dX12_wordsFor_55 rfl (lv_at hl 0 rfl) ?_
  refine va_get (D := D) (ci := 12) (v := .ref a_word) (C := RX12) (T := TX12) (N := 37) hx hb hT i_X12 hown hK hP 1 rfl rfl 19 (by decide) (hT _ q_184) (fun _ h9 => h9) rfl dX12_wordsFor_56 ?_
  refine lv_bipush (v := 10) hx hb dX12_wordsFor_59 (by decide) ?_
  refine lv_aload_n hx hb dX12_wordsFor_61 rfl (lv_at hl 0 rfl) ?_
  refine lv_aload_n hx hb dX12_wordsFor_62 rfl (lv_at hl 0 rfl) ?_
  refine lv_iload_n hx hb dX12_wordsFor_63 rfl (lv_at hl 1 rfl) ?_
  refine va_calli (va_runV (As := [.int p0]) (rest := [.ref a, .int 10, .ref a_word]) ⟨hx, hb, hml, hown, hT⟩ (c_X12_hasOf l D cs kK kV a p0 a_said a_said_c a_tape a__taped a__rules a_sign a_length a_clause a_clauses a_read a__next a__wrong a__number a__text a__made a__deep a__lines a_open a__opened a_stack a__top a_word a__x a_worth a_mate a_wasSaid a__undone a__boughtNow a_wayBy a_wayThen a__walkMost a__walkGoing a__walkSet a_kept a__drawX a_images a_imageX a_isMade h_a__taped h_a__rules h_a__next h_a__text h_a__made h_a__lines h_a__opened h_a__top h_a__x h_a__undone hf0) (cwV 1 hT (hz_gV q_1160 q_1161 q_1162 q_701 q_1163) rfl rfl rfl (by decide +kernel) ⟨(Nat.le_of_ble_eq_true rfl), (Nat.le_of_ble_eq_true rfl)⟩) ⟨hz_P.blind, va_recv hK hP (ci := 12) (q0 := 1) rfl rfl, hz_P.mk (hP.sub (ws' := [(a_said, .inl (cs 0, 123, .inl a_said_c)), (a, .inr (12, [.ref a_tape, .int a__taped, .int a__rules, .ref a_sign, .ref a_length, .ref a_clause, .ref a_clauses, .ref a_read, .int a__next, .int a__wrong, .int a__number, .int a__text, .int a__made, .int a__deep, .int a__lines, .ref a_open, .int a__opened, .ref a_stack, .int a__top, .ref a_word, .ref a_said, .int a__x, .ref a_worth, .ref a_mate, .ref a_wasSaid, .int a__undone, .int a__boughtNow, .ref a_wayBy, .ref a_wayThen, .int a__walkMost, .int a__walkGoing, .int a__walkSet, .ref a_kept, .long a__drawX, .ref a_images, .ref a_imageX, .ref a_isMade]))]) [0,1] rfl) hE hS⟩ rfl rfl hl.1 rfl (lv_room (Nat.le_of_ble_eq_true rfl)) dX12_wordsFor_64 ⟨(Nat.le_of_ble_eq_true rfl), (Nat.le_of_ble_eq_true rfl)⟩) hS (fun _ _ h => h.elim) (fun _ h => h.elim) (fun r13 u t H1 locs ht hvm hw hB hz1 hk1 hS => ?_)
  have hP := hz_keep hP hk1
  clear hk1 hB hz1
  generalize H1 = H at hP hS ⊢
  have hw_r13 := hw
  refine lv_iload_n hx hb dX12_wordsFor_67 rfl (lv_at hl 2 rfl) ?_
  refine lv_iconst (v := 2) hx hb dX12_wordsFor_68 (by decide) ?_
  refine va_calli (va_runV (As := [.int r13, .int p1, .int 2]) (rest := [.int 10, .ref a_word]) ⟨hx, hb, hml, hown, hT⟩ (c_X12_fitting l D cs kK kV a r13 p1 2 a_said a_said_c a_tape a__taped a__rules a_sign a_length a_clause a_clauses a_read a__next a__wrong a__number a__text a__made a__deep a__lines a_open a__opened a_stack a__top a_word a__x a_worth a_mate a_wasSaid a__undone a__boughtNow a_wayBy a_wayThen a__walkMost a__walkGoing a__walkSet a_kept a__drawX a_images a_imageX a_isMade h_p1 h_a__taped h_a__rules h_a__next h_a__text h_a__made h_a__lines h_a__opened h_a__top h_a__x h_a__undone hf0) (cwV 3 hT (hz_gV q_1203 q_1204 q_1205 q_701 q_1206) rfl rfl rfl (by decide +kernel) ⟨(Nat.le_of_ble_eq_true rfl), (Nat.le_of_ble_eq_true rfl)⟩) ⟨hz_P.blind, va_recv hK hP (ci := 12) (q0 := 1) rfl rfl, hz_P.mk (hP.sub (ws' := [(a_said, .inl (cs 0, 123, .inl a_said_c)), (a, .inr (12, [.ref a_tape, .int a__taped, .int a__rules, .ref a_sign, .ref a_length, .ref a_clause, .ref a_clauses, .ref a_read, .int a__next, .int a__wrong, .int a__number, .int a__text, .int a__made, .int a__deep, .int a__lines, .ref a_open, .int a__opened, .ref a_stack, .int a__top, .ref a_word, .ref a_said, .int a__x, .ref a_worth, .ref a_mate, .ref a_wasSaid, .int a__undone, .int a__boughtNow, .ref a_wayBy, .ref a_wayThen, .int a__walkMost, .int a__walkGoing, .int a__walkSet, .ref a_kept, .long a__drawX, .ref a_images, .ref a_imageX, .ref a_isMade]))]) [0,1] rfl) hE hS⟩ rfl rfl hl.1 rfl (lv_room (Nat.le_of_ble_eq_true rfl)) dX12_wordsFor_69 ⟨(Nat.le_of_ble_eq_true rfl), (Nat.le_of_ble_eq_true rfl)⟩) hS (fun _ _ h => h.elim) (fun _ h => h.elim) (fun r14 u t H1 locs ht hvm hw hB hz1 hk1 hS => ?_)
  have hP := hz_keep hP hk1
  clear hk1 hB hz1
  generalize H1 = H at hP hS ⊢
  refine lv_i2l (v := r14.toInt64) hx hb dX12_wordsFor_72 rfl ?_
  refine va_last hx hb hK hP hD hS 2 3 rfl rfl (iv_vc (by decide)) dX12_wordsFor_73 (fun H locs hP hD hS => ?_)
  have hP : va_P D classes [(a_said, .inl (cs 0, 123, .inl a_said_c)), (a, .inr (12, [.ref a_tape, .int a__taped, .int a__rules, .ref a_sign, .ref a_length, .ref a_clause, .ref a_clauses, .ref a_read, .int a__next, .int a__wrong, .int a__number, .int a__text, .int a__made, .int a__deep, .int a__lines, .ref a_open, .int a__opened, .ref a_stack, .int a__top, .ref a_word, .ref a_said, .int a__x, .ref a_worth, .ref a_mate, .ref a_wasSaid, .int a__undone, .int a__boughtNow, .ref a_wayBy, .ref a_wayThen, .int a__walkMost, .int a__walkGoing, .int a__walkSet, .ref a_kept, .long a__drawX, .ref a_images, .ref a_imageX, .ref a_isMade])), (a_word, .inl (cs 3, 13, .inr (.inl (vp_updL f12 (Int32.toNatClampNeg (10 : Int32)) r14.toInt64))))] H := hP
  have hD : va_D A [(a_said, .inl (cs 0, 123, .inl a_said_c)), (a, .inr (12, [.ref a_tape, .int a__taped, .int a__rules, .ref a_sign, .ref a_length, .ref a_clause, .ref a_clauses, .ref a_read, .int a__next, .int a__wrong, .int a__number, .int a__text, .int a__made, .int a__deep, .int a__lines, .ref a_open, .int a__opened, .ref a_stack, .int a__top, .ref a_word, .ref a_said, .int a__x, .ref a_worth, .ref a_mate, .ref a_wasSaid, .int a__undone, .int a__boughtNow, .ref a_wayBy, .ref a_wayThen, .int a__walkMost, .int a__walkGoing, .int a__walkSet, .ref a_kept, .long a__drawX, .ref a_images, .ref a_imageX, .ref a_isMade])), (a_word, .inl (cs 3, 13, .inr (.inl (vp_updL f12 (Int32.toNatClampNeg (10 : Int32)) r14.toInt64))))] := hD
  generalize vp_updL f12 (Int32.toNatClampNeg (10 : Int32)) r14.toInt64 = f15 at hP hD
  refine lv_aload_n hx hb dX12_wordsFor_74 rfl (lv_at hl 0 rfl) ?_
  refine va_get (D := D) (ci := 12) (v := .ref a_word) (C := RX12) (T := TX12) (N := 37) hx hb hT i_X12 hown hK hP 1 rfl rfl 19 (by decide) (hT _ q_184) (fun _ h9 => h9) rfl dX12_wordsFor_75 ?_
  refine lv_bipush (v := 11) hx hb dX12_wordsFor_78 (by decide) ?_
  refine lv_aload_n hx hb dX12_wordsFor_80 rfl (lv_at hl 0 rfl) ?_
  refine lv_aload_n hx hb dX12_wordsFor_81 rfl (lv_at hl 0 rfl) ?_
  refine lv_iload_n hx hb dX12_wordsFor_82 rfl (lv_at hl 1 rfl) ?_
  refine va_calli (va_runV (As := [.int p0]) (rest := [.ref a, .int 11, .ref a_word]) ⟨hx, hb, hml, hown, hT⟩ (c_X12_hasOf l D cs kK kV a p0 a_said a_said_c a_tape a__taped a__rules a_sign a_length a_clause a_clauses a_read a__next a__wrong a__number a__text a__made a__deep a__lines a_open a__opened a_stack a__top a_word a__x a_worth a_mate a_wasSaid a__undone a__boughtNow a_wayBy a_wayThen a__walkMost a__walkGoing a__walkSet a_kept a__drawX a_images a_imageX a_isMade h_a__taped h_a__rules h_a__next h_a__text h_a__made h_a__lines h_a__opened h_a__top h_a__x h_a__undone hf0) (cwV 1 hT (hz_gV q_1160 q_1161 q_1162 q_701 q_1163) rfl rfl rfl (by decide +kernel) ⟨(Nat.le_of_ble_eq_true rfl), (Nat.le_of_ble_eq_true rfl)⟩) ⟨hz_P.blind, va_recv hK hP (ci := 12) (q0 := 1) rfl rfl, hz_P.mk (hP.sub (ws' := [(a_said, .inl (cs 0, 123, .inl a_said_c)), (a, .inr (12, [.ref a_tape, .int a__taped, .int a__rules, .ref a_sign, .ref a_length, .ref a_clause, .ref a_clauses, .ref a_read, .int a__next, .int a__wrong, .int a__number, .int a__text, .int a__made, .int a__deep, .int a__lines, .ref a_open, .int a__opened, .ref a_stack, .int a__top, .ref a_word, .ref a_said, .int a__x, .ref a_worth, .ref a_mate, .ref a_wasSaid, .int a__undone, .int a__boughtNow, .ref a_wayBy, .ref a_wayThen, .int a__walkMost, .int a__walkGoing, .int a__walkSet, .ref a_kept, .long a__drawX, .ref a_images, .ref a_imageX, .ref a_isMade]))]) [0,1] rfl) hE hS⟩ rfl rfl hl.1 rfl (lv_room (Nat.le_of_ble_eq_true rfl)) dX12_wordsFor_83 ⟨(Nat.le_of_ble_eq_true rfl), (Nat.le_of_ble_eq_true rfl)⟩) hS (fun _ _ h => h.elim) (fun _ h => h.elim) (fun r16 u t H1 locs ht hvm hw hB hz1 hk1 hS => ?_)
  have hP := hz_keep hP hk1
  clear hk1 hB hz1
  generalize H1 = H at hP hS ⊢
  have hw_r16 := hw
  refine lv_iload_n hx hb dX12_wordsFor_86 rfl (lv_at hl 2 rfl) ?_
  refine lv_iconst (v := 1) hx hb dX12_wordsFor_87 (by decide) ?_
  refine va_calli (va_runV (As := [.int r16, .int p1, .int 1]) (rest := [.int 11, .ref a_word]) ⟨hx, hb, hml, hown, hT⟩ (c_X12_fitting l D cs kK kV a r16 p1 1 a_said a_said_c a_tape a__taped a__rules a_sign a_length a_clause a_clauses a_read a__next a__wrong a__number a__text a__made a__deep a__lines a_open a__opened a_stack a__top a_word a__x a_worth a_mate a_wasSaid a__undone a__boughtNow a_wayBy a_wayThen a__walkMost a__walkGoing a__walkSet a_kept a__drawX a_images a_imageX a_isMade h_p1 h_a__taped h_a__rules h_a__next h_a__text h_a__made h_a__lines h_a__opened h_a__top h_a__x h_a__undone hf0) (cwV 3 hT (hz_gV q_1203 q_1204 q_1205 q_701 q_1206) rfl rfl rfl (by decide +kernel) ⟨(Nat.le_of_ble_eq_true rfl), (Nat.le_of_ble_eq_true rfl)⟩) ⟨hz_P.blind, va_recv hK hP (ci := 12) (q0 := 1) rfl rfl, hz_P.mk (hP.sub (ws' := [(a_said, .inl (cs 0, 123, .inl a_said_c)), (a, .inr (12, [.ref a_tape, .int a__taped, .int a__rules, .ref a_sign, .ref a_length, .ref a_clause, .ref a_clauses, .ref a_read, .int a__next, .int a__wrong, .int a__number, .int a__text, .int a__made, .int a__deep, .int a__lines, .ref a_open, .int a__opened, .ref a_stack, .int a__top, .ref a_word, .ref a_said, .int a__x, .ref a_worth, .ref a_mate, .ref a_wasSaid, .int a__undone, .int a__boughtNow, .ref a_wayBy, .ref a_wayThen, .int a__walkMost, .int a__walkGoing, .int a__walkSet, .ref a_kept, .long a__drawX, .ref a_images, .ref a_imageX, .ref a_isMade]))]) [0,1] rfl) hE hS⟩ rfl rfl hl.1 rfl (lv_room (Nat.le_of_ble_eq_true rfl)) dX12_wordsFor_88 ⟨(Nat.le_of_ble_eq_true rfl), (Nat.le_of_ble_eq_true rfl)⟩) hS (fun _ _ h => h.elim) (fun _ h => h.elim) (fun r17 u t H1 locs ht hvm hw hB hz1 hk1 hS => ?_)
  have hP := hz_keep hP hk1
  clear hk1 hB hz1
  generalize H1 = H at hP hS ⊢
  refine lv_i2l (v := r17.toInt64) hx hb dX12_wordsFor_91 rfl ?_
  refine va_last hx hb hK hP hD hS 2 3 rfl rfl (iv_vc (by decide)) dX12_wordsFor_92 (fun H locs hP hD hS => ?_)
  have hP : va_P D classes [(a_said, .inl (cs 0, 123, .inl a_said_c)), (a, .inr (12, [.ref a_tape, .int a__taped, .int a__rules, .ref a_sign, .ref a_length, .ref a_clause, .ref a_clauses, .ref a_read, .int a__next, .int a__wrong, .int a__number, .int a__text, .int a__made, .int a__deep, .int a__lines, .ref a_open, .int a__opened, .ref a_stack, .int a__top, .ref a_word, .ref a_said, .int a__x, .ref a_worth, .ref a_mate, .ref a_wasSaid, .int a__undone, .int a__boughtNow, .ref a_wayBy, .ref a_wayThen, .int a__walkMost, .int a__walkGoing, .int a__walkSet, .ref a_kept, .long a__drawX, .ref a_images, .ref a_imageX, .ref a_isMade])), (a_word, .inl (cs 3, 13, .inr (.inl (vp_updL f15 (Int32.toNatClampNeg (11 : Int32)) r17.toInt64))))] H := hP
  have hD : va_D A [(a_said, .inl (cs 0, 123, .inl a_said_c)), (a, .inr (12, [.ref a_tape, .int a__taped, .int a__rules, .ref a_sign, .ref a_length, .ref a_clause, .ref a_clauses, .ref a_read, .int a__next, .int a__wrong, .int a__number, .int a__text, .int a__made, .int a__deep, .int a__lines, .ref a_open, .int a__opened, .ref a_stack, .int a__top, .ref a_word, .ref a_said, .int a__x, .ref a_worth, .ref a_mate, .ref a_wasSaid, .int a__undone, .int a__boughtNow, .ref a_wayBy, .ref a_wayThen, .int a__walkMost, .int a__walkGoing, .int a__walkSet, .ref a_kept, .long a__drawX, .ref a_images, .ref a_imageX, .ref a_isMade])), (a_word, .inl (cs 3, 13, .inr (.inl (vp_updL f15 (Int32.toNatClampNeg (11 : Int32)) r17.toInt64))))] := hD
  generalize vp_updL f15 (Int32.toNatClampNeg (11 : Int32)) r17.toInt64 = f18 at hP hD
  refine lv_aload_n hx hb dX12_wordsFor_93 rfl (lv_at hl 0 rfl) ?_
  refine va_get (D := D) (ci := 12) (v := .ref a_word) (C := RX12) (T := TX12) (N := 37) hx hb hT i_X12 hown hK hP 1 rfl rfl 19 (by decide) (hT _ q_184) (fun _ h9 => h9) rfl dX12_wordsFor_94 ?_
  refine lv_bipush (v := 12) hx hb dX12_wordsFor_97 (by decide) ?_
  refine lv_aload_n hx hb dX12_wordsFor_99 rfl (lv_at hl 0 rfl) ?_
  refine lv_aload_n hx hb dX12_wordsFor_100 rfl (lv_at hl 0 rfl) ?_
  refine lv_iload_n hx hb dX12_wordsFor_101 rfl (lv_at hl 1 rfl) ?_
  refine va_calli (va_runV (As := [.int p0]) (rest := [.ref a, .int 12, .ref a_word]) ⟨hx, hb, hml, hown, hT⟩ (c_X12_sawOf l D cs kK kV a p0 a_said a_said_c a_tape a__taped a__rules a_sign a_length a_clause a_clauses a_read a__next a__wrong a__number a__text a__made a__deep a__lines a_open a__opened a_stack a__top a_word a__x a_worth a_mate a_wasSaid a__undone a__boughtNow a_wayBy a_wayThen a__walkMost a__walkGoing a__walkSet a_kept a__drawX a_images a_imageX a_isMade h_p0 h_a__taped h_a__rules h_a__next h_a__text h_a__made h_a__lines h_a__opened h_a__top h_a__x h_a__undone hf0) (cwV 1 hT (hz_gV q_1164 q_1165 q_1166 q_701 q_1167) rfl rfl rfl (by decide +kernel) ⟨(Nat.le_of_ble_eq_true rfl), (Nat.le_of_ble_eq_true rfl)⟩) ⟨hz_P.blind, va_recv hK hP (ci := 12) (q0 := 1) rfl rfl, hz_P.mk (hP.sub (ws' := [(a_said, .inl (cs 0, 123, .inl a_said_c)), (a, .inr (12, [.ref a_tape, .int a__taped, .int a__rules, .ref a_sign, .ref a_length, .ref a_clause, .ref a_clauses, .ref a_read, .int a__next, .int a__wrong, .int a__number, .int a__text, .int a__made, .int a__deep, .int a__lines, .ref a_open, .int a__opened, .ref a_stack, .int a__top, .ref a_word, .ref a_said, .int a__x, .ref a_worth, .ref a_mate, .ref a_wasSaid, .int a__undone, .int a__boughtNow, .ref a_wayBy, .ref a_wayThen, .int a__walkMost, .int a__walkGoing, .int a__walkSet, .ref a_kept, .long a__drawX, .ref a_images, .ref a_imageX, .ref a_isMade]))]) [0,1] rfl) hE hS⟩ rfl rfl hl.1 rfl (lv_room (Nat.le_of_ble_eq_true rfl)) dX12_wordsFor_102 ⟨(Nat.le_of_ble_eq_true rfl), (Nat.le_of_ble_eq_true rfl)⟩) hS (fun _ _ h => h.elim) (fun _ h => h.elim) (fun r19 u t H1 locs ht hvm hw hB hz1 hk1 hS => ?_)
  have hP := hz_keep hP hk1
  clear hk1 hB hz1
  generalize H1 = H at hP hS ⊢
  refine lv_aload_n hx hb dX12_wordsFor_105 rfl (lv_at hl 0 rfl) ?_
  refine va_calli (va_runV (As := []) (rest := [.int r19, .ref a, .int 12, .ref a_word]) ⟨hx, hb, hml, hown, hT⟩ (c_X12_atStalls l D cs kK kV a a_said a_said_c a_tape a__taped a__rules a_sign a_length a_clause a_clauses a_read a__next a__wrong a__number a__text a__made a__deep a__lines a_open a__opened a_stack a__top a_word a__x a_worth a_mate a_wasSaid a__undone a__boughtNow a_wayBy a_wayThen a__walkMost a__walkGoing a__walkSet a_kept a__drawX a_images a_imageX a_isMade h_a__taped h_a__rules h_a__next h_a__text h_a__made h_a__lines h_a__opened h_a__top h_a__x h_a__undone hf0) (cwV 0 hT (hz_gV q_1207 q_1208 q_1209 q_701 q_1210) rfl rfl rfl (by decide +kernel) ⟨(Nat.le_of_ble_eq_true rfl), (Nat.le_of_ble_eq_true rfl)⟩) ⟨hz_P.blind, va_recv hK hP (ci := 12) (q0 := 1) rfl rfl, hz_P.mk (hP.sub (ws' := [(a_said, .inl (cs 0, 123, .inl a_said_c)), (a, .inr (12, [.ref a_tape, .int a__taped, .int a__rules, .ref a_sign, .ref a_length, .ref a_clause, .ref a_clauses, .ref a_read, .int a__next, .int a__wrong, .int a__number, .int a__text, .int a__made, .int a__deep, .int a__lines, .ref a_open, .int a__opened, .ref a_stack, .int a__top, .ref a_word, .ref a_said, .int a__x, .ref a_worth, .ref a_mate, .ref a_wasSaid, .int a__undone, .int a__boughtNow, .ref a_wayBy, .ref a_wayThen, .int a__walkMost, .int a__walkGoing, .int a__walkSet, .ref a_kept, .long a__drawX, .ref a_images, .ref a_imageX, .ref a_isMade]))]) [0,1] rfl) hE hS⟩ rfl rfl hl.1 rfl (lv_room (Nat.le_of_ble_eq_true rfl)) dX12_wordsFor_106 ⟨(Nat.le_of_ble_eq_true rfl), (Nat.le_of_ble_eq_true rfl)⟩) hS (fun _ _ h => h.elim) (fun _ h => h.elim) (fun r20 u t H1 locs ht hvm hw hB hz1 hk1 hS => ?_)
  have hP := hz_keep hP hk1
  clear hk1 hB hz1
  generalize H1 = H at hP hS ⊢
  have hw_r20 := hw
  refine lv_iand hx hb dX12_wordsFor_109 ?_
  refine lv_topi (fun v21 ev21 => ?_)
  have hv21 : IV 0 4095 v21 := iv_and2 ev21 hw_r20
  have ii22 : 0 ≤ v21.toInt ∧ v21.toInt ≤ 4095 := hv21
  refine lv_iload_n hx hb dX12_wordsFor_110 rfl (lv_at hl 2 rfl) ?_
  refine lv_iconst (v := 2) hx hb dX12_wordsFor_111 (by decide) ?_
  refine va_calli (va_runV (As := [.int v21, .int p1, .int 2]) (rest := [.int 12, .ref a_word]) ⟨hx, hb, hml, hown, hT⟩ (c_X12_fitting l D cs kK kV a v21 p1 2 a_said a_said_c a_tape a__taped a__rules a_sign a_length a_clause a_clauses a_read a__next a__wrong a__number a__text a__made a__deep a__lines a_open a__opened a_stack a__top a_word a__x a_worth a_mate a_wasSaid a__undone a__boughtNow a_wayBy a_wayThen a__walkMost a__walkGoing a__walkSet a_kept a__drawX a_images a_imageX a_isMade h_p1 h_a__taped h_a__rules h_a__next h_a__text h_a__made h_a__lines h_a__opened h_a__top h_a__x h_a__undone hf0) (cwV 3 hT (hz_gV q_1203 q_1204 q_1205 q_701 q_1206) rfl rfl rfl (by decide +kernel) ⟨(Nat.le_of_ble_eq_true rfl), (Nat.le_of_ble_eq_true rfl)⟩) ⟨hz_P.blind, va_recv hK hP (ci := 12) (q0 := 1) rfl rfl, hz_P.mk (hP.sub (ws' := [(a_said, .inl (cs 0, 123, .inl a_said_c)), (a, .inr (12, [.ref a_tape, .int a__taped, .int a__rules, .ref a_sign, .ref a_length, .ref a_clause, .ref a_clauses, .ref a_read, .int a__next, .int a__wrong, .int a__number, .int a__text, .int a__made, .int a__deep, .int a__lines, .ref a_open, .int a__opened, .ref a_stack, .int a__top, .ref a_word, .ref a_said, .int a__x, .ref a_worth, .ref a_mate, .ref a_wasSaid, .int a__undone, .int a__boughtNow, .ref a_wayBy, .ref a_wayThen, .int a__walkMost, .int a__walkGoing, .int a__walkSet, .ref a_kept, .long a__drawX, .ref a_images, .ref a_imageX, .ref a_isMade]))]) [0,1] rfl) hE hS⟩ rfl rfl hl.1 rfl (lv_room (Nat.le_of_ble_eq_true rfl)) dX12_wordsFor_112 ⟨(Nat.le_of_ble_eq_true rfl), (Nat.le_of_ble_eq_true rfl)⟩) hS (fun _ _ h => h.elim) (fun _ h => h.elim) (fun r23 u t H1 locs ht hvm hw hB hz1 hk1 hS => ?_)
  have hP := hz_keep hP hk1
  clear hk1 hB hz1
  generalize H1 = H at hP hS ⊢
  refine lv_i2l (v := r23.toInt64) hx hb dX12_wordsFor_115 rfl ?_
  refine va_last hx hb hK hP hD hS 2 3 rfl rfl (iv_vc (by decide)) dX12_wordsFor_116 (fun H locs hP hD hS => ?_)
  have hP : va_P D classes [(a_said, .inl (cs 0, 123, .inl a_said_c)), (a, .inr (12, [.ref a_tape, .int a__taped, .int a__rules, .ref a_sign, .ref a_length, .ref a_clause, .ref a_clauses, .ref a_read, .int a__next, .int a__wrong, .int a__number, .int a__text, .int a__made, .int a__deep, .int a__lines, .ref a_open, .int a__opened, .ref a_stack, .int a__top, .ref a_word, .ref a_said, .int a__x, .ref a_worth, .ref a_mate, .ref a_wasSaid, .int a__undone, .int a__boughtNow, .ref a_wayBy, .ref a_wayThen, .int a__walkMost, .int a__walkGoing, .int a__walkSet, .ref a_kept, .long a__drawX, .ref a_images, .ref a_imageX, .ref a_isMade])), (a_word, .inl (cs 3, 13, .inr (.inl (vp_updL f18 (Int32.toNatClampNeg (12 : Int32)) r23.toInt64))))] H := hP
  have hD : va_D A [(a_said, .inl (cs 0, 123, .inl a_said_c)), (a, .inr (12, [.ref a_tape, .int a__taped, .int a__rules, .ref a_sign, .ref a_length, .ref a_clause, .ref a_clauses, .ref a_read, .int a__next, .int a__wrong, .int a__number, .int a__text, .int a__made, .int a__deep, .int a__lines, .ref a_open, .int a__opened, .ref a_stack, .int a__top, .ref a_word, .ref a_said, .int a__x, .ref a_worth, .ref a_mate, .ref a_wasSaid, .int a__undone, .int a__boughtNow, .ref a_wayBy, .ref a_wayThen, .int a__walkMost, .int a__walkGoing, .int a__walkSet, .ref a_kept, .long a__drawX, .ref a_images, .ref a_imageX, .ref a_isMade])), (a_word, .inl (cs 3, 13, .inr (.inl (vp_updL f18 (Int32.toNatClampNeg (12 : Int32)) r23.toInt64))))] := hD
  generalize vp_updL f18 (Int32.toNatClampNeg (12 : Int32)) r23.toInt64 = f24 at hP hD
  refine W.widen (k := 0) (n := 0) (Nat.le_of_ble_eq_true rfl) (Nat.le_of_ble_eq_true rfl) ?_
  exact W.vret hx hb hr (fun t ht hW => ⟨⟨(fun k => match k with | 0 => 0 | _ => 0, fun _ _ => 0), rfl, (trivial), f24, by rw [ht]; exact hP.sub [0, 1, 2] rfl, hD.sub [0, 1, 2] (by decide) rfl⟩, hS.F ht⟩) hS.2.2 dX12_wordsFor_117
