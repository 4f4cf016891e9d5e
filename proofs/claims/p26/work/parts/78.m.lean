theorem dX12_swap_0 : decode cX12_swap 0 = .ok (.aload_n 0, 1) := by decide +kernel
theorem dX12_swap_1 : decode cX12_swap 1 = .ok (.iload_n 1, 1) := by decide +kernel
theorem dX12_swap_2 : decode cX12_swap 2 = .ok (.iload_n 2, 1) := by decide +kernel
theorem dX12_swap_3 : decode cX12_swap 3 = .ok (.iload_n 3, 1) := by decide +kernel
theorem dX12_swap_4 : decode cX12_swap 4 = .ok (.iload 4, 2) := by decide +kernel
theorem dX12_swap_6 : decode cX12_swap 6 = .ok (.invokevirtual 377, 3) := by decide +kernel
theorem dX12_swap_9 : decode cX12_swap 9 = .ok (.ifCond .eq 18, 3) := by decide +kernel
theorem dX12_swap_12 : decode cX12_swap 12 = .ok (.aload_n 0, 1) := by decide +kernel
theorem dX12_swap_13 : decode cX12_swap 13 = .ok (.iload_n 1, 1) := by decide +kernel
theorem dX12_swap_14 : decode cX12_swap 14 = .ok (.iconst 1, 1) := by decide +kernel
theorem dX12_swap_15 : decode cX12_swap 15 = .ok (.invokevirtual 314, 3) := by decide +kernel
theorem dX12_swap_18 : decode cX12_swap 18 = .ok (.aload_n 0, 1) := by decide +kernel
theorem dX12_swap_19 : decode cX12_swap 19 = .ok (.iload_n 3, 1) := by decide +kernel
theorem dX12_swap_20 : decode cX12_swap 20 = .ok (.iconst 1, 1) := by decide +kernel
theorem dX12_swap_21 : decode cX12_swap 21 = .ok (.invokevirtual 314, 3) := by decide +kernel
theorem dX12_swap_24 : decode cX12_swap 24 = .ok (.if_icmp .eq 5, 3) := by decide +kernel
theorem dX12_swap_27 : decode cX12_swap 27 = .ok (.iconst 0, 1) := by decide +kernel
theorem dX12_swap_28 : decode cX12_swap 28 = .ok (.ireturn, 1) := by decide +kernel
theorem dX12_swap_29 : decode cX12_swap 29 = .ok (.aload_n 0, 1) := by decide +kernel
theorem dX12_swap_30 : decode cX12_swap 30 = .ok (.invokevirtual 356, 3) := by decide +kernel
theorem dX12_swap_33 : decode cX12_swap 33 = .ok (.aload_n 0, 1) := by decide +kernel
theorem dX12_swap_34 : decode cX12_swap 34 = .ok (.getfield 39, 3) := by decide +kernel
theorem dX12_swap_37 : decode cX12_swap 37 = .ok (.bipush 10, 2) := by decide +kernel
theorem dX12_swap_39 : decode cX12_swap 39 = .ok (.iconst 5, 1) := by decide +kernel
theorem dX12_swap_40 : decode cX12_swap 40 = .ok (.iload_n 2, 1) := by decide +kernel
theorem dX12_swap_41 : decode cX12_swap 41 = .ok (.imul, 1) := by decide +kernel
theorem dX12_swap_42 : decode cX12_swap 42 = .ok (.iadd, 1) := by decide +kernel
theorem dX12_swap_43 : decode cX12_swap 43 = .ok (.iconst 3, 1) := by decide +kernel
theorem dX12_swap_44 : decode cX12_swap 44 = .ok (.iadd, 1) := by decide +kernel
theorem dX12_swap_45 : decode cX12_swap 45 = .ok (.bipush 100, 2) := by decide +kernel
theorem dX12_swap_47 : decode cX12_swap 47 = .ok (.iload_n 3, 1) := by decide +kernel
theorem dX12_swap_48 : decode cX12_swap 48 = .ok (.iadd, 1) := by decide +kernel
theorem dX12_swap_49 : decode cX12_swap 49 = .ok (.iastore, 1) := by decide +kernel
theorem dX12_swap_50 : decode cX12_swap 50 = .ok (.aload_n 0, 1) := by decide +kernel
theorem dX12_swap_51 : decode cX12_swap 51 = .ok (.getfield 39, 3) := by decide +kernel
theorem dX12_swap_54 : decode cX12_swap 54 = .ok (.bipush 10, 2) := by decide +kernel
theorem dX12_swap_56 : decode cX12_swap 56 = .ok (.iconst 5, 1) := by decide +kernel
theorem dX12_swap_57 : decode cX12_swap 57 = .ok (.iload 4, 2) := by decide +kernel
theorem dX12_swap_59 : decode cX12_swap 59 = .ok (.imul, 1) := by decide +kernel
theorem dX12_swap_60 : decode cX12_swap 60 = .ok (.iadd, 1) := by decide +kernel
theorem dX12_swap_61 : decode cX12_swap 61 = .ok (.iconst 3, 1) := by decide +kernel
theorem dX12_swap_62 : decode cX12_swap 62 = .ok (.iadd, 1) := by decide +kernel
theorem dX12_swap_63 : decode cX12_swap 63 = .ok (.bipush 100, 2) := by decide +kernel
theorem dX12_swap_65 : decode cX12_swap 65 = .ok (.iload_n 1, 1) := by decide +kernel
theorem dX12_swap_66 : decode cX12_swap 66 = .ok (.iadd, 1) := by decide +kernel
theorem dX12_swap_67 : decode cX12_swap 67 = .ok (.iastore, 1) := by decide +kernel
theorem dX12_swap_68 : decode cX12_swap 68 = .ok (.aload_n 0, 1) := by decide +kernel
theorem dX12_swap_69 : decode cX12_swap 69 = .ok (.getfield 39, 3) := by decide +kernel
theorem dX12_swap_72 : decode cX12_swap 72 = .ok (.bipush 70, 2) := by decide +kernel
theorem dX12_swap_74 : decode cX12_swap 74 = .ok (.iconst 4, 1) := by decide +kernel
theorem dX12_swap_75 : decode cX12_swap 75 = .ok (.iload_n 1, 1) := by decide +kernel
theorem dX12_swap_76 : decode cX12_swap 76 = .ok (.imul, 1) := by decide +kernel
theorem dX12_swap_77 : decode cX12_swap 77 = .ok (.iadd, 1) := by decide +kernel
theorem dX12_swap_78 : decode cX12_swap 78 = .ok (.iconst 2, 1) := by decide +kernel
theorem dX12_swap_79 : decode cX12_swap 79 = .ok (.iadd, 1) := by decide +kernel
theorem dX12_swap_80 : decode cX12_swap 80 = .ok (.dup2, 1) := by decide +kernel
theorem dX12_swap_81 : decode cX12_swap 81 = .ok (.iaload, 1) := by decide +kernel
theorem dX12_swap_82 : decode cX12_swap 82 = .ok (.iconst 1, 1) := by decide +kernel
theorem dX12_swap_83 : decode cX12_swap 83 = .ok (.iload 4, 2) := by decide +kernel
theorem dX12_swap_85 : decode cX12_swap 85 = .ok (.ishl, 1) := by decide +kernel
theorem dX12_swap_86 : decode cX12_swap 86 = .ok (.ior, 1) := by decide +kernel
theorem dX12_swap_87 : decode cX12_swap 87 = .ok (.iastore, 1) := by decide +kernel
theorem dX12_swap_88 : decode cX12_swap 88 = .ok (.aload_n 0, 1) := by decide +kernel
theorem dX12_swap_89 : decode cX12_swap 89 = .ok (.getfield 39, 3) := by decide +kernel
theorem dX12_swap_92 : decode cX12_swap 92 = .ok (.bipush 70, 2) := by decide +kernel
theorem dX12_swap_94 : decode cX12_swap 94 = .ok (.iconst 4, 1) := by decide +kernel
theorem dX12_swap_95 : decode cX12_swap 95 = .ok (.iload_n 3, 1) := by decide +kernel
theorem dX12_swap_96 : decode cX12_swap 96 = .ok (.imul, 1) := by decide +kernel
theorem dX12_swap_97 : decode cX12_swap 97 = .ok (.iadd, 1) := by decide +kernel
theorem dX12_swap_98 : decode cX12_swap 98 = .ok (.iconst 2, 1) := by decide +kernel
theorem dX12_swap_99 : decode cX12_swap 99 = .ok (.iadd, 1) := by decide +kernel
theorem dX12_swap_100 : decode cX12_swap 100 = .ok (.dup2, 1) := by decide +kernel
theorem dX12_swap_101 : decode cX12_swap 101 = .ok (.iaload, 1) := by decide +kernel
theorem dX12_swap_102 : decode cX12_swap 102 = .ok (.iconst 1, 1) := by decide +kernel
theorem dX12_swap_103 : decode cX12_swap 103 = .ok (.iload_n 2, 1) := by decide +kernel
theorem dX12_swap_104 : decode cX12_swap 104 = .ok (.ishl, 1) := by decide +kernel
theorem dX12_swap_105 : decode cX12_swap 105 = .ok (.ior, 1) := by decide +kernel
theorem dX12_swap_106 : decode cX12_swap 106 = .ok (.iastore, 1) := by decide +kernel
theorem dX12_swap_107 : decode cX12_swap 107 = .ok (.iconst 1, 1) := by decide +kernel
theorem dX12_swap_108 : decode cX12_swap 108 = .ok (.ireturn, 1) := by decide +kernel
set_option maxHeartbeats 4000000 in
set_option maxRecDepth 100000 in
theorem c_X12_swap (l : Launch) (D : va_G) (cs : Nat → ClassId) (kK kV : Nat → Nat) (a : Nat) (p0 : Int32) (p1 : Int32) (p2 : Int32) (p3 : Int32) (a_said : Nat) (a_said_c : Nat → Int32) (a_wasSaid : Nat) (a_wasSaid_c : Nat → Int32) (a_tape : Nat) (a__taped : Int32) (a__rules : Int32) (a_sign : Nat) (a_length : Nat) (a_clause : Nat) (a_clauses : Nat) (a_read : Nat) (a__next : Int32) (a__wrong : Int32) (a__number : Int32) (a__text : Int32) (a__made : Int32) (a__deep : Int32) (a__lines : Int32) (a_open : Nat) (a__opened : Int32) (a_stack : Nat) (a__top : Int32) (a_word : Nat) (a__x : Int32) (a_worth : Nat) (a_mate : Nat) (a__undone : Int32) (a__boughtNow : Int32) (a_wayBy : Nat) (a_wayThen : Nat) (a__walkMost : Int32) (a__walkGoing : Int32) (a__walkSet : Int32) (a_kept : Nat) (a__drawX : Int64) (a_images : Nat) (a_imageX : Nat) (a_isMade : Nat) (h_a__taped : IV 0 400 a__taped) (h_a__rules : IV 0 6 a__rules) (h_a__next : IV 0 400 a__next) (h_a__text : IV 0 6 a__text) (h_a__made : IV 0 60 a__made) (h_a__lines : IV 0 40 a__lines) (h_a__opened : IV 0 400 a__opened) (h_a__top : IV 0 64 a__top) (h_a__x : IV 0 2147483647 a__x) (h_a__undone : IV 0 20 a__undone) (hf0 : BS a_said_c 200) (hf1 : TR a_said_c) (hf2 : (a_said_c 3).toInt ≤ 99) (hf3 : WSN a_wasSaid_c a__undone.toInt) (sz : Nat) : Met l yX12_swap (hz_w yX12_swap cX12_swap 5 (some .boolean)) ({ frames := 2, cells := 0, slots := 0, locals := 46 }) (va_Pc [.ref a, .int p0, .int p1, .int p2, .int p3] (hz_C D cs kK kV sz [(a_said, .inl (cs 0, 123, .inl a_said_c)), (a_wasSaid, .inl (cs 0, 1720, .inl a_wasSaid_c)), (a, .inr (12, [.ref a_tape, .int a__taped, .int a__rules, .ref a_sign, .ref a_length, .ref a_clause, .ref a_clauses, .ref a_read, .int a__next, .int a__wrong, .int a__number, .int a__text, .int a__made, .int a__deep, .int a__lines, .ref a_open, .int a__opened, .ref a_stack, .int a__top, .ref a_word, .ref a_said, .int a__x, .ref a_worth, .ref a_mate, .ref a_wasSaid, .int a__undone, .int a__boughtNow, .ref a_wayBy, .ref a_wayThen, .int a__walkMost, .int a__walkGoing, .int a__walkSet, .ref a_kept, .long a__drawX, .ref a_images, .ref a_imageX, .ref a_isMade]))])) (va_Qi (fun (r : Int32) (u : (Nat → Int32) × (Nat → Nat → Int32)) => (r = 0 ∧ IV (-2147483648) 2147483647 p0 ∧ IV 0 20 (u.1 1) ∧ (BS (u.2 0) 200) ∧ (TR (u.2 0)) ∧ (((u.2 0) 3).toInt ≤ 99) ∧ (WSN (u.2 1) (u.1 1).toInt)) ∨ (r = 1 ∧ IV 0 3 p0 ∧ IV 0 11 p1 ∧ IV 0 3 p2 ∧ IV 0 11 p3 ∧ IV 1 20 (u.1 1) ∧ (BS (u.2 0) 200) ∧ (TR (u.2 0)) ∧ (((u.2 0) 3).toInt ≤ 99) ∧ (WSN (u.2 1) (u.1 1).toInt))) (fun u t => va_P D classes [(a_said, .inl (cs 0, 123, .inl (u.2 0))), (a_wasSaid, .inl (cs 0, 1720, .inl (u.2 1))), (a, .inr (12, [.ref a_tape, .int a__taped, .int a__rules, .ref a_sign, .ref a_length, .ref a_clause, .ref a_clauses, .ref a_read, .int a__next, .int a__wrong, .int a__number, .int a__text, .int a__made, .int a__deep, .int a__lines, .ref a_open, .int a__opened, .ref a_stack, .int a__top, .ref a_word, .ref a_said, .int a__x, .ref a_worth, .ref a_mate, .ref a_wasSaid, .int (u.1 1), .int a__boughtNow, .ref a_wayBy, .ref a_wayThen, .int a__walkMost, .int a__walkGoing, .int a__walkSet, .ref a_kept, .long a__drawX, .ref a_images, .ref a_imageX, .ref a_isMade]))] t.heap ∧ va_D (va_A [(a_said, .inl (cs 0, 123, .inl a_said_c)), (a_wasSaid, .inl (cs 0, 1720, .inl a_wasSaid_c)), (a, .inr (12, [.ref a_tape, .int a__taped, .int a__rules, .ref a_sign, .ref a_length, .ref a_clause, .ref a_clauses, .ref a_read, .int a__next, .int a__wrong, .int a__number, .int a__text, .int a__made, .int a__deep, .int a__lines, .ref a_open, .int a__opened, .ref a_stack, .int a__top, .ref a_word, .ref a_said, .int a__x, .ref a_worth, .ref a_mate, .ref a_wasSaid, .int a__undone, .int a__boughtNow, .ref a_wayBy, .ref a_wayThen, .int a__walkMost, .int a__walkGoing, .int a__walkSet, .ref a_kept, .long a__drawX, .ref a_images, .ref a_imageX, .ref a_isMade]))] sz) [(a_said, .inl (cs 0, 123, .inl (u.2 0))), (a_wasSaid, .inl (cs 0, 1720, .inl (u.2 1))), (a, .inr (12, [.ref a_tape, .int a__taped, .int a__rules, .ref a_sign, .ref a_length, .ref a_clause, .ref a_clauses, .ref a_read, .int a__next, .int a__wrong, .int a__number, .int a__text, .int a__made, .int a__deep, .int a__lines, .ref a_open, .int a__opened, .ref a_stack, .int a__top, .ref a_word, .ref a_said, .int a__x, .ref a_worth, .ref a_mate, .ref a_wasSaid, .int (u.1 1), .int a__boughtNow, .ref a_wayBy, .ref a_wayThen, .int a__walkMost, .int a__walkGoing, .int a__walkSet, .ref a_kept, .long a__drawX, .ref a_images, .ref a_imageX, .ref a_isMade]))]) (va_A [(a_said, .inl (cs 0, 123, .inl a_said_c)), (a_wasSaid, .inl (cs 0, 1720, .inl a_wasSaid_c)), (a, .inr (12, [.ref a_tape, .int a__taped, .int a__rules, .ref a_sign, .ref a_length, .ref a_clause, .ref a_clauses, .ref a_read, .int a__next, .int a__wrong, .int a__number, .int a__text, .int a__made, .int a__deep, .int a__lines, .ref a_open, .int a__opened, .ref a_stack, .int a__top, .ref a_word, .ref a_said, .int a__x, .ref a_worth, .ref a_mate, .ref a_wasSaid, .int a__undone, .int a__boughtNow, .ref a_wayBy, .ref a_wayThen, .int a__walkMost, .int a__walkGoing, .int a__walkSet, .ref a_kept, .long a__drawX, .ref a_images, .ref a_imageX, .ref a_isMade]))] sz)) 0 0 (va_A [(a_said, .inl (cs 0, 123, .inl a_said_c)), (a_wasSaid, .inl (cs 0, 1720, .inl a_wasSaid_c)), (a, .inr (12, [.ref a_tape, .int a__taped, .int a__rules, .ref a_sign, .ref a_length, .ref a_clause, .ref a_clauses, .ref a_read, .int a__next, .int a__wrong, .int a__number, .int a__text, .int a__made, .int a__deep, .int a__lines, .ref a_open, .int a__opened, .ref a_stack, .int a__top, .ref a_word, .ref a_said, .int a__x, .ref a_worth, .ref a_mate, .ref a_wasSaid, .int a__undone, .int a__boughtNow, .ref a_wayBy, .ref a_wayThen, .int a__walkMost, .int a__walkGoing, .int a__walkSet, .ref a_kept, .long a__drawX, .ref a_images, .ref a_imageX, .ref a_isMade]))] sz) := by
  refine Met.ofW (cc := cX12_swap) (maxL := 5) (ret := (some .boolean)) (by decide) rfl ?_
  intro p e s m args below meth c s₁ B hml hv
  obtain ⟨rfl, hsz, hP, hD0, hE⟩ := hv
  have hx := B.exec
  have hb := B.bytes
  have hr := B.returns
  have hT : ∀ w ∈ TB, w.before _ s = true := fun w h => atoms_spec (ws := hz_w yX12_swap cX12_swap 5 (some .boolean)) B.pre w (List.mem_cons_of_mem _ h)
  have hown : s.vm.findClass RX12 = some m.cls := findClass_of_methodNamed B.named
  have hlocks := B.notSynchronized
  clear B
  subst hsz
  have hD := hD0.self (sz := s.heap.size)
  generalize hAe : va_A [(a_said, .inl (cs 0, 123, .inl a_said_c)), (a_wasSaid, .inl (cs 0, 1720, .inl a_wasSaid_c)), (a, .inr (12, [.ref a_tape, .int a__taped, .int a__rules, .ref a_sign, .ref a_length, .ref a_clause, .ref a_clauses, .ref a_read, .int a__next, .int a__wrong, .int a__number, .int a__text, .int a__made, .int a__deep, .int a__lines, .ref a_open, .int a__opened, .ref a_stack, .int a__top, .ref a_word, .ref a_said, .int a__x, .ref a_worth, .ref a_mate, .ref a_wasSaid, .int a__undone, .int a__boughtNow, .ref a_wayBy, .ref a_wayThen, .int a__walkMost, .int a__walkGoing, .int a__walkSet, .ref a_kept, .long a__drawX, .ref a_images, .ref a_imageX, .ref a_isMade]))] s.heap.size = A at hD hE ⊢
  have hA : ∀ q : Nat, s.heap.size ≤ q → A q := fun q h => by rw [← hAe]; exact Or.inr h
  clear hAe hD0
  have hS : va_S A s.heap s.heap [] := va_S.rf
  have hK := hE.1
  have hl := lv_entry ([.ref a, .int p0, .int p1, .int p2, .int p3]) (n := 5) (Nat.le_of_ble_eq_true rfl)
  rw [lg_entry_eq]
  generalize (lg_sl ([.ref a, .int p0, .int p1, .int p2, .int p3]) ++ List.replicate (5 - (lg_sl ([.ref a, .int p0, .int p1, .int p2, .int p3])).length) Slot.unset).toArray = ls at hl ⊢
  have hl : lv_has ls 5 [(0, .ref a), (1, .int p0), (2, .int p1), (3, .int p2), (4, .int p3)] := hl
  obtain ⟨H, eH⟩ : ∃ z, z = s.heap := ⟨_, rfl⟩
  have hP : va_P D classes [(a_said, .inl (cs 0, 123, .inl a_said_c)), (a_wasSaid, .inl (cs 0, 1720, .inl a_wasSaid_c)), (a, .inr (12, [.ref a_tape, .int a__taped, .int a__rules, .ref a_sign, .ref a_length, .ref a_clause, .ref a_clauses, .ref a_read, .int a__next, .int a__wrong, .int a__number, .int a__text, .int a__made, .int a__deep, .int a__lines, .ref a_open, .int a__opened, .ref a_stack, .int a__top, .ref a_word, .ref a_said, .int a__x, .ref a_worth, .ref a_mate, .ref a_wasSaid, .int a__undone, .int a__boughtNow, .ref a_wayBy, .ref a_wayThen, .int a__walkMost, .int a__walkGoing, .int a__walkSet, .ref a_kept, .long a__drawX, .ref a_images, .ref a_imageX, .ref a_isMade]))] H := by rw [eH]; exact hP
  have hS : va_S A s.heap H [] := by rw [eH]; exact hS
  rw [← eH]
  clear eH
  obtain ⟨locs, el⟩ : ∃ z : List Loc, z = [] := ⟨_, rfl⟩
  rw [← el] at hS ⊢
  clear el
  have z0 : (0 : Int32).toInt = 0 := by decide
  have z1 : (1 : Int32).toInt = 1 := by decide
  have zm1 : (-1 : Int32).toInt = -1 := by decide
  have i_a__lines : 0 ≤ a__lines.toInt ∧ a__lines.toInt ≤ 40 := h_a__lines
  have i_a__made : 0 ≤ a__made.toInt ∧ a__made.toInt ≤ 60 := h_a__made
  have i_a__next : 0 ≤ a__next.toInt ∧ a__next.toInt ≤ 400 := h_a__next
  have i_a__opened : 0 ≤ a__opened.toInt ∧ a__opened.toInt ≤ 400 := h_a__opened
  have i_a__rules : 0 ≤ a__rules.toInt ∧ a__rules.toInt ≤ 6 := h_a__rules
  have i_a__taped : 0 ≤ a__taped.toInt ∧ a__taped.toInt ≤ 400 := h_a__taped
  have i_a__text : 0 ≤ a__text.toInt ∧ a__text.toInt ≤ 6 := h_a__text
  have i_a__top : 0 ≤ a__top.toInt ∧ a__top.toInt ≤ 64 := h_a__top
  have i_a__undone : 0 ≤ a__undone.toInt ∧ a__undone.toInt ≤ 20 := h_a__undone
  have i_a__x : 0 ≤ a__x.toInt ∧ a__x.toInt ≤ 2147483647 := h_a__x
  refine lv_aload_n hx hb dX12_swap_0 rfl (lv_at hl 0 rfl) ?_
  refine lv_iload_n hx hb dX12_swap_1 rfl (lv_at hl 1 rfl) ?_
  refine lv_iload_n hx hb dX12_swap_2 rfl (lv_at hl 2 rfl) ?_
  refine lv_iload_n hx hb dX12_swap_3 rfl (lv_at hl 3 rfl) ?_
  refine lv_iload hx hb dX12_swap_4 (lv_at hl 4 rfl) ?_
  refine va_calli (va_runV (As := [.int p0, .int p1, .int p2, .int p3]) (rest := []) ⟨hx, hb, hml, hown, hT⟩ (c_X12_areTheirs l D cs kK kV a p0 p1 p2 p3 a_said a_said_c a_tape a__taped a__rules a_sign a_length a_clause a_clauses a_read a__next a__wrong a__number a__text a__made a__deep a__lines a_open a__opened a_stack a__top a_word a__x a_worth a_mate a_wasSaid a__undone a__boughtNow a_wayBy a_wayThen a__walkMost a__walkGoing a__walkSet a_kept a__drawX a_images a_imageX a_isMade h_a__taped h_a__rules h_a__next h_a__text h_a__made h_a__lines h_a__opened h_a__top h_a__x h_a__undone hf0) (cwV 4 hT (hz_gV q_1195 q_1196 q_1197 q_701 q_1198) rfl rfl rfl (by decide +kernel) ⟨(Nat.le_of_ble_eq_true rfl), (Nat.le_of_ble_eq_true rfl)⟩) ⟨hz_P.blind, va_recv hK hP (ci := 12) (q0 := 2) rfl rfl, hz_P.mk (hP.sub (ws' := [(a_said, .inl (cs 0, 123, .inl a_said_c)), (a, .inr (12, [.ref a_tape, .int a__taped, .int a__rules, .ref a_sign, .ref a_length, .ref a_clause, .ref a_clauses, .ref a_read, .int a__next, .int a__wrong, .int a__number, .int a__text, .int a__made, .int a__deep, .int a__lines, .ref a_open, .int a__opened, .ref a_stack, .int a__top, .ref a_word, .ref a_said, .int a__x, .ref a_worth, .ref a_mate, .ref a_wasSaid, .int a__undone, .int a__boughtNow, .ref a_wayBy, .ref a_wayThen, .int a__walkMost, .int a__walkGoing, .int a__walkSet, .ref a_kept, .long a__drawX, .ref a_images, .ref a_imageX, .ref a_isMade]))]) [0,2] rfl) hE hS⟩ rfl rfl hl.1 rfl (lv_room (Nat.le_of_ble_eq_true rfl)) dX12_swap_6 ⟨(Nat.le_of_ble_eq_true rfl), (Nat.le_of_ble_eq_true rfl)⟩) hS (fun _ _ h => h.elim) (fun _ h => h.elim) (fun r1 u t H1 locs ht hvm hw hB hz1 hk1 hS => ?_)
  have hP := hz_keep hP hk1
  clear hk1 hB hz1
  generalize H1 = H at hP hS ⊢
  rcases hw with ⟨rfl, h2⟩ | ⟨rfl, h3, h4, h5, h6, x7, x8⟩
  · have ii9 : (-2147483648) ≤ p0.toInt ∧ p0.toInt ≤ 2147483647 := h2
    refine lv_if_eq (tgt := 27) hx hb dX12_swap_9 (by decide) (fun _ => ?_) (fun z => absurd (by decide) z)
    refine lv_iconst (v := 0) hx hb dX12_swap_27 (by decide) ?_
    refine W.widen (k := 0) (n := 0) (Nat.le_of_ble_eq_true rfl) (Nat.le_of_ble_eq_true rfl) ?_
    exact W.zret (v := 0) hx hb hr rfl (fun t ht hW => ⟨⟨0, (fun k => match k with | 0 => 0 | 1 => a__undone | _ => 0, fun k => match k with | 0 => a_said_c | 1 => a_wasSaid_c | _ => fun _ => 0), rfl, (Or.inl (⟨rfl, h2, h_a__undone, hf0, hf1, hf2, hf3⟩)), by rw [ht]; exact hP.sub [0, 1, 2] rfl, hD.sub [0, 1, 2] (by decide) rfl⟩, hS.F ht⟩) hS.2.2 dX12_swap_28
  · have ii10 : 0 ≤ p0.toInt ∧ p0.toInt ≤ 3 := h3
    have ii11 : 0 ≤ p1.toInt ∧ p1.toInt ≤ 11 := h4
    have ii12 : 0 ≤ p2.toInt ∧ p2.toInt ≤ 3 := h5
    have ii13 : 0 ≤ p3.toInt ∧ p3.toInt ≤ 11 := h6
    refine lv_if_eq (tgt := 27) hx hb dX12_swap_9 (by decide) (fun z => absurd z (by decide)) (fun _ => ?_)
    refine lv_aload_n hx hb dX12_swap_12 rfl (lv_at hl 0 rfl) ?_
    refine lv_iload_n hx hb dX12_swap_13 rfl (lv_at hl 1 rfl) ?_
    refine lv_iconst (v := 1) hx hb dX12_swap_14 (by decide) ?_
    refine va_calli (va_runV (As := [.int p0, .int 1]) (rest := []) ⟨hx, hb, hml, hown, hT⟩ (c_X12_buyerOf l D cs kK kV a p0 1 a_said a_said_c a_tape a__taped a__rules a_sign a_length a_clause a_clauses a_read a__next a__wrong a__number a__text a__made a__deep a__lines a_open a__opened a_stack a__top a_word a__x a_worth a_mate a_wasSaid a__undone a__boughtNow a_wayBy a_wayThen a__walkMost a__walkGoing a__walkSet a_kept a__drawX a_images a_imageX a_isMade h3 ((iv_c (by decide))) h_a__taped h_a__rules h_a__next h_a__text h_a__made h_a__lines h_a__opened h_a__top h_a__x h_a__undone hf0) (cwV 2 hT (hz_gV q_1120 q_1121 q_1122 q_701 q_1123) rfl rfl rfl (by decide +kernel) ⟨(Nat.le_of_ble_eq_true rfl), (Nat.le_of_ble_eq_true rfl)⟩) ⟨hz_P.blind, va_recv hK hP (ci := 12) (q0 := 2) rfl rfl, hz_P.mk (hP.sub (ws' := [(a_said, .inl (cs 0, 123, .inl a_said_c)), (a, .inr (12, [.ref a_tape, .int a__taped, .int a__rules, .ref a_sign, .ref a_length, .ref a_clause, .ref a_clauses, .ref a_read, .int a__next, .int a__wrong, .int a__number, .int a__text, .int a__made, .int a__deep, .int a__lines, .ref a_open, .int a__opened, .ref a_stack, .int a__top, .ref a_word, .ref a_said, .int a__x, .ref a_worth, .ref a_mate, .ref a_wasSaid, .int a__undone, .int a__boughtNow, .ref a_wayBy, .ref a_wayThen, .int a__walkMost, .int a__walkGoing, .int a__walkSet, .ref a_kept, .long a__drawX, .ref a_images, .ref a_imageX, .ref a_isMade]))]) [0,2] rfl) hE hS⟩ rfl rfl hl.1 rfl (lv_room (Nat.le_of_ble_eq_true rfl)) dX12_swap_15 ⟨(Nat.le_of_ble_eq_true rfl), (Nat.le_of_ble_eq_true rfl)⟩) hS (fun _ _ h => h.elim) (fun _ h => h.elim) (fun r14 u t H1 locs ht hvm hw hB hz1 hk1 hS => ?_)
    have hP := hz_keep hP hk1
    clear hk1 hB hz1
    generalize H1 = H at hP hS ⊢
    rcases hw with ⟨x15, x16⟩
    refine lv_aload_n hx hb dX12_swap_18 rfl (lv_at hl 0 rfl) ?_
    refine lv_iload_n hx hb dX12_swap_19 rfl (lv_at hl 3 rfl) ?_
    refine lv_iconst (v := 1) hx hb dX12_swap_20 (by decide) ?_
    refine va_calli (va_runV (As := [.int p2, .int 1]) (rest := [.int r14]) ⟨hx, hb, hml, hown, hT⟩ (c_X12_buyerOf l D cs kK kV a p2 1 a_said a_said_c a_tape a__taped a__rules a_sign a_length a_clause a_clauses a_read a__next a__wrong a__number a__text a__made a__deep a__lines a_open a__opened a_stack a__top a_word a__x a_worth a_mate a_wasSaid a__undone a__boughtNow a_wayBy a_wayThen a__walkMost a__walkGoing a__walkSet a_kept a__drawX a_images a_imageX a_isMade h5 ((iv_c (by decide))) h_a__taped h_a__rules h_a__next h_a__text h_a__made h_a__lines h_a__opened h_a__top h_a__x h_a__undone hf0) (cwV 2 hT (hz_gV q_1120 q_1121 q_1122 q_701 q_1123) rfl rfl rfl (by decide +kernel) ⟨(Nat.le_of_ble_eq_true rfl), (Nat.le_of_ble_eq_true rfl)⟩) ⟨hz_P.blind, va_recv hK hP (ci := 12) (q0 := 2) rfl rfl, hz_P.mk (hP.sub (ws' := [(a_said, .inl (cs 0, 123, .inl a_said_c)), (a, .inr (12, [.ref a_tape, .int a__taped, .int a__rules, .ref a_sign, .ref a_length, .ref a_clause, .ref a_clauses, .ref a_read, .int a__next, .int a__wrong, .int a__number, .int a__text, .int a__made, .int a__deep, .int a__lines, .ref a_open, .int a__opened, .ref a_stack, .int a__top, .ref a_word, .ref a_said, .int a__x, .ref a_worth, .ref a_mate, .ref a_wasSaid, .int a__undone, .int a__boughtNow, .ref a_wayBy, .ref a_wayThen, .int a__walkMost, .int a__walkGoing, .int a__walkSet, .ref a_kept, .long a__drawX, .ref a_images, .ref a_imageX, .ref a_isMade]))]) [0,2] rfl) hE hS⟩ rfl rfl hl.1 rfl (lv_room (Nat.le_of_ble_eq_true rfl)) dX12_swap_21 ⟨(Nat.le_of_ble_eq_true rfl), (Nat.le_of_ble_eq_true rfl)⟩) hS (fun _ _ h => h.elim) (fun _ h => h.elim) (fun r17 u t H1 locs ht hvm hw hB hz1 hk1 hS => ?_)
    have hP := hz_keep hP hk1
    clear hk1 hB hz1
    generalize H1 = H at hP hS ⊢
    rcases hw with ⟨x18, x19⟩
    refine lv_icmp_eq (tgt := 29) hx hb dX12_swap_24 (by decide) (fun c20 => ?_) (fun c20 => ?_)
    · have t21 : r14.toInt = r17.toInt := lin_eq c20 rfl rfl
      refine lv_aload_n hx hb dX12_swap_29 rfl (lv_at hl 0 rfl) ?_
      have hFc := va_free (wc := [(a_said, .inl (cs 0, 123, .inl a_said_c)), (a_wasSaid, .inl (cs 0, 1720, .inl a_wasSaid_c)), (a, .inr (12, [.ref a_tape, .int a__taped, .int a__rules, .ref a_sign, .ref a_length, .ref a_clause, .ref a_clauses, .ref a_read, .int a__next, .int a__wrong, .int a__number, .int a__text, .int a__made, .int a__deep, .int a__lines, .ref a_open, .int a__opened, .ref a_stack, .int a__top, .ref a_word, .ref a_said, .int a__x, .ref a_worth, .ref a_mate, .ref a_wasSaid, .int a__undone, .int a__boughtNow, .ref a_wayBy, .ref a_wayThen, .int a__walkMost, .int a__walkGoing, .int a__walkSet, .ref a_kept, .long a__drawX, .ref a_images, .ref a_imageX, .ref a_isMade]))]) hD hS hA [0,1,2] rfl
      refine va_callv (va_runV (As := []) (rest := []) ⟨hx, hb, hml, hown, hT⟩ (c_X12_keepsAct l D cs kK kV a a_said a_said_c a_wasSaid a_wasSaid_c a_tape a__taped a__rules a_sign a_length a_clause a_clauses a_read a__next a__wrong a__number a__text a__made a__deep a__lines a_open a__opened a_stack a__top a_word a__x a_worth a_mate a__undone a__boughtNow a_wayBy a_wayThen a__walkMost a__walkGoing a__walkSet a_kept a__drawX a_images a_imageX a_isMade h_a__taped h_a__rules h_a__next h_a__text h_a__made h_a__lines h_a__opened h_a__top h_a__x h_a__undone ((bs_99 hf0 (by omega))) hf3 H.size) (cwV 0 hT (hz_gV q_1168 q_1169 q_1170 q_701 q_1171) rfl rfl rfl (by decide +kernel) ⟨(Nat.le_of_ble_eq_true rfl), (Nat.le_of_ble_eq_true rfl)⟩) ⟨hz_C.blind, va_recv hK hP (ci := 12) (q0 := 2) rfl rfl, hz_C.mk (hP.sub (ws' := [(a_said, .inl (cs 0, 123, .inl a_said_c)), (a_wasSaid, .inl (cs 0, 1720, .inl a_wasSaid_c)), (a, .inr (12, [.ref a_tape, .int a__taped, .int a__rules, .ref a_sign, .ref a_length, .ref a_clause, .ref a_clauses, .ref a_read, .int a__next, .int a__wrong, .int a__number, .int a__text, .int a__made, .int a__deep, .int a__lines, .ref a_open, .int a__opened, .ref a_stack, .int a__top, .ref a_word, .ref a_said, .int a__x, .ref a_worth, .ref a_mate, .ref a_wasSaid, .int a__undone, .int a__boughtNow, .ref a_wayBy, .ref a_wayThen, .int a__walkMost, .int a__walkGoing, .int a__walkSet, .ref a_kept, .long a__drawX, .ref a_images, .ref a_imageX, .ref a_isMade]))]) [0,1,2] rfl) (hD.sub (ws' := [(a_said, .inl (cs 0, 123, .inl a_said_c)), (a_wasSaid, .inl (cs 0, 1720, .inl a_wasSaid_c)), (a, .inr (12, [.ref a_tape, .int a__taped, .int a__rules, .ref a_sign, .ref a_length, .ref a_clause, .ref a_clauses, .ref a_read, .int a__next, .int a__wrong, .int a__number, .int a__text, .int a__made, .int a__deep, .int a__lines, .ref a_open, .int a__opened, .ref a_stack, .int a__top, .ref a_word, .ref a_said, .int a__x, .ref a_worth, .ref a_mate, .ref a_wasSaid, .int a__undone, .int a__boughtNow, .ref a_wayBy, .ref a_wayThen, .int a__walkMost, .int a__walkGoing, .int a__walkSet, .ref a_kept, .long a__drawX, .ref a_images, .ref a_imageX, .ref a_isMade]))]) [0,1,2] (by decide) rfl) hE hS hFc⟩ rfl rfl hl.1 rfl (lv_room (Nat.le_of_ble_eq_true rfl)) dX12_swap_30 ⟨(Nat.le_of_ble_eq_true rfl), (Nat.le_of_ble_eq_true rfl)⟩) hS (fun q _ h => hFc q h) hFc (fun o23 t H1 locs ht hvm hw hB hz1 hk1 hS => ?_)
      obtain ⟨hP1, hD1⟩ := hB
      rw [ht] at hP1
      obtain ⟨hP, hD⟩ := va_join (wr := []) (w1 := [(a_said, .inl (cs 0, 123, .inl a_said_c)), (a_wasSaid, .inl (cs 0, 1720, .inl (o23.2 0))), (a, .inr (12, [.ref a_tape, .int a__taped, .int a__rules, .ref a_sign, .ref a_length, .ref a_clause, .ref a_clauses, .ref a_read, .int a__next, .int a__wrong, .int a__number, .int a__text, .int a__made, .int a__deep, .int a__lines, .ref a_open, .int a__opened, .ref a_stack, .int a__top, .ref a_word, .ref a_said, .int a__x, .ref a_worth, .ref a_mate, .ref a_wasSaid, .int (o23.1 1), .int a__boughtNow, .ref a_wayBy, .ref a_wayThen, .int a__walkMost, .int a__walkGoing, .int a__walkSet, .ref a_kept, .long a__drawX, .ref a_images, .ref a_imageX, .ref a_isMade]))]) hP hD [0, 1, 2] [] rfl rfl (by decide) (by decide) hk1 hFc hP1 hD1
      generalize H1 = H at hP hS ⊢
      have hP : va_P D classes [(a_said, .inl (cs 0, 123, .inl a_said_c)), (a_wasSaid, .inl (cs 0, 1720, .inl (o23.2 0))), (a, .inr (12, [.ref a_tape, .int a__taped, .int a__rules, .ref a_sign, .ref a_length, .ref a_clause, .ref a_clauses, .ref a_read, .int a__next, .int a__wrong, .int a__number, .int a__text, .int a__made, .int a__deep, .int a__lines, .ref a_open, .int a__opened, .ref a_stack, .int a__top, .ref a_word, .ref a_said, .int a__x, .ref a_worth, .ref a_mate, .ref a_wasSaid, .int (o23.1 1), .int a__boughtNow, .ref a_wayBy, .ref a_wayThen, .int a__walkMost, .int a__walkGoing, .int a__walkSet, .ref a_kept, .long a__drawX, .ref a_images, .ref a_imageX, .ref a_isMade]))] H := hP
      have hD : va_D A [(a_said, .inl (cs 0, 123, .inl a_said_c)), (a_wasSaid, .inl (cs 0, 1720, .inl (o23.2 0))), (a, .inr (12, [.ref a_tape, .int a__taped, .int a__rules, .ref a_sign, .ref a_length, .ref a_clause, .ref a_clauses, .ref a_read, .int a__next, .int a__wrong, .int a__number, .int a__text, .int a__made, .int a__deep, .int a__lines, .ref a_open, .int a__opened, .ref a_stack, .int a__top, .ref a_word, .ref a_said, .int a__x, .ref a_worth, .ref a_mate, .ref a_wasSaid, .int (o23.1 1), .int a__boughtNow, .ref a_wayBy, .ref a_wayThen, .int a__walkMost, .int a__walkGoing, .int a__walkSet, .ref a_kept, .long a__drawX, .ref a_images, .ref a_imageX, .ref a_isMade]))] := hD
      clear hk1 hFc hP1 hD1 hz1
      rcases hw with ⟨h24, x25⟩
      have ii26 : 1 ≤ (o23.1 1).toInt ∧ (o23.1 1).toInt ≤ 20 := h24
      refine lv_aload_n hx hb dX12_swap_33 rfl (lv_at hl 0 rfl) ?_
      refine va_get (D := D) (ci := 12) (v := .ref a_said) (C := RX12) (T := TX12) (N := 37) hx hb hT i_X12 hown hK hP 2 rfl rfl 20 (by decide) (hT _ q_185) (fun _ h9 => h9) rfl dX12_swap_34 ?_
      refine lv_bipush (v := 10) hx hb dX12_swap_37 (by decide) ?_
      refine lv_iconst (v := 5) hx hb dX12_swap_39 (by decide) ?_
      refine lv_iload_n hx hb dX12_swap_40 rfl (lv_at hl 2 rfl) ?_
      refine lv_imul hx hb dX12_swap_41 ?_
      refine lv_topi (fun v27 ev27 => ?_)
      have hv27 : IV 0 55 v27 := iv_mul ev27 (iv_c (a := 5) (b := 5) (by decide)) h4 (by decide) (by decide) (by decide) (by decide)
      have ii28 : 0 ≤ v27.toInt ∧ v27.toInt ≤ 55 := hv27
      have lv27 : v27.toInt = 5 * p1.toInt := lin_mul ev27 (iv_c (a := 5) (b := 5) (by decide)) h4 (by decide) rfl (by decide) (by decide) (by decide) (by decide)
      refine lv_iadd hx hb dX12_swap_42 ?_
      refine lv_topi (fun v29 ev29 => ?_)
      have hv29 : IV 10 65 v29 := iv_add ev29 (iv_c (a := 10) (b := 10) (by decide)) hv27 (by decide) (by decide)
      have ii30 : 10 ≤ v29.toInt ∧ v29.toInt ≤ 65 := hv29
      have lv29 : v29.toInt = 10 + v27.toInt := lin_add ev29 (iv_c (a := 10) (b := 10) (by decide)) hv27 (by decide) rfl (by decide) (by decide)
      refine lv_iconst (v := 3) hx hb dX12_swap_43 (by decide) ?_
      refine lv_iadd hx hb dX12_swap_44 ?_
      refine lv_topi (fun v31 ev31 => ?_)
      have hv31 : IV 13 68 v31 := iv_add ev31 hv29 (iv_c (a := 3) (b := 3) (by decide)) (by decide) (by decide)
      have ii32 : 13 ≤ v31.toInt ∧ v31.toInt ≤ 68 := hv31
      have dv31 : v31.toInt = v29.toInt + 3 := iv_addE ev31 hv29 (iv_c (a := 3) (b := 3) (by decide)) (by decide) (by decide) (by decide)
      have lv31 : v31.toInt = v29.toInt + 3 := lin_add ev31 hv29 (iv_c (a := 3) (b := 3) (by decide)) rfl (by decide) (by decide) (by decide)
      refine lv_bipush (v := 100) hx hb dX12_swap_45 (by decide) ?_
      refine lv_iload_n hx hb dX12_swap_47 rfl (lv_at hl 3 rfl) ?_
      refine lv_iadd hx hb dX12_swap_48 ?_
      refine lv_topi (fun v33 ev33 => ?_)
      have hv33 : IV 100 103 v33 := iv_add ev33 (iv_c (a := 100) (b := 100) (by decide)) h5 (by decide) (by decide)
      have ii34 : 100 ≤ v33.toInt ∧ v33.toInt ≤ 103 := hv33
      have lv33 : v33.toInt = 100 + p2.toInt := lin_add ev33 (iv_c (a := 100) (b := 100) (by decide)) h5 (by decide) rfl (by decide) (by decide)
      refine va_iast hx hb hK hP hD hS 0 0 rfl rfl (iv_v hv31 (by decide) (by decide)) dX12_swap_49 (fun H locs hP hD hS => ?_)
      have hP : va_P D classes [(a_said, .inl (cs 0, 123, .inl (upd a_said_c (Int32.toNatClampNeg v31) v33))), (a_wasSaid, .inl (cs 0, 1720, .inl (o23.2 0))), (a, .inr (12, [.ref a_tape, .int a__taped, .int a__rules, .ref a_sign, .ref a_length, .ref a_clause, .ref a_clauses, .ref a_read, .int a__next, .int a__wrong, .int a__number, .int a__text, .int a__made, .int a__deep, .int a__lines, .ref a_open, .int a__opened, .ref a_stack, .int a__top, .ref a_word, .ref a_said, .int a__x, .ref a_worth, .ref a_mate, .ref a_wasSaid, .int (o23.1 1), .int a__boughtNow, .ref a_wayBy, .ref a_wayThen, .int a__walkMost, .int a__walkGoing, .int a__walkSet, .ref a_kept, .long a__drawX, .ref a_images, .ref a_imageX, .ref a_isMade]))] H := hP
      have hD : va_D A [(a_said, .inl (cs 0, 123, .inl (upd a_said_c (Int32.toNatClampNeg v31) v33))), (a_wasSaid, .inl (cs 0, 1720, .inl (o23.2 0))), (a, .inr (12, [.ref a_tape, .int a__taped, .int a__rules, .ref a_sign, .ref a_length, .ref a_clause, .ref a_clauses, .ref a_read, .int a__next, .int a__wrong, .int a__number, .int a__text, .int a__made, .int a__deep, .int a__lines, .ref a_open, .int a__opened, .ref a_stack, .int a__top, .ref a_word, .ref a_said, .int a__x, .ref a_worth, .ref a_mate, .ref a_wasSaid, .int (o23.1 1), .int a__boughtNow, .ref a_wayBy, .ref a_wayThen, .int a__walkMost, .int a__walkGoing, .int a__walkSet, .ref a_kept, .long a__drawX, .ref a_images, .ref a_imageX, .ref a_isMade]))] := hD
      obtain ⟨f35, uf35⟩ : ∃ z, z = upd a_said_c (Int32.toNatClampNeg v31) v33 := ⟨_, rfl⟩
      rw [← uf35] at hP hD
      have wf35 : (f35 (Int32.toNatClampNeg v31)).toInt = v33.toInt := lin_us uf35 rfl
      have kk36 : (f35 0).toInt = (a_said_c 0).toInt := congrArg Int32.toInt (by rw [uf35, pk_un (show 0 ≠ Int32.toNatClampNeg v31 from by (have q : Int32.toNatClampNeg v31 = v31.toInt.toNat := rfl); omega)])
      have kk37 : (f35 1).toInt = (a_said_c 1).toInt := congrArg Int32.toInt (by rw [uf35, pk_un (show 1 ≠ Int32.toNatClampNeg v31 from by (have q : Int32.toNatClampNeg v31 = v31.toInt.toNat := rfl); omega)])
      have kk38 : (f35 2).toInt = (a_said_c 2).toInt := congrArg Int32.toInt (by rw [uf35, pk_un (show 2 ≠ Int32.toNatClampNeg v31 from by (have q : Int32.toNatClampNeg v31 = v31.toInt.toNat := rfl); omega)])
      have kk39 : (f35 3).toInt = (a_said_c 3).toInt := congrArg Int32.toInt (by rw [uf35, pk_un (show 3 ≠ Int32.toNatClampNeg v31 from by (have q : Int32.toNatClampNeg v31 = v31.toInt.toNat := rfl); omega)])
      have fb40 : BS f35 200 := (bs_upd hf0 uf35 (show Int32.toNatClampNeg v31 ≠ 0 ∧ Int32.toNatClampNeg v31 ≠ 1 ∧ Int32.toNatClampNeg v31 ≠ 2 ∧ Int32.toNatClampNeg v31 ≠ 3 ∧ Int32.toNatClampNeg v31 ≠ 4 ∧ Int32.toNatClampNeg v31 ≠ 71 ∧ Int32.toNatClampNeg v31 ≠ 75 ∧ Int32.toNatClampNeg v31 ≠ 79 ∧ Int32.toNatClampNeg v31 ≠ 83 from by (have q : Int32.toNatClampNeg v31 = v31.toInt.toNat := rfl); omega))
      have fb41 : TR f35 := tr_upd hf1 uf35 (show Int32.toNatClampNeg v31 < 86 from by (have q : Int32.toNatClampNeg v31 = v31.toInt.toNat := rfl); omega)
      refine lv_aload_n hx hb dX12_swap_50 rfl (lv_at hl 0 rfl) ?_
      refine va_get (D := D) (ci := 12) (v := .ref a_said) (C := RX12) (T := TX12) (N := 37) hx hb hT i_X12 hown hK hP 2 rfl rfl 20 (by decide) (hT _ q_185) (fun _ h9 => h9) rfl dX12_swap_51 ?_
      refine lv_bipush (v := 10) hx hb dX12_swap_54 (by decide) ?_
      refine lv_iconst (v := 5) hx hb dX12_swap_56 (by decide) ?_
      refine lv_iload hx hb dX12_swap_57 (lv_at hl 4 rfl) ?_
      refine lv_imul hx hb dX12_swap_59 ?_
      refine lv_topi (fun v42 ev42 => ?_)
      have hv42 : IV 0 55 v42 := iv_mul ev42 (iv_c (a := 5) (b := 5) (by decide)) h6 (by decide) (by decide) (by decide) (by decide)
      have ii43 : 0 ≤ v42.toInt ∧ v42.toInt ≤ 55 := hv42
      have lv42 : v42.toInt = 5 * p3.toInt := lin_mul ev42 (iv_c (a := 5) (b := 5) (by decide)) h6 (by decide) rfl (by decide) (by decide) (by decide) (by decide)
      refine lv_iadd hx hb dX12_swap_60 ?_
      refine lv_topi (fun v44 ev44 => ?_)
      have hv44 : IV 10 65 v44 := iv_add ev44 (iv_c (a := 10) (b := 10) (by decide)) hv42 (by decide) (by decide)
      have ii45 : 10 ≤ v44.toInt ∧ v44.toInt ≤ 65 := hv44
      have lv44 : v44.toInt = 10 + v42.toInt := lin_add ev44 (iv_c (a := 10) (b := 10) (by decide)) hv42 (by decide) rfl (by decide) (by decide)
      refine lv_iconst (v := 3) hx hb dX12_swap_61 (by decide) ?_
      refine lv_iadd hx hb dX12_swap_62 ?_
      refine lv_topi (fun v46 ev46 => ?_)
      have hv46 : IV 13 68 v46 := iv_add ev46 hv44 (iv_c (a := 3) (b := 3) (by decide)) (by decide) (by decide)
      have ii47 : 13 ≤ v46.toInt ∧ v46.toInt ≤ 68 := hv46
      have dv46 : v46.toInt = v44.toInt + 3 := iv_addE ev46 hv44 (iv_c (a := 3) (b := 3) (by decide)) (by decide) (by decide) (by decide)
      have lv46 : v46.toInt = v44.toInt + 3 := lin_add ev46 hv44 (iv_c (a := 3) (b := 3) (by decide)) rfl (by decide) (by decide) (by decide)
      refine lv_bipush (v := 100) hx hb dX12_swap_63 (by decide) ?_
      refine lv_iload_n hx hb dX12_swap_65 rfl (lv_at hl 1 rfl) ?_
      refine lv_iadd hx hb dX12_swap_66 ?_
      refine lv_topi (fun v48 ev48 => ?_)
      have hv48 : IV 100 103 v48 := iv_add ev48 (iv_c (a := 100) (b := 100) (by decide)) h3 (by decide) (by decide)
      have ii49 : 100 ≤ v48.toInt ∧ v48.toInt ≤ 103 := hv48
      have lv48 : v48.toInt = 100 + p0.toInt := lin_add ev48 (iv_c (a := 100) (b := 100) (by decide)) h3 (by decide) rfl (by decide) (by decide)
      refine va_iast hx hb hK hP hD hS 0 0 rfl rfl (iv_v hv46 (by decide) (by decide)) dX12_swap_67 (fun H locs hP hD hS => ?_)
      have hP : va_P D classes [(a_said, .inl (cs 0, 123, .inl (upd f35 (Int32.toNatClampNeg v46) v48))), (a_wasSaid, .inl (cs 0, 1720, .inl (o23.2 0))), (a, .inr (12, [.ref a_tape, .int a__taped, .int a__rules, .ref a_sign, .ref a_length, .ref a_clause, .ref a_clauses, .ref a_read, .int a__next, .int a__wrong, .int a__number, .int a__text, .int a__made, .int a__deep, .int a__lines, .ref a_open, .int a__opened, .ref a_stack, .int a__top, .ref a_word, .ref a_said, .int a__x, .ref a_worth, .ref a_mate, .ref a_wasSaid, .int (o23.1 1), .int a__boughtNow, .ref a_wayBy, .ref a_wayThen, .int a__walkMost, .int a__walkGoing, .int a__walkSet, .ref a_kept, .long a__drawX, .ref a_images, .ref a_imageX, .ref a_isMade]))] H := hP
      have hD : va_D A [(a_said, .inl (cs 0, 123, .inl (upd f35 (Int32.toNatClampNeg v46) v48))), (a_wasSaid, .inl (cs 0, 1720, .inl (o23.2 0))), (a, .inr (12, [.ref a_tape, .int a__taped, .int a__rules, .ref a_sign, .ref a_length, .ref a_clause, .ref a_clauses, .ref a_read, .int a__next, .int a__wrong, .int a__number, .int a__text, .int a__made, .int a__deep, .int a__lines, .ref a_open, .int a__opened, .ref a_stack, .int a__top, .ref a_word, .ref a_said, .int a__x, .ref a_worth, .ref a_mate, .ref a_wasSaid, .int (o23.1 1), .int a__boughtNow, .ref a_wayBy, .ref a_wayThen, .int a__walkMost, .int a__walkGoing, .int a__walkSet, .ref a_kept, .long a__drawX, .ref a_images, .ref a_imageX, .ref a_isMade]))] := hD
      obtain ⟨f50, uf50⟩ : ∃ z, z = upd f35 (Int32.toNatClampNeg v46) v48 := ⟨_, rfl⟩
      rw [← uf50] at hP hD
      have wf50 : (f50 (Int32.toNatClampNeg v46)).toInt = v48.toInt := lin_us uf50 rfl
      have kk51 : (f50 0).toInt = (f35 0).toInt := congrArg Int32.toInt (by rw [uf50, pk_un (show 0 ≠ Int32.toNatClampNeg v46 from by (have q : Int32.toNatClampNeg v46 = v46.toInt.toNat := rfl); omega)])
      have kk52 : (f50 1).toInt = (f35 1).toInt := congrArg Int32.toInt (by rw [uf50, pk_un (show 1 ≠ Int32.toNatClampNeg v46 from by (have q : Int32.toNatClampNeg v46 = v46.toInt.toNat := rfl); omega)])
      have kk53 : (f50 2).toInt = (f35 2).toInt := congrArg Int32.toInt (by rw [uf50, pk_un (show 2 ≠ Int32.toNatClampNeg v46 from by (have q : Int32.toNatClampNeg v46 = v46.toInt.toNat := rfl); omega)])
      have kk54 : (f50 3).toInt = (f35 3).toInt := congrArg Int32.toInt (by rw [uf50, pk_un (show 3 ≠ Int32.toNatClampNeg v46 from by (have q : Int32.toNatClampNeg v46 = v46.toInt.toNat := rfl); omega)])
      have fb55 : BS f50 200 := (bs_upd fb40 uf50 (show Int32.toNatClampNeg v46 ≠ 0 ∧ Int32.toNatClampNeg v46 ≠ 1 ∧ Int32.toNatClampNeg v46 ≠ 2 ∧ Int32.toNatClampNeg v46 ≠ 3 ∧ Int32.toNatClampNeg v46 ≠ 4 ∧ Int32.toNatClampNeg v46 ≠ 71 ∧ Int32.toNatClampNeg v46 ≠ 75 ∧ Int32.toNatClampNeg v46 ≠ 79 ∧ Int32.toNatClampNeg v46 ≠ 83 from by (have q : Int32.toNatClampNeg v46 = v46.toInt.toNat := rfl); omega))
      have fb56 : TR f50 := tr_upd fb41 uf50 (show Int32.toNatClampNeg v46 < 86 from by (have q : Int32.toNatClampNeg v46 = v46.toInt.toNat := rfl); omega)
      refine lv_aload_n hx hb dX12_swap_68 rfl (lv_at hl 0 rfl) ?_
      refine va_get (D := D) (ci := 12) (v := .ref a_said) (C := RX12) (T := TX12) (N := 37) hx hb hT i_X12 hown hK hP 2 rfl rfl 20 (by decide) (hT _ q_185) (fun _ h9 => h9) rfl dX12_swap_69 ?_
      refine lv_bipush (v := 70) hx hb dX12_swap_72 (by decide) ?_
      refine lv_iconst (v := 4) hx hb dX12_swap_74 (by decide) ?_
      refine lv_iload_n hx hb dX12_swap_75 rfl (lv_at hl 1 rfl) ?_
      refine lv_imul hx hb dX12_swap_76 ?_
      refine lv_topi (fun v57 ev57 => ?_)
      have hv57 : IV 0 12 v57 := iv_mul ev57 (iv_c (a := 4) (b := 4) (by decide)) h3 (by decide) (by decide) (by decide) (by decide)
      have ii58 : 0 ≤ v57.toInt ∧ v57.toInt ≤ 12 := hv57
      have lv57 : v57.toInt = 4 * p0.toInt := lin_mul ev57 (iv_c (a := 4) (b := 4) (by decide)) h3 (by decide) rfl (by decide) (by decide) (by decide) (by decide)
      refine lv_iadd hx hb dX12_swap_77 ?_
      refine lv_topi (fun v59 ev59 => ?_)
      have hv59 : IV 70 82 v59 := iv_add ev59 (iv_c (a := 70) (b := 70) (by decide)) hv57 (by decide) (by decide)
      have ii60 : 70 ≤ v59.toInt ∧ v59.toInt ≤ 82 := hv59
      have lv59 : v59.toInt = 70 + v57.toInt := lin_add ev59 (iv_c (a := 70) (b := 70) (by decide)) hv57 (by decide) rfl (by decide) (by decide)
      refine lv_iconst (v := 2) hx hb dX12_swap_78 (by decide) ?_
      refine lv_iadd hx hb dX12_swap_79 ?_
      refine lv_topi (fun v61 ev61 => ?_)
      have hv61 : IV 72 84 v61 := iv_add ev61 hv59 (iv_c (a := 2) (b := 2) (by decide)) (by decide) (by decide)
      have ii62 : 72 ≤ v61.toInt ∧ v61.toInt ≤ 84 := hv61
      have dv61 : v61.toInt = v59.toInt + 2 := iv_addE ev61 hv59 (iv_c (a := 2) (b := 2) (by decide)) (by decide) (by decide) (by decide)
      have lv61 : v61.toInt = v59.toInt + 2 := lin_add ev61 hv59 (iv_c (a := 2) (b := 2) (by decide)) rfl (by decide) (by decide) (by decide)
      refine lv_dup2_11 hx hb dX12_swap_80 rfl rfl ?_
      refine va_iald hx hb hK hP 0 0 rfl rfl (iv_v hv61 (by decide) (by decide)) dX12_swap_81 ?_
      refine lv_topi (fun v63 ev63 => ?_)
      have lv63 : v63.toInt = (f50 (Int32.toNatClampNeg v61)).toInt := by rw [ev63]
      refine lv_iconst (v := 1) hx hb dX12_swap_82 (by decide) ?_
      refine lv_iload hx hb dX12_swap_83 (lv_at hl 4 rfl) ?_
      refine lv_ishl hx hb dX12_swap_85 ?_
      refine lv_topi (fun v64 ev64 => ?_)
      have hv64 : IV 1 2048 v64 := iv_shl1 ev64 h6 (by decide) (by decide) (by decide)
      have ii65 : 1 ≤ v64.toInt ∧ v64.toInt ≤ 2048 := hv64
      refine lv_ior hx hb dX12_swap_86 ?_
      refine lv_topi (fun v66 ev66 => ?_)
      refine va_iast hx hb hK hP hD hS 0 0 rfl rfl (iv_v hv61 (by decide) (by decide)) dX12_swap_87 (fun H locs hP hD hS => ?_)
      have hP : va_P D classes [(a_said, .inl (cs 0, 123, .inl (upd f50 (Int32.toNatClampNeg v61) v66))), (a_wasSaid, .inl (cs 0, 1720, .inl (o23.2 0))), (a, .inr (12, [.ref a_tape, .int a__taped, .int a__rules, .ref a_sign, .ref a_length, .ref a_clause, .ref a_clauses, .ref a_read, .int a__next, .int a__wrong, .int a__number, .int a__text, .int a__made, .int a__deep, .int a__lines, .ref a_open, .int a__opened, .ref a_stack, .int a__top, .ref a_word, .ref a_said, .int a__x, .ref a_worth, .ref a_mate, .ref a_wasSaid, .int (o23.1 1), .int a__boughtNow, .ref a_wayBy, .ref a_wayThen, .int a__walkMost, .int a__walkGoing, .int a__walkSet, .ref a_kept, .long a__drawX, .ref a_images, .ref a_imageX, .ref a_isMade]))] H := hP
      have hD : va_D A [(a_said, .inl (cs 0, 123, .inl (upd f50 (Int32.toNatClampNeg v61) v66))), (a_wasSaid, .inl (cs 0, 1720, .inl (o23.2 0))), (a, .inr (12, [.ref a_tape, .int a__taped, .int a__rules, .ref a_sign, .ref a_length, .ref a_clause, .ref a_clauses, .ref a_read, .int a__next, .int a__wrong, .int a__number, .int a__text, .int a__made, .int a__deep, .int a__lines, .ref a_open, .int a__opened, .ref a_stack, .int a__top, .ref a_word, .ref a_said, .int a__x, .ref a_worth, .ref a_mate, .ref a_wasSaid, .int (o23.1 1), .int a__boughtNow, .ref a_wayBy, .ref a_wayThen, .int a__walkMost, .int a__walkGoing, .int a__walkSet, .ref a_kept, .long a__drawX, .ref a_images, .ref a_imageX, .ref a_isMade]))] := hD
      obtain ⟨f67, uf67⟩ : ∃ z, z = upd f50 (Int32.toNatClampNeg v61) v66 := ⟨_, rfl⟩
      rw [← uf67] at hP hD
      have wf67 : (f67 (Int32.toNatClampNeg v61)).toInt = v66.toInt := lin_us uf67 rfl
      have kk68 : (f67 0).toInt = (f50 0).toInt := congrArg Int32.toInt (by rw [uf67, pk_un (show 0 ≠ Int32.toNatClampNeg v61 from by (have q : Int32.toNatClampNeg v61 = v61.toInt.toNat := rfl); omega)])
      have kk69 : (f67 1).toInt = (f50 1).toInt := congrArg Int32.toInt (by rw [uf67, pk_un (show 1 ≠ Int32.toNatClampNeg v61 from by (have q : Int32.toNatClampNeg v61 = v61.toInt.toNat := rfl); omega)])
      have kk70 : (f67 2).toInt = (f50 2).toInt := congrArg Int32.toInt (by rw [uf67, pk_un (show 2 ≠ Int32.toNatClampNeg v61 from by (have q : Int32.toNatClampNeg v61 = v61.toInt.toNat := rfl); omega)])
      have kk71 : (f67 3).toInt = (f50 3).toInt := congrArg Int32.toInt (by rw [uf67, pk_un (show 3 ≠ Int32.toNatClampNeg v61 from by (have q : Int32.toNatClampNeg v61 = v61.toInt.toNat := rfl); omega)])
      have fb72 : BS f67 200 := (bs_upd fb55 uf67 (show Int32.toNatClampNeg v61 ≠ 0 ∧ Int32.toNatClampNeg v61 ≠ 1 ∧ Int32.toNatClampNeg v61 ≠ 2 ∧ Int32.toNatClampNeg v61 ≠ 3 ∧ Int32.toNatClampNeg v61 ≠ 4 ∧ Int32.toNatClampNeg v61 ≠ 71 ∧ Int32.toNatClampNeg v61 ≠ 75 ∧ Int32.toNatClampNeg v61 ≠ 79 ∧ Int32.toNatClampNeg v61 ≠ 83 from by (have q : Int32.toNatClampNeg v61 = v61.toInt.toNat := rfl); omega))
      have fb73 : TR f67 := tr_upd fb56 uf67 (show Int32.toNatClampNeg v61 < 86 from by (have q : Int32.toNatClampNeg v61 = v61.toInt.toNat := rfl); omega)
      refine lv_aload_n hx hb dX12_swap_88 rfl (lv_at hl 0 rfl) ?_
      refine va_get (D := D) (ci := 12) (v := .ref a_said) (C := RX12) (T := TX12) (N := 37) hx hb hT i_X12 hown hK hP 2 rfl rfl 20 (by decide) (hT _ q_185) (fun _ h9 => h9) rfl dX12_swap_89 ?_
      refine lv_bipush (v := 70) hx hb dX12_swap_92 (by decide) ?_
      refine lv_iconst (v := 4) hx hb dX12_swap_94 (by decide) ?_
      refine lv_iload_n hx hb dX12_swap_95 rfl (lv_at hl 3 rfl) ?_
      refine lv_imul hx hb dX12_swap_96 ?_
      refine lv_topi (fun v74 ev74 => ?_)
      have hv74 : IV 0 12 v74 := iv_mul ev74 (iv_c (a := 4) (b := 4) (by decide)) h5 (by decide) (by decide) (by decide) (by decide)
      have ii75 : 0 ≤ v74.toInt ∧ v74.toInt ≤ 12 := hv74
      have lv74 : v74.toInt = 4 * p2.toInt := lin_mul ev74 (iv_c (a := 4) (b := 4) (by decide)) h5 (by decide) rfl (by decide) (by decide) (by decide) (by decide)
      refine lv_iadd hx hb dX12_swap_97 ?_
      refine lv_topi (fun v76 ev76 => ?_)
      have hv76 : IV 70 82 v76 := iv_add ev76 (iv_c (a := 70) (b := 70) (by decide)) hv74 (by decide) (by decide)
      have ii77 : 70 ≤ v76.toInt ∧ v76.toInt ≤ 82 := hv76
      have lv76 : v76.toInt = 70 + v74.toInt := lin_add ev76 (iv_c (a := 70) (b := 70) (by decide)) hv74 (by decide) rfl (by decide) (by decide)
      refine lv_iconst (v := 2) hx hb dX12_swap_98 (by decide) ?_
      refine lv_iadd hx hb dX12_swap_99 ?_
      refine lv_topi (fun v78 ev78 => ?_)
      have hv78 : IV 72 84 v78 := iv_add ev78 hv76 (iv_c (a := 2) (b := 2) (by decide)) (by decide) (by decide)
      have ii79 : 72 ≤ v78.toInt ∧ v78.toInt ≤ 84 := hv78
      have dv78 : v78.toInt = v76.toInt + 2 := iv_addE ev78 hv76 (iv_c (a := 2) (b := 2) (by decide)) (by decide) (by decide) (by decide)
      have lv78 : v78.toInt = v76.toInt + 2 := lin_add ev78 hv76 (iv_c (a := 2) (b := 2) (by decide)) rfl (by decide) (by decide) (by decide)
      refine lv_dup2_11 hx hb dX12_swap_100 rfl rfl ?_
      refine va_iald hx hb hK hP 0 0 rfl rfl (iv_v hv78 (by decide) (by decide)) dX12_swap_101 ?_
      refine lv_topi (fun v80 ev80 => ?_)
      have lv80 : v80.toInt = (f67 (Int32.toNatClampNeg v78)).toInt := by rw [ev80]
      refine lv_iconst (v := 1) hx hb dX12_swap_102 (by decide) ?_
      refine lv_iload_n hx hb dX12_swap_103 rfl (lv_at hl 2 rfl) ?_
      refine lv_ishl hx hb dX12_swap_104 ?_
      refine lv_topi (fun v81 ev81 => ?_)
      have hv81 : IV 1 2048 v81 := iv_shl1 ev81 h4 (by decide) (by decide) (by decide)
      have ii82 : 1 ≤ v81.toInt ∧ v81.toInt ≤ 2048 := hv81
      refine lv_ior hx hb dX12_swap_105 ?_
      refine lv_topi (fun v83 ev83 => ?_)
      refine va_iast hx hb hK hP hD hS 0 0 rfl rfl (iv_v hv78 (by decide) (by decide)) dX12_swap_106 (fun H locs hP hD hS => ?_)
      have hP : va_P D classes [(a_said, .inl (cs 0, 123, .inl (upd f67 (Int32.toNatClampNeg v78) v83))), (a_wasSaid, .inl (cs 0, 1720, .inl (o23.2 0))), (a, .inr (12, [.ref a_tape, .int a__taped, .int a__rules, .ref a_sign, .ref a_length, .ref a_clause, .ref a_clauses, .ref a_read, .int a__next, .int a__wrong, .int a__number, .int a__text, .int a__made, .int a__deep, .int a__lines, .ref a_open, .int a__opened, .ref a_stack, .int a__top, .ref a_word, .ref a_said, .int a__x, .ref a_worth, .ref a_mate, .ref a_wasSaid, .int (o23.1 1), .int a__boughtNow, .ref a_wayBy, .ref a_wayThen, .int a__walkMost, .int a__walkGoing, .int a__walkSet, .ref a_kept, .long a__drawX, .ref a_images, .ref a_imageX, .ref a_isMade]))] H := hP
      have hD : va_D A [(a_said, .inl (cs 0, 123, .inl (upd f67 (Int32.toNatClampNeg v78) v83))), (a_wasSaid, .inl (cs 0, 1720, .inl (o23.2 0))), (a, .inr (12, [.ref a_tape, .int a__taped, .int a__rules, .ref a_sign, .ref a_length, .ref a_clause, .ref a_clauses, .ref a_read, .int a__next, .int a__wrong, .int a__number, .int a__text, .int a__made, .int a__deep, .int a__lines, .ref a_open, .int a__opened, .ref a_stack, .int a__top, .ref a_word, .ref a_said, .int a__x, .ref a_worth, .ref a_mate, .ref a_wasSaid, .int (o23.1 1), .int a__boughtNow, .ref a_wayBy, .ref a_wayThen, .int a__walkMost, .int a__walkGoing, .int a__walkSet, .ref a_kept, .long a__drawX, .ref a_images, .ref a_imageX, .ref a_isMade]))] := hD
      obtain ⟨f84, uf84⟩ : ∃ z, z = upd f67 (Int32.toNatClampNeg v78) v83 := ⟨_, rfl⟩
      rw [← uf84] at hP hD
      have wf84 : (f84 (Int32.toNatClampNeg v78)).toInt = v83.toInt := lin_us uf84 rfl
      have kk85 : (f84 0).toInt = (f67 0).toInt := congrArg Int32.toInt (by rw [uf84, pk_un (show 0 ≠ Int32.toNatClampNeg v78 from by (have q : Int32.toNatClampNeg v78 = v78.toInt.toNat := rfl); omega)])
      have kk86 : (f84 1).toInt = (f67 1).toInt := congrArg Int32.toInt (by rw [uf84, pk_un (show 1 ≠ Int32.toNatClampNeg v78 from by (have q : Int32.toNatClampNeg v78 = v78.toInt.toNat := rfl); omega)])
      have kk87 : (f84 2).toInt = (f67 2).toInt := congrArg Int32.toInt (by rw [uf84, pk_un (show 2 ≠ Int32.toNatClampNeg v78 from by (have q : Int32.toNatClampNeg v78 = v78.toInt.toNat := rfl); omega)])
      have kk88 : (f84 3).toInt = (f67 3).toInt := congrArg Int32.toInt (by rw [uf84, pk_un (show 3 ≠ Int32.toNatClampNeg v78 from by (have q : Int32.toNatClampNeg v78 = v78.toInt.toNat := rfl); omega)])
      have fb89 : BS f84 200 := (bs_upd fb72 uf84 (show Int32.toNatClampNeg v78 ≠ 0 ∧ Int32.toNatClampNeg v78 ≠ 1 ∧ Int32.toNatClampNeg v78 ≠ 2 ∧ Int32.toNatClampNeg v78 ≠ 3 ∧ Int32.toNatClampNeg v78 ≠ 4 ∧ Int32.toNatClampNeg v78 ≠ 71 ∧ Int32.toNatClampNeg v78 ≠ 75 ∧ Int32.toNatClampNeg v78 ≠ 79 ∧ Int32.toNatClampNeg v78 ≠ 83 from by (have q : Int32.toNatClampNeg v78 = v78.toInt.toNat := rfl); omega))
      have fb90 : TR f84 := tr_upd fb73 uf84 (show Int32.toNatClampNeg v78 < 86 from by (have q : Int32.toNatClampNeg v78 = v78.toInt.toNat := rfl); omega)
      refine lv_iconst (v := 1) hx hb dX12_swap_107 (by decide) ?_
      refine W.widen (k := 0) (n := 0) (Nat.le_of_ble_eq_true rfl) (Nat.le_of_ble_eq_true rfl) ?_
      have g91 : (f84 3).toInt ≤ 99 := (by omega)
      exact W.zret (v := 1) hx hb hr rfl (fun t ht hW => ⟨⟨1, (fun k => match k with | 0 => 0 | 1 => o23.1 1 | _ => 0, fun k => match k with | 0 => f84 | 1 => o23.2 0 | _ => fun _ => 0), rfl, (Or.inr ((⟨rfl, h3, h4, h5, h6, h24, fb89, fb90, g91, x25⟩))), by rw [ht]; exact hP.sub [0, 1, 2] rfl, hD.sub [0, 1, 2] (by decide) rfl⟩, hS.F ht⟩) hS.2.2 dX12_swap_108
    · have t92 : r14.toInt ≠ r17.toInt := lin_ne c20 rfl rfl
      refine lv_iconst (v := 0) hx hb dX12_swap_27 (by decide) ?_
      refine W.widen (k := 0) (n := 0) (Nat.le_of_ble_eq_true rfl) (Nat.le_of_ble_eq_true rfl) ?_
      exact W.zret (v := 0) hx hb hr rfl (fun t ht hW => ⟨⟨0, (fun k => match k with | 0 => 0 | 1 => a__undone | _ => 0, fun k => match k with | 0 => a_said_c | 1 => a_wasSaid_c | _ => fun _ => 0), rfl, (Or.inl (⟨rfl, (iv_w h3 (by decide) (by decide)), h_a__undone, hf0, hf1, hf2, hf3⟩)), by rw [ht]; exact hP.sub [0, 1, 2] rfl, hD.sub [0, 1, 2] (by decide) rfl⟩, hS.F ht⟩) hS.2.2 dX12_swap_28
theorem dX12_giveUp_0 : decode cX12_giveUp 0 = .ok (.aload_n 0, 1) := by decide +kernel
theorem dX12_giveUp_1 : decode cX12_giveUp 1 = .ok (.iload_n 1, 1) := by decide +kernel
theorem dX12_giveUp_2 : decode cX12_giveUp 2 = .ok (.invokevirtual 343, 3) := by decide +kernel
theorem dX12_giveUp_5 : decode cX12_giveUp 5 = .ok (.ifCond .eq 24, 3) := by decide +kernel
theorem dX12_giveUp_8 : decode cX12_giveUp 8 = .ok (.aload_n 0, 1) := by decide +kernel
theorem dX12_giveUp_9 : decode cX12_giveUp 9 = .ok (.iload_n 2, 1) := by decide +kernel
theorem dX12_giveUp_10 : decode cX12_giveUp 10 = .ok (.invokevirtual 335, 3) := by decide +kernel
theorem dX12_giveUp_13 : decode cX12_giveUp 13 = .ok (.ifCond .eq 16, 3) := by decide +kernel
theorem dX12_giveUp_16 : decode cX12_giveUp 16 = .ok (.aload_n 0, 1) := by decide +kernel
theorem dX12_giveUp_17 : decode cX12_giveUp 17 = .ok (.iload_n 2, 1) := by decide +kernel
theorem dX12_giveUp_18 : decode cX12_giveUp 18 = .ok (.iconst 3, 1) := by decide +kernel
theorem dX12_giveUp_19 : decode cX12_giveUp 19 = .ok (.invokevirtual 301, 3) := by decide +kernel
theorem dX12_giveUp_22 : decode cX12_giveUp 22 = .ok (.bipush 100, 2) := by decide +kernel
theorem dX12_giveUp_24 : decode cX12_giveUp 24 = .ok (.iload_n 1, 1) := by decide +kernel
theorem dX12_giveUp_25 : decode cX12_giveUp 25 = .ok (.iadd, 1) := by decide +kernel
theorem dX12_giveUp_26 : decode cX12_giveUp 26 = .ok (.if_icmp .eq 5, 3) := by decide +kernel
theorem dX12_giveUp_29 : decode cX12_giveUp 29 = .ok (.iconst (-1), 1) := by decide +kernel
theorem dX12_giveUp_30 : decode cX12_giveUp 30 = .ok (.ireturn, 1) := by decide +kernel
theorem dX12_giveUp_31 : decode cX12_giveUp 31 = .ok (.aload_n 0, 1) := by decide +kernel
theorem dX12_giveUp_32 : decode cX12_giveUp 32 = .ok (.invokevirtual 356, 3) := by decide +kernel
theorem dX12_giveUp_35 : decode cX12_giveUp 35 = .ok (.aload_n 0, 1) := by decide +kernel
theorem dX12_giveUp_36 : decode cX12_giveUp 36 = .ok (.getfield 39, 3) := by decide +kernel
theorem dX12_giveUp_39 : decode cX12_giveUp 39 = .ok (.bipush 10, 2) := by decide +kernel
theorem dX12_giveUp_41 : decode cX12_giveUp 41 = .ok (.iconst 5, 1) := by decide +kernel
theorem dX12_giveUp_42 : decode cX12_giveUp 42 = .ok (.iload_n 2, 1) := by decide +kernel
theorem dX12_giveUp_43 : decode cX12_giveUp 43 = .ok (.imul, 1) := by decide +kernel
theorem dX12_giveUp_44 : decode cX12_giveUp 44 = .ok (.iadd, 1) := by decide +kernel
theorem dX12_giveUp_45 : decode cX12_giveUp 45 = .ok (.iconst 3, 1) := by decide +kernel
theorem dX12_giveUp_46 : decode cX12_giveUp 46 = .ok (.iadd, 1) := by decide +kernel
theorem dX12_giveUp_47 : decode cX12_giveUp 47 = .ok (.aload_n 0, 1) := by decide +kernel
theorem dX12_giveUp_48 : decode cX12_giveUp 48 = .ok (.aload_n 0, 1) := by decide +kernel
theorem dX12_giveUp_49 : decode cX12_giveUp 49 = .ok (.iload_n 1, 1) := by decide +kernel
theorem dX12_giveUp_50 : decode cX12_giveUp 50 = .ok (.iconst 1, 1) := by decide +kernel
theorem dX12_giveUp_51 : decode cX12_giveUp 51 = .ok (.invokevirtual 314, 3) := by decide +kernel
theorem dX12_giveUp_54 : decode cX12_giveUp 54 = .ok (.aload_n 0, 1) := by decide +kernel
theorem dX12_giveUp_55 : decode cX12_giveUp 55 = .ok (.getfield 39, 3) := by decide +kernel
theorem dX12_giveUp_58 : decode cX12_giveUp 58 = .ok (.iconst 3, 1) := by decide +kernel
theorem dX12_giveUp_59 : decode cX12_giveUp 59 = .ok (.iaload, 1) := by decide +kernel
theorem dX12_giveUp_60 : decode cX12_giveUp 60 = .ok (.invokevirtual 317, 3) := by decide +kernel
theorem dX12_giveUp_63 : decode cX12_giveUp 63 = .ok (.iastore, 1) := by decide +kernel
theorem dX12_giveUp_64 : decode cX12_giveUp 64 = .ok (.aload_n 0, 1) := by decide +kernel
theorem dX12_giveUp_65 : decode cX12_giveUp 65 = .ok (.getfield 39, 3) := by decide +kernel
theorem dX12_giveUp_68 : decode cX12_giveUp 68 = .ok (.bipush 70, 2) := by decide +kernel
theorem dX12_giveUp_70 : decode cX12_giveUp 70 = .ok (.iconst 4, 1) := by decide +kernel
theorem dX12_giveUp_71 : decode cX12_giveUp 71 = .ok (.iload_n 1, 1) := by decide +kernel
theorem dX12_giveUp_72 : decode cX12_giveUp 72 = .ok (.imul, 1) := by decide +kernel
theorem dX12_giveUp_73 : decode cX12_giveUp 73 = .ok (.iadd, 1) := by decide +kernel
theorem dX12_giveUp_74 : decode cX12_giveUp 74 = .ok (.dup2, 1) := by decide +kernel
theorem dX12_giveUp_75 : decode cX12_giveUp 75 = .ok (.iaload, 1) := by decide +kernel
theorem dX12_giveUp_76 : decode cX12_giveUp 76 = .ok (.aload_n 0, 1) := by decide +kernel
theorem dX12_giveUp_77 : decode cX12_giveUp 77 = .ok (.iload_n 2, 1) := by decide +kernel
theorem dX12_giveUp_78 : decode cX12_giveUp 78 = .ok (.invokevirtual 340, 3) := by decide +kernel
theorem dX12_giveUp_81 : decode cX12_giveUp 81 = .ok (.iconst 2, 1) := by decide +kernel
theorem dX12_giveUp_82 : decode cX12_giveUp 82 = .ok (.idiv, 1) := by decide +kernel
theorem dX12_giveUp_83 : decode cX12_giveUp 83 = .ok (.iadd, 1) := by decide +kernel
theorem dX12_giveUp_84 : decode cX12_giveUp 84 = .ok (.iastore, 1) := by decide +kernel
theorem dX12_giveUp_85 : decode cX12_giveUp 85 = .ok (.aload_n 0, 1) := by decide +kernel
theorem dX12_giveUp_86 : decode cX12_giveUp 86 = .ok (.iload_n 1, 1) := by decide +kernel
theorem dX12_giveUp_87 : decode cX12_giveUp 87 = .ok (.iconst 0, 1) := by decide +kernel
theorem dX12_giveUp_88 : decode cX12_giveUp 88 = .ok (.invokevirtual 314, 3) := by decide +kernel
theorem dX12_giveUp_91 : decode cX12_giveUp 91 = .ok (.ireturn, 1) := by decide +kernel
set_option maxHeartbeats 4000000 in
set_option maxRecDepth 100000 in
theorem c_X12_giveUp (l : Launch) (D : va_G) (cs : Nat → ClassId) (kK kV : Nat → Nat) (a : Nat) (p0 : Int32) (p1 : Int32) (a_said : Nat) (a_said_c : Nat → Int32) (a_wasSaid : Nat) (a_wasSaid_c : Nat → Int32) (a_tape : Nat) (a__taped : Int32) (a__rules : Int32) (a_sign : Nat) (a_length : Nat) (a_clause : Nat) (a_clauses : Nat) (a_read : Nat) (a__next : Int32) (a__wrong : Int32) (a__number : Int32) (a__text : Int32) (a__made : Int32) (a__deep : Int32) (a__lines : Int32) (a_open : Nat) (a__opened : Int32) (a_stack : Nat) (a__top : Int32) (a_word : Nat) (a__x : Int32) (a_worth : Nat) (a_mate : Nat) (a__undone : Int32) (a__boughtNow : Int32) (a_wayBy : Nat) (a_wayThen : Nat) (a__walkMost : Int32) (a__walkGoing : Int32) (a__walkSet : Int32) (a_kept : Nat) (a__drawX : Int64) (a_images : Nat) (a_imageX : Nat) (a_isMade : Nat) (h_a__taped : IV 0 400 a__taped) (h_a__rules : IV 0 6 a__rules) (h_a__next : IV 0 400 a__next) (h_a__text : IV 0 6 a__text) (h_a__made : IV 0 60 a__made) (h_a__lines : IV 0 40 a__lines) (h_a__opened : IV 0 400 a__opened) (h_a__top : IV 0 64 a__top) (h_a__x : IV 0 2147483647 a__x) (h_a__undone : IV 0 20 a__undone) (hf0 : BS a_said_c 200) (hf1 : TR a_said_c) (hf2 : (a_said_c 3).toInt ≤ 99) (hf3 : WSN a_wasSaid_c a__undone.toInt) (sz : Nat) : Met l yX12_giveUp (hz_w yX12_giveUp cX12_giveUp 3 (some .int)) ({ frames := 2, cells := 0, slots := 0, locals := 45 }) (va_Pc [.ref a, .int p0, .int p1] (hz_C D cs kK kV sz [(a_said, .inl (cs 0, 123, .inl a_said_c)), (a_wasSaid, .inl (cs 0, 1720, .inl a_wasSaid_c)), (a, .inr (12, [.ref a_tape, .int a__taped, .int a__rules, .ref a_sign, .ref a_length, .ref a_clause, .ref a_clauses, .ref a_read, .int a__next, .int a__wrong, .int a__number, .int a__text, .int a__made, .int a__deep, .int a__lines, .ref a_open, .int a__opened, .ref a_stack, .int a__top, .ref a_word, .ref a_said, .int a__x, .ref a_worth, .ref a_mate, .ref a_wasSaid, .int a__undone, .int a__boughtNow, .ref a_wayBy, .ref a_wayThen, .int a__walkMost, .int a__walkGoing, .int a__walkSet, .ref a_kept, .long a__drawX, .ref a_images, .ref a_imageX, .ref a_isMade]))])) (va_Qi (fun (r : Int32) (u : (Nat → Int32) × (Nat → Nat → Int32)) => (r = (-1) ∧ IV (-2147483648) 2147483647 p0 ∧ IV 0 20 (u.1 1) ∧ (BS (u.2 0) 200) ∧ (TR (u.2 0)) ∧ (((u.2 0) 3).toInt ≤ 99) ∧ (WSN (u.2 1) (u.1 1).toInt)) ∨ (IV 0 3 p0 ∧ IV 0 11 p1 ∧ IV 1 20 (u.1 1) ∧ (BS (u.2 0) 200) ∧ (TR (u.2 0)) ∧ (((u.2 0) 3).toInt ≤ 99) ∧ (WSN (u.2 1) (u.1 1).toInt))) (fun u t => va_P D classes [(a_said, .inl (cs 0, 123, .inl (u.2 0))), (a_wasSaid, .inl (cs 0, 1720, .inl (u.2 1))), (a, .inr (12, [.ref a_tape, .int a__taped, .int a__rules, .ref a_sign, .ref a_length, .ref a_clause, .ref a_clauses, .ref a_read, .int a__next, .int a__wrong, .int a__number, .int a__text, .int a__made, .int a__deep, .int a__lines, .ref a_open, .int a__opened, .ref a_stack, .int a__top, .ref a_word, .ref a_said, .int a__x, .ref a_worth, .ref a_mate, .ref a_wasSaid, .int (u.1 1), .int a__boughtNow, .ref a_wayBy, .ref a_wayThen, .int a__walkMost, .int a__walkGoing, .int a__walkSet, .ref a_kept, .long a__drawX, .ref a_images, .ref a_imageX, .ref a_isMade]))] t.heap ∧ va_D (va_A [(a_said, .inl (cs 0, 123, .inl a_said_c)), (a_wasSaid, .inl (cs 0, 1720, .inl a_wasSaid_c)), (a, .inr (12, [.ref a_tape, .int a__taped, .int a__rules, .ref a_sign, .ref a_length, .ref a_clause, .ref a_clauses, .ref a_read, .int a__next, .int a__wrong, .int a__number, .int a__text, .int a__made, .int a__deep, .int a__lines, .ref a_open, .int a__opened, .ref a_stack, .int a__top, .ref a_word, .ref a_said, .int a__x, .ref a_worth, .ref a_mate, .ref a_wasSaid, .int a__undone, .int a__boughtNow, .ref a_wayBy, .ref a_wayThen, .int a__walkMost, .int a__walkGoing, .int a__walkSet, .ref a_kept, .long a__drawX, .ref a_images, .ref a_imageX, .ref a_isMade]))] sz) [(a_said, .inl (cs 0, 123, .inl (u.2 0))), (a_wasSaid, .inl (cs 0, 1720, .inl (u.2 1))), (a, .inr (12, [.ref a_tape, .int a__taped, .int a__rules, .ref a_sign, .ref a_length, .ref a_clause, .ref a_clauses, .ref a_read, .int a__next, .int a__wrong, .int a__number, .int a__text, .int a__made, .int a__deep, .int a__lines, .ref a_open, .int a__opened, .ref a_stack, .int a__top, .ref a_word, .ref a_said, .int a__x, .ref a_worth, .ref a_mate, .ref a_wasSaid, .int (u.1 1), .int a__boughtNow, .ref a_wayBy, .ref a_wayThen, .int a__walkMost, .int a__walkGoing, .int a__walkSet, .ref a_kept, .long a__drawX, .ref a_images, .ref a_imageX, .ref a_isMade]))]) (va_A [(a_said, .inl (cs 0, 123, .inl a_said_c)), (a_wasSaid, .inl (cs 0, 1720, .inl a_wasSaid_c)), (a, .inr (12, [.ref a_tape, .int a__taped, .int a__rules, .ref a_sign, .ref a_length, .ref a_clause, .ref a_clauses, .ref a_read, .int a__next, .int a__wrong, .int a__number, .int a__text, .int a__made, .int a__deep, .int a__lines, .ref a_open, .int a__opened, .ref a_stack, .int a__top, .ref a_word, .ref a_said, .int a__x, .ref a_worth, .ref a_mate, .ref a_wasSaid, .int a__undone, .int a__boughtNow, .ref a_wayBy, .ref a_wayThen, .int a__walkMost, .int a__walkGoing, .int a__walkSet, .ref a_kept, .long a__drawX, .ref a_images, .ref a_imageX, .ref a_isMade]))] sz)) 0 0 (va_A [(a_said, .inl (cs 0, 123, .inl a_said_c)), (a_wasSaid, .inl (cs 0, 1720, .inl a_wasSaid_c)), (a, .inr (12, [.ref a_tape, .int a__taped, .int a__rules, .ref a_sign, .ref a_length, .ref a_clause, .ref a_clauses, .ref a_read, .int a__next, .int a__wrong, .int a__number, .int a__text, .int a__made, .int a__deep, .int a__lines, .ref a_open, .int a__opened, .ref a_stack, .int a__top, .ref a_word, .ref a_said, .int a__x, .ref a_worth, .ref a_mate, .ref a_wasSaid, .int a__undone, .int a__boughtNow, .ref a_wayBy, .ref a_wayThen, .int a__walkMost, .int a__walkGoing, .int a__walkSet, .ref a_kept, .long a__drawX, .ref a_images, .ref a_imageX, .ref a_isMade]))] sz) := by
  refine Met.ofW (cc := cX12_giveUp) (maxL := 3) (ret := (some .int)) (by decide) rfl ?_
  intro p e s m args below meth c s₁ B hml hv
  obtain ⟨rfl, hsz, hP, hD0, hE⟩ := hv
  have hx := B.exec
  have hb := B.bytes
  have hr := B.returns
  have hT : ∀ w ∈ TB, w.before _ s = true := fun w h => atoms_spec (ws := hz_w yX12_giveUp cX12_giveUp 3 (some .int)) B.pre w (List.mem_cons_of_mem _ h)
  have hown : s.vm.findClass RX12 = some m.cls := findClass_of_methodNamed B.named
  have hlocks := B.notSynchronized
  clear B
  subst hsz
  have hD := hD0.self (sz := s.heap.size)
  generalize hAe : va_A [(a_said, .inl (cs 0, 123, .inl a_said_c)), (a_wasSaid, .inl (cs 0, 1720, .inl a_wasSaid_c)), (a, .inr (12, [.ref a_tape, .int a__taped, .int a__rules, .ref a_sign, .ref a_length, .ref a_clause, .ref a_clauses, .ref a_read, .int a__next, .int a__wrong, .int a__number, .int a__text, .int a__made, .int a__deep, .int a__lines, .ref a_open, .int a__opened, .ref a_stack, .int a__top, .ref a_word, .ref a_said, .int a__x, .ref a_worth, .ref a_mate, .ref a_wasSaid, .int a__undone, .int a__boughtNow, .ref a_wayBy, .ref a_wayThen, .int a__walkMost, .int a__walkGoing, .int a__walkSet, .ref a_kept, .long a__drawX, .ref a_images, .ref a_imageX, .ref a_isMade]))] s.heap.size = A at hD hE ⊢
  have hA : ∀ q : Nat, s.heap.size ≤ q → A q := fun q h => by rw [← hAe]; exact Or.inr h
  clear hAe hD0
  have hS : va_S A s.heap s.heap [] := va_S.rf
  have hK := hE.1
  have hl := lv_entry ([.ref a, .int p0, .int p1]) (n := 3) (Nat.le_of_ble_eq_true rfl)
  rw [lg_entry_eq]
  generalize (lg_sl ([.ref a, .int p0, .int p1]) ++ List.replicate (3 - (lg_sl ([.ref a, .int p0, .int p1])).length) Slot.unset).toArray = ls at hl ⊢
  have hl : lv_has ls 3 [(0, .ref a), (1, .int p0), (2, .int p1)] := hl
  obtain ⟨H, eH⟩ : ∃ z, z = s.heap := ⟨_, rfl⟩
  have hP : va_P D classes [(a_said, .inl (cs 0, 123, .inl a_said_c)), (a_wasSaid, .inl (cs 0, 1720, .inl a_wasSaid_c)), (a, .inr (12, [.ref a_tape, .int a__taped, .int a__rules, .ref a_sign, .ref a_length, .ref a_clause, .ref a_clauses, .ref a_read, .int a__next, .int a__wrong, .int a__number, .int a__text, .int a__made, .int a__deep, .int a__lines, .ref a_open, .int a__opened, .ref a_stack, .int a__top, .ref a_word, .ref a_said, .int a__x, .ref a_worth, .ref a_mate, .ref a_wasSaid, .int a__undone, .int a__boughtNow, .ref a_wayBy, .ref a_wayThen, .int a__walkMost, .int a__walkGoing, .int a__walkSet, .ref a_kept, .long a__drawX, .ref a_images, .ref a_imageX, .ref a_isMade]))] H := by rw [eH]; exact hP
  have hS : va_S A s.heap H [] := by rw [eH]; exact hS
  rw [← eH]
  clear eH
  obtain ⟨locs, el⟩ : ∃ z : List Loc, z = [] := ⟨_, rfl⟩
  rw [← el] at hS ⊢
  clear el
  have z0 : (0 : Int32).toInt = 0 := by decide
  have z1 : (1 : Int32).toInt = 1 := by decide
  have zm1 : (-1 : Int32).toInt = -1 := by decide
  have i_a__lines : 0 ≤ a__lines.toInt ∧ a__lines.toInt ≤ 40 := h_a__lines
  have i_a__made : 0 ≤ a__made.toInt ∧ a__made.toInt ≤ 60 := h_a__made
  have i_a__next : 0 ≤ a__next.toInt ∧ a__next.toInt ≤ 400 := h_a__next
  have i_a__opened : 0 ≤ a__opened.toInt ∧ a__opened.toInt ≤ 400 := h_a__opened
  have i_a__rules : 0 ≤ a__rules.toInt ∧ a__rules.toInt ≤ 6 := h_a__rules
  have i_a__taped : 0 ≤ a__taped.toInt ∧ a__taped.toInt ≤ 400 := h_a__taped
  have i_a__text : 0 ≤ a__text.toInt ∧ a__text.toInt ≤ 6 := h_a__text
  have i_a__top : 0 ≤ a__top.toInt ∧ a__top.toInt ≤ 64 := h_a__top
  have i_a__undone : 0 ≤ a__undone.toInt ∧ a__undone.toInt ≤ 20 := h_a__undone
  have i_a__x : 0 ≤ a__x.toInt ∧ a__x.toInt ≤ 2147483647 := h_a__x
  refine lv_aload_n hx hb dX12_giveUp_0 rfl (lv_at hl 0 rfl) ?_
  refine lv_iload_n hx hb dX12_giveUp_1 rfl (lv_at hl 1 rfl) ?_
  refine va_calli (va_runV (As := [.int p0]) (rest := []) ⟨hx, hb, hml, hown, hT⟩ (c_X12_isBuyer l D cs kK kV a p0 a_said a_said_c a_tape a__taped a__rules a_sign a_length a_clause a_clauses a_read a__next a__wrong a__number a__text a__made a__deep a__lines a_open a__opened a_stack a__top a_word a__x a_worth a_mate a_wasSaid a__undone a__boughtNow a_wayBy a_wayThen a__walkMost a__walkGoing a__walkSet a_kept a__drawX a_images a_imageX a_isMade h_a__taped h_a__rules h_a__next h_a__text h_a__made h_a__lines h_a__opened h_a__top h_a__x h_a__undone hf0) (cwV 1 hT (hz_gV q_1156 q_1157 q_1158 q_701 q_1159) rfl rfl rfl (by decide +kernel) ⟨(Nat.le_of_ble_eq_true rfl), (Nat.le_of_ble_eq_true rfl)⟩) ⟨hz_P.blind, va_recv hK hP (ci := 12) (q0 := 2) rfl rfl, hz_P.mk (hP.sub (ws' := [(a_said, .inl (cs 0, 123, .inl a_said_c)), (a, .inr (12, [.ref a_tape, .int a__taped, .int a__rules, .ref a_sign, .ref a_length, .ref a_clause, .ref a_clauses, .ref a_read, .int a__next, .int a__wrong, .int a__number, .int a__text, .int a__made, .int a__deep, .int a__lines, .ref a_open, .int a__opened, .ref a_stack, .int a__top, .ref a_word, .ref a_said, .int a__x, .ref a_worth, .ref a_mate, .ref a_wasSaid, .int a__undone, .int a__boughtNow, .ref a_wayBy, .ref a_wayThen, .int a__walkMost, .int a__walkGoing, .int a__walkSet, .ref a_kept, .long a__drawX, .ref a_images, .ref a_imageX, .ref a_isMade]))]) [0,2] rfl) hE hS⟩ rfl rfl hl.1 rfl (lv_room (Nat.le_of_ble_eq_true rfl)) dX12_giveUp_2 ⟨(Nat.le_of_ble_eq_true rfl), (Nat.le_of_ble_eq_true rfl)⟩) hS (fun _ _ h => h.elim) (fun _ h => h.elim) (fun r1 u t H1 locs ht hvm hw hB hz1 hk1 hS => ?_)
  have hP := hz_keep hP hk1
  clear hk1 hB hz1
  generalize H1 = H at hP hS ⊢
  rcases hw with ⟨rfl, h2⟩ | ⟨rfl, h3, x4, x5⟩
  · have ii6 : (-2147483648) ≤ p0.toInt ∧ p0.toInt ≤ 2147483647 := h2
    refine lv_if_eq (tgt := 29) hx hb dX12_giveUp_5 (by decide) (fun _ => ?_) (fun z => absurd (by decide) z)
    refine lv_iconst (v := (-1)) hx hb dX12_giveUp_29 (by decide) ?_
    refine W.widen (k := 0) (n := 0) (Nat.le_of_ble_eq_true rfl) (Nat.le_of_ble_eq_true rfl) ?_
    exact W.iret (v := (-1)) hx hb hr (fun t ht hW => ⟨⟨(-1), (fun k => match k with | 0 => 0 | 1 => a__undone | _ => 0, fun k => match k with | 0 => a_said_c | 1 => a_wasSaid_c | _ => fun _ => 0), rfl, (Or.inl (⟨rfl, h2, h_a__undone, hf0, hf1, hf2, hf3⟩)), by rw [ht]; exact hP.sub [0, 1, 2] rfl, hD.sub [0, 1, 2] (by decide) rfl⟩, hS.F ht⟩) hS.2.2 dX12_giveUp_30
  · have ii7 : 0 ≤ p0.toInt ∧ p0.toInt ≤ 3 := h3
    refine lv_if_eq (tgt := 29) hx hb dX12_giveUp_5 (by decide) (fun z => absurd z (by decide)) (fun _ => ?_)
    refine lv_aload_n hx hb dX12_giveUp_8 rfl (lv_at hl 0 rfl) ?_
    refine lv_iload_n hx hb dX12_giveUp_9 rfl (lv_at hl 2 rfl) ?_
    refine va_calli (va_runV (As := [.int p1]) (rest := []) ⟨hx, hb, hml, hown, hT⟩ (c_X12_isHalf l D cs kK kV a p1 a_said a_said_c a_tape a__taped a__rules a_sign a_length a_clause a_clauses a_read a__next a__wrong a__number a__text a__made a__deep a__lines a_open a__opened a_stack a__top a_word a__x a_worth a_mate a_wasSaid a__undone a__boughtNow a_wayBy a_wayThen a__walkMost a__walkGoing a__walkSet a_kept a__drawX a_images a_imageX a_isMade h_a__taped h_a__rules h_a__next h_a__text h_a__made h_a__lines h_a__opened h_a__top h_a__x h_a__undone hf0) (cwV 1 hT (hz_gV q_1148 q_1149 q_1150 q_701 q_1151) rfl rfl rfl (by decide +kernel) ⟨(Nat.le_of_ble_eq_true rfl), (Nat.le_of_ble_eq_true rfl)⟩) ⟨hz_P.blind, va_recv hK hP (ci := 12) (q0 := 2) rfl rfl, hz_P.mk (hP.sub (ws' := [(a_said, .inl (cs 0, 123, .inl a_said_c)), (a, .inr (12, [.ref a_tape, .int a__taped, .int a__rules, .ref a_sign, .ref a_length, .ref a_clause, .ref a_clauses, .ref a_read, .int a__next, .int a__wrong, .int a__number, .int a__text, .int a__made, .int a__deep, .int a__lines, .ref a_open, .int a__opened, .ref a_stack, .int a__top, .ref a_word, .ref a_said, .int a__x, .ref a_worth, .ref a_mate, .ref a_wasSaid, .int a__undone, .int a__boughtNow, .ref a_wayBy, .ref a_wayThen, .int a__walkMost, .int a__walkGoing, .int a__walkSet, .ref a_kept, .long a__drawX, .ref a_images, .ref a_imageX, .ref a_isMade]))]) [0,2] rfl) hE hS⟩ rfl rfl hl.1 rfl (lv_room (Nat.le_of_ble_eq_true rfl)) dX12_giveUp_10 ⟨(Nat.le_of_ble_eq_true rfl), (Nat.le_of_ble_eq_true rfl)⟩) hS (fun _ _ h => h.elim) (fun _ h => h.elim) (fun r8 u t H1 locs ht hvm hw hB hz1 hk1 hS => ?_)
    have hP := hz_keep hP hk1
    clear hk1 hB hz1
    generalize H1 = H at hP hS ⊢
    rcases hw with ⟨rfl, h9⟩ | ⟨rfl, h10, x11, x12⟩
    · have ii13 : (-2147483648) ≤ p1.toInt ∧ p1.toInt ≤ 2147483647 := h9
      refine lv_if_eq (tgt := 29) hx hb dX12_giveUp_13 (by decide) (fun _ => ?_) (fun z => absurd (by decide) z)
      refine lv_iconst (v := (-1)) hx hb dX12_giveUp_29 (by decide) ?_
      refine W.widen (k := 0) (n := 0) (Nat.le_of_ble_eq_true rfl) (Nat.le_of_ble_eq_true rfl) ?_
      exact W.iret (v := (-1)) hx hb hr (fun t ht hW => ⟨⟨(-1), (fun k => match k with | 0 => 0 | 1 => a__undone | _ => 0, fun k => match k with | 0 => a_said_c | 1 => a_wasSaid_c | _ => fun _ => 0), rfl, (Or.inl (⟨rfl, (iv_w h3 (by decide) (by decide)), h_a__undone, hf0, hf1, hf2, hf3⟩)), by rw [ht]; exact hP.sub [0, 1, 2] rfl, hD.sub [0, 1, 2] (by decide) rfl⟩, hS.F ht⟩) hS.2.2 dX12_giveUp_30
    · have ii14 : 0 ≤ p1.toInt ∧ p1.toInt ≤ 11 := h10
      refine lv_if_eq (tgt := 29) hx hb dX12_giveUp_13 (by decide) (fun z => absurd z (by decide)) (fun _ => ?_)
      refine lv_aload_n hx hb dX12_giveUp_16 rfl (lv_at hl 0 rfl) ?_
      refine lv_iload_n hx hb dX12_giveUp_17 rfl (lv_at hl 2 rfl) ?_
      refine lv_iconst (v := 3) hx hb dX12_giveUp_18 (by decide) ?_
      refine va_calli (va_runV (As := [.int p1, .int 3]) (rest := []) ⟨hx, hb, hml, hown, hT⟩ (c_X12_halfOf l D cs kK kV a p1 3 a_tape a__taped a__rules a_sign a_length a_clause a_clauses a_read a__next a__wrong a__number a__text a__made a__deep a__lines a_open a__opened a_stack a__top a_word a_said a__x a_worth a_mate a_wasSaid a__undone a__boughtNow a_wayBy a_wayThen a__walkMost a__walkGoing a__walkSet a_kept a__drawX a_images a_imageX a_isMade a_said_c h10 ((iv_c (by decide))) h_a__taped h_a__rules h_a__next h_a__text h_a__made h_a__lines h_a__opened h_a__top h_a__x h_a__undone) (cwV 2 hT (hz_gV q_1104 q_1105 q_1106 q_701 q_1107) rfl rfl rfl (by decide +kernel) ⟨(Nat.le_of_ble_eq_true rfl), (Nat.le_of_ble_eq_true rfl)⟩) ⟨hz_P.blind, va_recv hK hP (ci := 12) (q0 := 2) rfl rfl, hz_P.mk (hP.sub (ws' := [(a, .inr (12, [.ref a_tape, .int a__taped, .int a__rules, .ref a_sign, .ref a_length, .ref a_clause, .ref a_clauses, .ref a_read, .int a__next, .int a__wrong, .int a__number, .int a__text, .int a__made, .int a__deep, .int a__lines, .ref a_open, .int a__opened, .ref a_stack, .int a__top, .ref a_word, .ref a_said, .int a__x, .ref a_worth, .ref a_mate, .ref a_wasSaid, .int a__undone, .int a__boughtNow, .ref a_wayBy, .ref a_wayThen, .int a__walkMost, .int a__walkGoing, .int a__walkSet, .ref a_kept, .long a__drawX, .ref a_images, .ref a_imageX, .ref a_isMade])), (a_said, .inl (cs 0, 123, .inl a_said_c))]) [2,0] rfl) hE hS⟩ rfl rfl hl.1 rfl (lv_room (Nat.le_of_ble_eq_true rfl)) dX12_giveUp_19 ⟨(Nat.le_of_ble_eq_true rfl), (Nat.le_of_ble_eq_true rfl)⟩) hS (fun _ _ h => h.elim) (fun _ h => h.elim) (fun r15 u t H1 locs ht hvm hw hB hz1 hk1 hS => ?_)
      have hP := hz_keep hP hk1
      clear hk1 hB hz1
      generalize H1 = H at hP hS ⊢
      have x16 := hw
      have z3 : (3 : Int32).toInt = 3 := by decide
      refine lv_bipush (v := 100) hx hb dX12_giveUp_22 (by decide) ?_
      refine lv_iload_n hx hb dX12_giveUp_24 rfl (lv_at hl 1 rfl) ?_
      refine lv_iadd hx hb dX12_giveUp_25 ?_
      refine lv_topi (fun v17 ev17 => ?_)
      have hv17 : IV 100 103 v17 := iv_add ev17 (iv_c (a := 100) (b := 100) (by decide)) h3 (by decide) (by decide)
      have ii18 : 100 ≤ v17.toInt ∧ v17.toInt ≤ 103 := hv17
      have lv17 : v17.toInt = 100 + p0.toInt := lin_add ev17 (iv_c (a := 100) (b := 100) (by decide)) h3 (by decide) rfl (by decide) (by decide)
      refine lv_icmp_eq (tgt := 31) hx hb dX12_giveUp_26 (by decide) (fun c19 => ?_) (fun c19 => ?_)
      · have t20 : r15.toInt = v17.toInt := lin_eq c19 rfl rfl
        have h21 : IV 100 103 r15 := iv_eq1 c19 iv_top hv17 (by decide) (by decide)
        have ii22 : 100 ≤ r15.toInt ∧ r15.toInt ≤ 103 := h21
        refine lv_aload_n hx hb dX12_giveUp_31 rfl (lv_at hl 0 rfl) ?_
        have hFc := va_free (wc := [(a_said, .inl (cs 0, 123, .inl a_said_c)), (a_wasSaid, .inl (cs 0, 1720, .inl a_wasSaid_c)), (a, .inr (12, [.ref a_tape, .int a__taped, .int a__rules, .ref a_sign, .ref a_length, .ref a_clause, .ref a_clauses, .ref a_read, .int a__next, .int a__wrong, .int a__number, .int a__text, .int a__made, .int a__deep, .int a__lines, .ref a_open, .int a__opened, .ref a_stack, .int a__top, .ref a_word, .ref a_said, .int a__x, .ref a_worth, .ref a_mate, .ref a_wasSaid, .int a__undone, .int a__boughtNow, .ref a_wayBy, .ref a_wayThen, .int a__walkMost, .int a__walkGoing, .int a__walkSet, .ref a_kept, .long a__drawX, .ref a_images, .ref a_imageX, .ref a_isMade]))]) hD hS hA [0,1,2] rfl
        refine va_callv (va_runV (As := []) (rest := []) ⟨hx, hb, hml, hown, hT⟩ (c_X12_keepsAct l D cs kK kV a a_said a_said_c a_wasSaid a_wasSaid_c a_tape a__taped a__rules a_sign a_length a_clause a_clauses a_read a__next a__wrong a__number a__text a__made a__deep a__lines a_open a__opened a_stack a__top a_word a__x a_worth a_mate a__undone a__boughtNow a_wayBy a_wayThen a__walkMost a__walkGoing a__walkSet a_kept a__drawX a_images a_imageX a_isMade h_a__taped h_a__rules h_a__next h_a__text h_a__made h_a__lines h_a__opened h_a__top h_a__x h_a__undone ((bs_99 hf0 (by omega))) hf3 H.size) (cwV 0 hT (hz_gV q_1168 q_1169 q_1170 q_701 q_1171) rfl rfl rfl (by decide +kernel) ⟨(Nat.le_of_ble_eq_true rfl), (Nat.le_of_ble_eq_true rfl)⟩) ⟨hz_C.blind, va_recv hK hP (ci := 12) (q0 := 2) rfl rfl, hz_C.mk (hP.sub (ws' := [(a_said, .inl (cs 0, 123, .inl a_said_c)), (a_wasSaid, .inl (cs 0, 1720, .inl a_wasSaid_c)), (a, .inr (12, [.ref a_tape, .int a__taped, .int a__rules, .ref a_sign, .ref a_length, .ref a_clause, .ref a_clauses, .ref a_read, .int a__next, .int a__wrong, .int a__number, .int a__text, .int a__made, .int a__deep, .int a__lines, .ref a_open, .int a__opened, .ref a_stack, .int a__top, .ref a_word, .ref a_said, .int a__x, .ref a_worth, .ref a_mate, .ref a_wasSaid, .int a__undone, .int a__boughtNow, .ref a_wayBy, .ref a_wayThen, .int a__walkMost, .int a__walkGoing, .int a__walkSet, .ref a_kept, .long a__drawX, .ref a_images, .ref a_imageX, .ref a_isMade]))]) [0,1,2] rfl) (hD.sub (ws' := [(a_said, .inl (cs 0, 123, .inl a_said_c)), (a_wasSaid, .inl (cs 0, 1720, .inl a_wasSaid_c)), (a, .inr (12, [.ref a_tape, .int a__taped, .int a__rules, .ref a_sign, .ref a_length, .ref a_clause, .ref a_clauses, .ref a_read, .int a__next, .int a__wrong, .int a__number, .int a__text, .int a__made, .int a__deep, .int a__lines, .ref a_open, .int a__opened, .ref a_stack, .int a__top, .ref a_word, .ref a_said, .int a__x, .ref a_worth, .ref a_mate, .ref a_wasSaid, .int a__undone, .int a__boughtNow, .ref a_wayBy, .ref a_wayThen, .int a__walkMost, .int a__walkGoing, .int a__walkSet, .ref a_kept, .long a__drawX, .ref a_images, .ref a_imageX, .ref a_isMade]))]) [0,1,2] (by decide) rfl) hE hS hFc⟩ rfl rfl hl.1 rfl (lv_room (Nat.le_of_ble_eq_true rfl)) dX12_giveUp_32 ⟨(Nat.le_of_ble_eq_true rfl), (Nat.le_of_ble_eq_true rfl)⟩) hS (fun q _ h => hFc q h) hFc (fun o24 t H1 locs ht hvm hw hB hz1 hk1 hS => ?_)
        obtain ⟨hP1, hD1⟩ := hB
        rw [ht] at hP1
        obtain ⟨hP, hD⟩ := va_join (wr := []) (w1 := [(a_said, .inl (cs 0, 123, .inl a_said_c)), (a_wasSaid, .inl (cs 0, 1720, .inl (o24.2 0))), (a, .inr (12, [.ref a_tape, .int a__taped, .int a__rules, .ref a_sign, .ref a_length, .ref a_clause, .ref a_clauses, .ref a_read, .int a__next, .int a__wrong, .int a__number, .int a__text, .int a__made, .int a__deep, .int a__lines, .ref a_open, .int a__opened, .ref a_stack, .int a__top, .ref a_word, .ref a_said, .int a__x, .ref a_worth, .ref a_mate, .ref a_wasSaid, .int (o24.1 1), .int a__boughtNow, .ref a_wayBy, .ref a_wayThen, .int a__walkMost, .int a__walkGoing, .int a__walkSet, .ref a_kept, .long a__drawX, .ref a_images, .ref a_imageX, .ref a_isMade]))]) hP hD [0, 1, 2] [] rfl rfl (by decide) (by decide) hk1 hFc hP1 hD1
        generalize H1 = H at hP hS ⊢
        have hP : va_P D classes [(a_said, .inl (cs 0, 123, .inl a_said_c)), (a_wasSaid, .inl (cs 0, 1720, .inl (o24.2 0))), (a, .inr (12, [.ref a_tape, .int a__taped, .int a__rules, .ref a_sign, .ref a_length, .ref a_clause, .ref a_clauses, .ref a_read, .int a__next, .int a__wrong, .int a__number, .int a__text, .int a__made, .int a__deep, .int a__lines, .ref a_open, .int a__opened, .ref a_stack, .int a__top, .ref a_word, .ref a_said, .int a__x, .ref a_worth, .ref a_mate, .ref a_wasSaid, .int (o24.1 1), .int a__boughtNow, .ref a_wayBy, .ref a_wayThen, .int a__walkMost, .int a__walkGoing, .int a__walkSet, .ref a_kept, .long a__drawX, .ref a_images, .ref a_imageX, .ref a_isMade]))] H := hP
        have hD : va_D A [(a_said, .inl (cs 0, 123, .inl a_said_c)), (a_wasSaid, .inl (cs 0, 1720, .inl (o24.2 0))), (a, .inr (12, [.ref a_tape, .int a__taped, .int a__rules, .ref a_sign, .ref a_length, .ref a_clause, .ref a_clauses, .ref a_read, .int a__next, .int a__wrong, .int a__number, .int a__text, .int a__made, .int a__deep, .int a__lines, .ref a_open, .int a__opened, .ref a_stack, .int a__top, .ref a_word, .ref a_said, .int a__x, .ref a_worth, .ref a_mate, .ref a_wasSaid, .int (o24.1 1), .int a__boughtNow, .ref a_wayBy, .ref a_wayThen, .int a__walkMost, .int a__walkGoing, .int a__walkSet, .ref a_kept, .long a__drawX, .ref a_images, .ref a_imageX, .ref a_isMade]))] := hD
        clear hk1 hFc hP1 hD1 hz1
        rcases hw with ⟨h25, x26⟩
        have ii27 : 1 ≤ (o24.1 1).toInt ∧ (o24.1 1).toInt ≤ 20 := h25
        refine lv_aload_n hx hb dX12_giveUp_35 rfl (lv_at hl 0 rfl) ?_
        refine va_get (D := D) (ci := 12) (v := .ref a_said) (C := RX12) (T := TX12) (N := 37) hx hb hT i_X12 hown hK hP 2 rfl rfl 20 (by decide) (hT _ q_185) (fun _ h9 => h9) rfl dX12_giveUp_36 ?_
        refine lv_bipush (v := 10) hx hb dX12_giveUp_39 (by decide) ?_
        refine lv_iconst (v := 5) hx hb dX12_giveUp_41 (by decide) ?_
        refine lv_iload_n hx hb dX12_giveUp_42 rfl (lv_at hl 2 rfl) ?_
        refine lv_imul hx hb dX12_giveUp_43 ?_
        refine lv_topi (fun v28 ev28 => ?_)
        have hv28 : IV 0 55 v28 := iv_mul ev28 (iv_c (a := 5) (b := 5) (by decide)) h10 (by decide) (by decide) (by decide) (by decide)
        have ii29 : 0 ≤ v28.toInt ∧ v28.toInt ≤ 55 := hv28
        have lv28 : v28.toInt = 5 * p1.toInt := lin_mul ev28 (iv_c (a := 5) (b := 5) (by decide)) h10 (by decide) rfl (by decide) (by decide) (by decide) (by decide)
        refine lv_iadd hx hb dX12_giveUp_44 ?_
        refine lv_topi (fun v30 ev30 => ?_)
        have hv30 : IV 10 65 v30 := iv_add ev30 (iv_c (a := 10) (b := 10) (by decide)) hv28 (by decide) (by decide)
        have ii31 : 10 ≤ v30.toInt ∧ v30.toInt ≤ 65 := hv30
        have lv30 : v30.toInt = 10 + v28.toInt := lin_add ev30 (iv_c (a := 10) (b := 10) (by decide)) hv28 (by decide) rfl (by decide) (by decide)
        refine lv_iconst (v := 3) hx hb dX12_giveUp_45 (by decide) ?_
        refine lv_iadd hx hb dX12_giveUp_46 ?_
        refine lv_topi (fun v32 ev32 => ?_)
        have hv32 : IV 13 68 v32 := iv_add ev32 hv30 (iv_c (a := 3) (b := 3) (by decide)) (by decide) (by decide)
        have ii33 : 13 ≤ v32.toInt ∧ v32.toInt ≤ 68 := hv32
        have dv32 : v32.toInt = v30.toInt + 3 := iv_addE ev32 hv30 (iv_c (a := 3) (b := 3) (by decide)) (by decide) (by decide) (by decide)
        have lv32 : v32.toInt = v30.toInt + 3 := lin_add ev32 hv30 (iv_c (a := 3) (b := 3) (by decide)) rfl (by decide) (by decide) (by decide)
        refine lv_aload_n hx hb dX12_giveUp_47 rfl (lv_at hl 0 rfl) ?_
        refine lv_aload_n hx hb dX12_giveUp_48 rfl (lv_at hl 0 rfl) ?_
        refine lv_iload_n hx hb dX12_giveUp_49 rfl (lv_at hl 1 rfl) ?_
        refine lv_iconst (v := 1) hx hb dX12_giveUp_50 (by decide) ?_
        refine va_calli (va_runV (As := [.int p0, .int 1]) (rest := [.ref a, .int v32, .ref a_said]) ⟨hx, hb, hml, hown, hT⟩ (c_X12_buyerOf l D cs kK kV a p0 1 a_said a_said_c a_tape a__taped a__rules a_sign a_length a_clause a_clauses a_read a__next a__wrong a__number a__text a__made a__deep a__lines a_open a__opened a_stack a__top a_word a__x a_worth a_mate a_wasSaid (o24.1 1) a__boughtNow a_wayBy a_wayThen a__walkMost a__walkGoing a__walkSet a_kept a__drawX a_images a_imageX a_isMade h3 ((iv_c (by decide))) h_a__taped h_a__rules h_a__next h_a__text h_a__made h_a__lines h_a__opened h_a__top h_a__x ((iv_w h25 (by decide) (by decide))) hf0) (cwV 2 hT (hz_gV q_1120 q_1121 q_1122 q_701 q_1123) rfl rfl rfl (by decide +kernel) ⟨(Nat.le_of_ble_eq_true rfl), (Nat.le_of_ble_eq_true rfl)⟩) ⟨hz_P.blind, va_recv hK hP (ci := 12) (q0 := 2) rfl rfl, hz_P.mk (hP.sub (ws' := [(a_said, .inl (cs 0, 123, .inl a_said_c)), (a, .inr (12, [.ref a_tape, .int a__taped, .int a__rules, .ref a_sign, .ref a_length, .ref a_clause, .ref a_clauses, .ref a_read, .int a__next, .int a__wrong, .int a__number, .int a__text, .int a__made, .int a__deep, .int a__lines, .ref a_open, .int a__opened, .ref a_stack, .int a__top, .ref a_word, .ref a_said, .int a__x, .ref a_worth, .ref a_mate, .ref a_wasSaid, .int (o24.1 1), .int a__boughtNow, .ref a_wayBy, .ref a_wayThen, .int a__walkMost, .int a__walkGoing, .int a__walkSet, .ref a_kept, .long a__drawX, .ref a_images, .ref a_imageX, .ref a_isMade]))]) [0,2] rfl) hE hS⟩ rfl rfl hl.1 rfl (lv_room (Nat.le_of_ble_eq_true rfl)) dX12_giveUp_51 ⟨(Nat.le_of_ble_eq_true rfl), (Nat.le_of_ble_eq_true rfl)⟩) hS (fun _ _ h => h.elim) (fun _ h => h.elim) (fun r34 u t H1 locs ht hvm hw hB hz1 hk1 hS => ?_)
        have hP := hz_keep hP hk1
        clear hk1 hB hz1
        generalize H1 = H at hP hS ⊢
        rcases hw with ⟨x35, x36⟩
        have sp := x36 (by decide) (by omega)
        refine lv_aload_n hx hb dX12_giveUp_54 rfl (lv_at hl 0 rfl) ?_
        refine va_get (D := D) (ci := 12) (v := .ref a_said) (C := RX12) (T := TX12) (N := 37) hx hb hT i_X12 hown hK hP 2 rfl rfl 20 (by decide) (hT _ q_185) (fun _ h9 => h9) rfl dX12_giveUp_55 ?_
        refine lv_iconst (v := 3) hx hb dX12_giveUp_58 (by decide) ?_
        refine va_iald hx hb hK hP 0 0 rfl rfl (iv_vc (by decide)) dX12_giveUp_59 ?_
        refine lv_topi (fun v37 ev37 => ?_)
        have h38 : IV 0 200 v37 := (by rw [ev37]; exact bs_i3 hf0)
        have ii39 : 0 ≤ v37.toInt ∧ v37.toInt ≤ 200 := h38
        have lv37 : v37.toInt = (a_said_c 3).toInt := by rw [ev37]; rfl
        refine va_calli (va_runV (As := [.int r34, .int v37]) (rest := [.int v32, .ref a_said]) ⟨hx, hb, hml, hown, hT⟩ (c_X12_stallAt l D cs kK kV a r34 v37 a_said a_said_c a_tape a__taped a__rules a_sign a_length a_clause a_clauses a_read a__next a__wrong a__number a__text a__made a__deep a__lines a_open a__opened a_stack a__top a_word a__x a_worth a_mate a_wasSaid (o24.1 1) a__boughtNow a_wayBy a_wayThen a__walkMost a__walkGoing a__walkSet a_kept a__drawX a_images a_imageX a_isMade ((iv_w h38 (by decide) (by decide))) h_a__taped h_a__rules h_a__next h_a__text h_a__made h_a__lines h_a__opened h_a__top h_a__x ((iv_w h25 (by decide) (by decide))) hf0 ((by omega)) ((by omega))) (cwV 2 hT (hz_gV q_1124 q_1125 q_1126 q_701 q_1127) rfl rfl rfl (by decide +kernel) ⟨(Nat.le_of_ble_eq_true rfl), (Nat.le_of_ble_eq_true rfl)⟩) ⟨hz_P.blind, va_recv hK hP (ci := 12) (q0 := 2) rfl rfl, hz_P.mk (hP.sub (ws' := [(a_said, .inl (cs 0, 123, .inl a_said_c)), (a, .inr (12, [.ref a_tape, .int a__taped, .int a__rules, .ref a_sign, .ref a_length, .ref a_clause, .ref a_clauses, .ref a_read, .int a__next, .int a__wrong, .int a__number, .int a__text, .int a__made, .int a__deep, .int a__lines, .ref a_open, .int a__opened, .ref a_stack, .int a__top, .ref a_word, .ref a_said, .int a__x, .ref a_worth, .ref a_mate, .ref a_wasSaid, .int (o24.1 1), .int a__boughtNow, .ref a_wayBy, .ref a_wayThen, .int a__walkMost, .int a__walkGoing, .int a__walkSet, .ref a_kept, .long a__drawX, .ref a_images, .ref a_imageX, .ref a_isMade]))]) [0,2] rfl) hE hS⟩ rfl rfl hl.1 rfl (lv_room (Nat.le_of_ble_eq_true rfl)) dX12_giveUp_60 ⟨(Nat.le_of_ble_eq_true rfl), (Nat.le_of_ble_eq_true rfl)⟩) hS (fun _ _ h => h.elim) (fun _ h => h.elim) (fun r40 u t H1 locs ht hvm hw hB hz1 hk1 hS => ?_)
        have hP := hz_keep hP hk1
        clear hk1 hB hz1
        generalize H1 = H at hP hS ⊢
        rcases hw with ⟨h41, h42, x43⟩
        have ii44 : 0 ≤ r40.toInt ∧ r40.toInt ≤ 7 := h41
        have ii45 : (-7) ≤ r34.toInt ∧ r34.toInt ≤ 7 := h42
        refine va_iast hx hb hK hP hD hS 0 0 rfl rfl (iv_v hv32 (by decide) (by decide)) dX12_giveUp_63 (fun H locs hP hD hS => ?_)
        have hP : va_P D classes [(a_said, .inl (cs 0, 123, .inl (upd a_said_c (Int32.toNatClampNeg v32) r40))), (a_wasSaid, .inl (cs 0, 1720, .inl (o24.2 0))), (a, .inr (12, [.ref a_tape, .int a__taped, .int a__rules, .ref a_sign, .ref a_length, .ref a_clause, .ref a_clauses, .ref a_read, .int a__next, .int a__wrong, .int a__number, .int a__text, .int a__made, .int a__deep, .int a__lines, .ref a_open, .int a__opened, .ref a_stack, .int a__top, .ref a_word, .ref a_said, .int a__x, .ref a_worth, .ref a_mate, .ref a_wasSaid, .int (o24.1 1), .int a__boughtNow, .ref a_wayBy, .ref a_wayThen, .int a__walkMost, .int a__walkGoing, .int a__walkSet, .ref a_kept, .long a__drawX, .ref a_images, .ref a_imageX, .ref a_isMade]))] H := hP
        have hD : va_D A [(a_said, .inl (cs 0, 123, .inl (upd a_said_c (Int32.toNatClampNeg v32) r40))), (a_wasSaid, .inl (cs 0, 1720, .inl (o24.2 0))), (a, .inr (12, [.ref a_tape, .int a__taped, .int a__rules, .ref a_sign, .ref a_length, .ref a_clause, .ref a_clauses, .ref a_read, .int a__next, .int a__wrong, .int a__number, .int a__text, .int a__made, .int a__deep, .int a__lines, .ref a_open, .int a__opened, .ref a_stack, .int a__top, .ref a_word, .ref a_said, .int a__x, .ref a_worth, .ref a_mate, .ref a_wasSaid, .int (o24.1 1), .int a__boughtNow, .ref a_wayBy, .ref a_wayThen, .int a__walkMost, .int a__walkGoing, .int a__walkSet, .ref a_kept, .long a__drawX, .ref a_images, .ref a_imageX, .ref a_isMade]))] := hD
        obtain ⟨f46, uf46⟩ : ∃ z, z = upd a_said_c (Int32.toNatClampNeg v32) r40 := ⟨_, rfl⟩
        rw [← uf46] at hP hD
        have wf46 : (f46 (Int32.toNatClampNeg v32)).toInt = r40.toInt := lin_us uf46 rfl
        have kk47 : (f46 0).toInt = (a_said_c 0).toInt := congrArg Int32.toInt (by rw [uf46, pk_un (show 0 ≠ Int32.toNatClampNeg v32 from by (have q : Int32.toNatClampNeg v32 = v32.toInt.toNat := rfl); omega)])
        have kk48 : (f46 1).toInt = (a_said_c 1).toInt := congrArg Int32.toInt (by rw [uf46, pk_un (show 1 ≠ Int32.toNatClampNeg v32 from by (have q : Int32.toNatClampNeg v32 = v32.toInt.toNat := rfl); omega)])
        have kk49 : (f46 2).toInt = (a_said_c 2).toInt := congrArg Int32.toInt (by rw [uf46, pk_un (show 2 ≠ Int32.toNatClampNeg v32 from by (have q : Int32.toNatClampNeg v32 = v32.toInt.toNat := rfl); omega)])
        have kk50 : (f46 3).toInt = (a_said_c 3).toInt := congrArg Int32.toInt (by rw [uf46, pk_un (show 3 ≠ Int32.toNatClampNeg v32 from by (have q : Int32.toNatClampNeg v32 = v32.toInt.toNat := rfl); omega)])
        have fb51 : BS f46 200 := (bs_upd hf0 uf46 (show Int32.toNatClampNeg v32 ≠ 0 ∧ Int32.toNatClampNeg v32 ≠ 1 ∧ Int32.toNatClampNeg v32 ≠ 2 ∧ Int32.toNatClampNeg v32 ≠ 3 ∧ Int32.toNatClampNeg v32 ≠ 4 ∧ Int32.toNatClampNeg v32 ≠ 71 ∧ Int32.toNatClampNeg v32 ≠ 75 ∧ Int32.toNatClampNeg v32 ≠ 79 ∧ Int32.toNatClampNeg v32 ≠ 83 from by (have q : Int32.toNatClampNeg v32 = v32.toInt.toNat := rfl); omega))
        have fb52 : TR f46 := tr_upd hf1 uf46 (show Int32.toNatClampNeg v32 < 86 from by (have q : Int32.toNatClampNeg v32 = v32.toInt.toNat := rfl); omega)
        refine lv_aload_n hx hb dX12_giveUp_64 rfl (lv_at hl 0 rfl) ?_
        refine va_get (D := D) (ci := 12) (v := .ref a_said) (C := RX12) (T := TX12) (N := 37) hx hb hT i_X12 hown hK hP 2 rfl rfl 20 (by decide) (hT _ q_185) (fun _ h9 => h9) rfl dX12_giveUp_65 ?_
        refine lv_bipush (v := 70) hx hb dX12_giveUp_68 (by decide) ?_
        refine lv_iconst (v := 4) hx hb dX12_giveUp_70 (by decide) ?_
        refine lv_iload_n hx hb dX12_giveUp_71 rfl (lv_at hl 1 rfl) ?_
        refine lv_imul hx hb dX12_giveUp_72 ?_
        refine lv_topi (fun v53 ev53 => ?_)
        have hv53 : IV 0 12 v53 := iv_mul ev53 (iv_c (a := 4) (b := 4) (by decide)) h3 (by decide) (by decide) (by decide) (by decide)
        have ii54 : 0 ≤ v53.toInt ∧ v53.toInt ≤ 12 := hv53
        have lv53 : v53.toInt = 4 * p0.toInt := lin_mul ev53 (iv_c (a := 4) (b := 4) (by decide)) h3 (by decide) rfl (by decide) (by decide) (by decide) (by decide)
        refine lv_iadd hx hb dX12_giveUp_73 ?_
        refine lv_topi (fun v55 ev55 => ?_)
        have hv55 : IV 70 82 v55 := iv_add ev55 (iv_c (a := 70) (b := 70) (by decide)) hv53 (by decide) (by decide)
        have ii56 : 70 ≤ v55.toInt ∧ v55.toInt ≤ 82 := hv55
        have lv55 : v55.toInt = 70 + v53.toInt := lin_add ev55 (iv_c (a := 70) (b := 70) (by decide)) hv53 (by decide) rfl (by decide) (by decide)
        refine lv_dup2_11 hx hb dX12_giveUp_74 rfl rfl ?_
        refine va_iald hx hb hK hP 0 0 rfl rfl (iv_v hv55 (by decide) (by decide)) dX12_giveUp_75 ?_
        refine lv_topi (fun v57 ev57 => ?_)
        have lv57 : v57.toInt = (f46 (Int32.toNatClampNeg v55)).toInt := by rw [ev57]
        refine lv_aload_n hx hb dX12_giveUp_76 rfl (lv_at hl 0 rfl) ?_
        refine lv_iload_n hx hb dX12_giveUp_77 rfl (lv_at hl 2 rfl) ?_
        refine va_calli (va_runV (As := [.int p1]) (rest := [.int v57, .int v55, .ref a_said]) ⟨hx, hb, hml, hown, hT⟩ (c_X12_priceOf l D cs kK kV a p1 a_tape a__taped a__rules a_sign a_length a_clause a_clauses a_read a__next a__wrong a__number a__text a__made a__deep a__lines a_open a__opened a_stack a__top a_word a_said a__x a_worth a_mate a_wasSaid (o24.1 1) a__boughtNow a_wayBy a_wayThen a__walkMost a__walkGoing a__walkSet a_kept a__drawX a_images a_imageX a_isMade f46 h10 h_a__taped h_a__rules h_a__next h_a__text h_a__made h_a__lines h_a__opened h_a__top h_a__x ((iv_w h25 (by decide) (by decide)))) (cwV 1 hT (hz_gV q_1152 q_1153 q_1154 q_701 q_1155) rfl rfl rfl (by decide +kernel) ⟨(Nat.le_of_ble_eq_true rfl), (Nat.le_of_ble_eq_true rfl)⟩) ⟨hz_P.blind, va_recv hK hP (ci := 12) (q0 := 2) rfl rfl, hz_P.mk (hP.sub (ws' := [(a, .inr (12, [.ref a_tape, .int a__taped, .int a__rules, .ref a_sign, .ref a_length, .ref a_clause, .ref a_clauses, .ref a_read, .int a__next, .int a__wrong, .int a__number, .int a__text, .int a__made, .int a__deep, .int a__lines, .ref a_open, .int a__opened, .ref a_stack, .int a__top, .ref a_word, .ref a_said, .int a__x, .ref a_worth, .ref a_mate, .ref a_wasSaid, .int (o24.1 1), .int a__boughtNow, .ref a_wayBy, .ref a_wayThen, .int a__walkMost, .int a__walkGoing, .int a__walkSet, .ref a_kept, .long a__drawX, .ref a_images, .ref a_imageX, .ref a_isMade])), (a_said, .inl (cs 0, 123, .inl f46))]) [2,0] rfl) hE hS⟩ rfl rfl hl.1 rfl (lv_room (Nat.le_of_ble_eq_true rfl)) dX12_giveUp_78 ⟨(Nat.le_of_ble_eq_true rfl), (Nat.le_of_ble_eq_true rfl)⟩) hS (fun _ _ h => h.elim) (fun _ h => h.elim) (fun r58 u t H1 locs ht hvm hw hB hz1 hk1 hS => ?_)
        have hP := hz_keep hP hk1
        clear hk1 hB hz1
        generalize H1 = H at hP hS ⊢
        refine lv_iconst (v := 2) hx hb dX12_giveUp_81 (by decide) ?_
        refine lv_idiv hx hb dX12_giveUp_82 (by decide) ?_
        refine lv_topi (fun v59 ev59 => ?_)
        refine lv_iadd hx hb dX12_giveUp_83 ?_
        refine lv_topi (fun v60 ev60 => ?_)
        refine va_iast hx hb hK hP hD hS 0 0 rfl rfl (iv_v hv55 (by decide) (by decide)) dX12_giveUp_84 (fun H locs hP hD hS => ?_)
        have hP : va_P D classes [(a_said, .inl (cs 0, 123, .inl (upd f46 (Int32.toNatClampNeg v55) v60))), (a_wasSaid, .inl (cs 0, 1720, .inl (o24.2 0))), (a, .inr (12, [.ref a_tape, .int a__taped, .int a__rules, .ref a_sign, .ref a_length, .ref a_clause, .ref a_clauses, .ref a_read, .int a__next, .int a__wrong, .int a__number, .int a__text, .int a__made, .int a__deep, .int a__lines, .ref a_open, .int a__opened, .ref a_stack, .int a__top, .ref a_word, .ref a_said, .int a__x, .ref a_worth, .ref a_mate, .ref a_wasSaid, .int (o24.1 1), .int a__boughtNow, .ref a_wayBy, .ref a_wayThen, .int a__walkMost, .int a__walkGoing, .int a__walkSet, .ref a_kept, .long a__drawX, .ref a_images, .ref a_imageX, .ref a_isMade]))] H := hP
        have hD : va_D A [(a_said, .inl (cs 0, 123, .inl (upd f46 (Int32.toNatClampNeg v55) v60))), (a_wasSaid, .inl (cs 0, 1720, .inl (o24.2 0))), (a, .inr (12, [.ref a_tape, .int a__taped, .int a__rules, .ref a_sign, .ref a_length, .ref a_clause, .ref a_clauses, .ref a_read, .int a__next, .int a__wrong, .int a__number, .int a__text, .int a__made, .int a__deep, .int a__lines, .ref a_open, .int a__opened, .ref a_stack, .int a__top, .ref a_word, .ref a_said, .int a__x, .ref a_worth, .ref a_mate, .ref a_wasSaid, .int (o24.1 1), .int a__boughtNow, .ref a_wayBy, .ref a_wayThen, .int a__walkMost, .int a__walkGoing, .int a__walkSet, .ref a_kept, .long a__drawX, .ref a_images, .ref a_imageX, .ref a_isMade]))] := hD
        obtain ⟨f61, uf61⟩ : ∃ z, z = upd f46 (Int32.toNatClampNeg v55) v60 := ⟨_, rfl⟩
        rw [← uf61] at hP hD
        have wf61 : (f61 (Int32.toNatClampNeg v55)).toInt = v60.toInt := lin_us uf61 rfl
        have kk62 : (f61 0).toInt = (f46 0).toInt := congrArg Int32.toInt (by rw [uf61, pk_un (show 0 ≠ Int32.toNatClampNeg v55 from by (have q : Int32.toNatClampNeg v55 = v55.toInt.toNat := rfl); omega)])
        have kk63 : (f61 1).toInt = (f46 1).toInt := congrArg Int32.toInt (by rw [uf61, pk_un (show 1 ≠ Int32.toNatClampNeg v55 from by (have q : Int32.toNatClampNeg v55 = v55.toInt.toNat := rfl); omega)])
        have kk64 : (f61 2).toInt = (f46 2).toInt := congrArg Int32.toInt (by rw [uf61, pk_un (show 2 ≠ Int32.toNatClampNeg v55 from by (have q : Int32.toNatClampNeg v55 = v55.toInt.toNat := rfl); omega)])
        have kk65 : (f61 3).toInt = (f46 3).toInt := congrArg Int32.toInt (by rw [uf61, pk_un (show 3 ≠ Int32.toNatClampNeg v55 from by (have q : Int32.toNatClampNeg v55 = v55.toInt.toNat := rfl); omega)])
        have fb66 : BS f61 200 := (bs_upd fb51 uf61 (show Int32.toNatClampNeg v55 ≠ 0 ∧ Int32.toNatClampNeg v55 ≠ 1 ∧ Int32.toNatClampNeg v55 ≠ 2 ∧ Int32.toNatClampNeg v55 ≠ 3 ∧ Int32.toNatClampNeg v55 ≠ 4 ∧ Int32.toNatClampNeg v55 ≠ 71 ∧ Int32.toNatClampNeg v55 ≠ 75 ∧ Int32.toNatClampNeg v55 ≠ 79 ∧ Int32.toNatClampNeg v55 ≠ 83 from by (have q : Int32.toNatClampNeg v55 = v55.toInt.toNat := rfl); omega))
        have fb67 : TR f61 := tr_upd fb52 uf61 (show Int32.toNatClampNeg v55 < 86 from by (have q : Int32.toNatClampNeg v55 = v55.toInt.toNat := rfl); omega)
        refine lv_aload_n hx hb dX12_giveUp_85 rfl (lv_at hl 0 rfl) ?_
        refine lv_iload_n hx hb dX12_giveUp_86 rfl (lv_at hl 1 rfl) ?_
        refine lv_iconst (v := 0) hx hb dX12_giveUp_87 (by decide) ?_
        refine va_calli (va_runV (As := [.int p0, .int 0]) (rest := []) ⟨hx, hb, hml, hown, hT⟩ (c_X12_buyerOf l D cs kK kV a p0 0 a_said f61 a_tape a__taped a__rules a_sign a_length a_clause a_clauses a_read a__next a__wrong a__number a__text a__made a__deep a__lines a_open a__opened a_stack a__top a_word a__x a_worth a_mate a_wasSaid (o24.1 1) a__boughtNow a_wayBy a_wayThen a__walkMost a__walkGoing a__walkSet a_kept a__drawX a_images a_imageX a_isMade h3 ((iv_c (by decide))) h_a__taped h_a__rules h_a__next h_a__text h_a__made h_a__lines h_a__opened h_a__top h_a__x ((iv_w h25 (by decide) (by decide))) fb66) (cwV 2 hT (hz_gV q_1120 q_1121 q_1122 q_701 q_1123) rfl rfl rfl (by decide +kernel) ⟨(Nat.le_of_ble_eq_true rfl), (Nat.le_of_ble_eq_true rfl)⟩) ⟨hz_P.blind, va_recv hK hP (ci := 12) (q0 := 2) rfl rfl, hz_P.mk (hP.sub (ws' := [(a_said, .inl (cs 0, 123, .inl f61)), (a, .inr (12, [.ref a_tape, .int a__taped, .int a__rules, .ref a_sign, .ref a_length, .ref a_clause, .ref a_clauses, .ref a_read, .int a__next, .int a__wrong, .int a__number, .int a__text, .int a__made, .int a__deep, .int a__lines, .ref a_open, .int a__opened, .ref a_stack, .int a__top, .ref a_word, .ref a_said, .int a__x, .ref a_worth, .ref a_mate, .ref a_wasSaid, .int (o24.1 1), .int a__boughtNow, .ref a_wayBy, .ref a_wayThen, .int a__walkMost, .int a__walkGoing, .int a__walkSet, .ref a_kept, .long a__drawX, .ref a_images, .ref a_imageX, .ref a_isMade]))]) [0,2] rfl) hE hS⟩ rfl rfl hl.1 rfl (lv_room (Nat.le_of_ble_eq_true rfl)) dX12_giveUp_88 ⟨(Nat.le_of_ble_eq_true rfl), (Nat.le_of_ble_eq_true rfl)⟩) hS (fun _ _ h => h.elim) (fun _ h => h.elim) (fun r68 u t H1 locs ht hvm hw hB hz1 hk1 hS => ?_)
        have hP := hz_keep hP hk1
        clear hk1 hB hz1
        generalize H1 = H at hP hS ⊢
        rcases hw with ⟨x69, x70⟩
        refine W.widen (k := 0) (n := 0) (Nat.le_of_ble_eq_true rfl) (Nat.le_of_ble_eq_true rfl) ?_
        have g71 : (f61 3).toInt ≤ 99 := (by omega)
        exact W.iret (v := r68) hx hb hr (fun t ht hW => ⟨⟨r68, (fun k => match k with | 0 => 0 | 1 => o24.1 1 | _ => 0, fun k => match k with | 0 => f61 | 1 => o24.2 0 | _ => fun _ => 0), rfl, (Or.inr ((⟨h3, h10, h25, fb66, fb67, g71, x26⟩))), by rw [ht]; exact hP.sub [0, 1, 2] rfl, hD.sub [0, 1, 2] (by decide) rfl⟩, hS.F ht⟩) hS.2.2 dX12_giveUp_91
      · have t72 : r15.toInt ≠ v17.toInt := lin_ne c19 rfl rfl
        refine lv_iconst (v := (-1)) hx hb dX12_giveUp_29 (by decide) ?_
        refine W.widen (k := 0) (n := 0) (Nat.le_of_ble_eq_true rfl) (Nat.le_of_ble_eq_true rfl) ?_
        exact W.iret (v := (-1)) hx hb hr (fun t ht hW => ⟨⟨(-1), (fun k => match k with | 0 => 0 | 1 => a__undone | _ => 0, fun k => match k with | 0 => a_said_c | 1 => a_wasSaid_c | _ => fun _ => 0), rfl, (Or.inl (⟨rfl, (iv_w h3 (by decide) (by decide)), h_a__undone, hf0, hf1, hf2, hf3⟩)), by rw [ht]; exact hP.sub [0, 1, 2] rfl, hD.sub [0, 1, 2] (by decide) rfl⟩, hS.F ht⟩) hS.2.2 dX12_giveUp_30
theorem dX12_push_0 : decode cX12_push 0 = .ok (.aload_n 0, 1) := by decide +kernel
theorem dX12_push_1 : decode cX12_push 1 = .ok (.getfield 32, 3) := by decide +kernel
theorem dX12_push_4 : decode cX12_push 4 = .ok (.aload_n 0, 1) := by decide +kernel
theorem dX12_push_5 : decode cX12_push 5 = .ok (.getfield 283, 3) := by decide +kernel
theorem dX12_push_8 : decode cX12_push 8 = .ok (.lload_n 1, 1) := by decide +kernel
theorem dX12_push_9 : decode cX12_push 9 = .ok (.lastore, 1) := by decide +kernel
theorem dX12_push_10 : decode cX12_push 10 = .ok (.aload_n 0, 1) := by decide +kernel
theorem dX12_push_11 : decode cX12_push 11 = .ok (.dup, 1) := by decide +kernel
theorem dX12_push_12 : decode cX12_push 12 = .ok (.getfield 283, 3) := by decide +kernel
theorem dX12_push_15 : decode cX12_push 15 = .ok (.iconst 1, 1) := by decide +kernel
theorem dX12_push_16 : decode cX12_push 16 = .ok (.iadd, 1) := by decide +kernel
theorem dX12_push_17 : decode cX12_push 17 = .ok (.putfield 283, 3) := by decide +kernel
theorem dX12_push_20 : decode cX12_push 20 = .ok (.return_, 1) := by decide +kernel
set_option maxHeartbeats 4000000 in
set_option maxRecDepth 100000 in
theorem c_X12_push (l : Launch) (D : va_G) (cs : Nat → ClassId) (kK kV : Nat → Nat) (a : Nat) (p0 : Int64) (a_tape : Nat) (a__taped : Int32) (a__rules : Int32) (a_sign : Nat) (a_length : Nat) (a_clause : Nat) (a_clauses : Nat) (a_read : Nat) (a__next : Int32) (a__wrong : Int32) (a__number : Int32) (a__text : Int32) (a__made : Int32) (a__deep : Int32) (a__lines : Int32) (a_open : Nat) (a__opened : Int32) (a_stack : Nat) (a__top : Int32) (a_word : Nat) (a_said : Nat) (a__x : Int32) (a_worth : Nat) (a_mate : Nat) (a_wasSaid : Nat) (a__undone : Int32) (a__boughtNow : Int32) (a_wayBy : Nat) (a_wayThen : Nat) (a__walkMost : Int32) (a__walkGoing : Int32) (a__walkSet : Int32) (a_kept : Nat) (a__drawX : Int64) (a_images : Nat) (a_imageX : Nat) (a_isMade : Nat) (a_stack_c : Nat → Int64) (h_a__taped : IV 0 400 a__taped) (h_a__rules : IV 0 6 a__rules) (h_a__next : IV 0 400 a__next) (h_a__text : IV 0 6 a__text) (h_a__made : IV 0 60 a__made) (h_a__lines : IV 0 40 a__lines) (h_a__opened : IV 0 400 a__opened) (h_a__top : IV 0 63 a__top) (h_a__x : IV 0 2147483647 a__x) (h_a__undone : IV 0 20 a__undone) (sz : Nat) : Met l yX12_push (hz_w yX12_push cX12_push 3 none) ({ frames := 0, cells := 0, slots := 0, locals := 0 }) (va_Pc [.ref a, .long p0] (hz_C D cs kK kV sz [(a, .inr (12, [.ref a_tape, .int a__taped, .int a__rules, .ref a_sign, .ref a_length, .ref a_clause, .ref a_clauses, .ref a_read, .int a__next, .int a__wrong, .int a__number, .int a__text, .int a__made, .int a__deep, .int a__lines, .ref a_open, .int a__opened, .ref a_stack, .int a__top, .ref a_word, .ref a_said, .int a__x, .ref a_worth, .ref a_mate, .ref a_wasSaid, .int a__undone, .int a__boughtNow, .ref a_wayBy, .ref a_wayThen, .int a__walkMost, .int a__walkGoing, .int a__walkSet, .ref a_kept, .long a__drawX, .ref a_images, .ref a_imageX, .ref a_isMade])), (a_stack, .inl (cs 3, 64, .inr (.inl a_stack_c)))])) (va_Qv (fun (u : (Nat → Int32) × (Nat → Nat → Int32)) => (IV 1 64 (u.1 1) ∧ ((u.1 1).toInt = a__top.toInt + 1))) (fun u t => ∃ (o_a_stack_c : Nat → Int64), va_P D classes [(a, .inr (12, [.ref a_tape, .int a__taped, .int a__rules, .ref a_sign, .ref a_length, .ref a_clause, .ref a_clauses, .ref a_read, .int a__next, .int a__wrong, .int a__number, .int a__text, .int a__made, .int a__deep, .int a__lines, .ref a_open, .int a__opened, .ref a_stack, .int (u.1 1), .ref a_word, .ref a_said, .int a__x, .ref a_worth, .ref a_mate, .ref a_wasSaid, .int a__undone, .int a__boughtNow, .ref a_wayBy, .ref a_wayThen, .int a__walkMost, .int a__walkGoing, .int a__walkSet, .ref a_kept, .long a__drawX, .ref a_images, .ref a_imageX, .ref a_isMade])), (a_stack, .inl (cs 3, 64, .inr (.inl o_a_stack_c)))] t.heap ∧ va_D (va_A [(a, .inr (12, [.ref a_tape, .int a__taped, .int a__rules, .ref a_sign, .ref a_length, .ref a_clause, .ref a_clauses, .ref a_read, .int a__next, .int a__wrong, .int a__number, .int a__text, .int a__made, .int a__deep, .int a__lines, .ref a_open, .int a__opened, .ref a_stack, .int a__top, .ref a_word, .ref a_said, .int a__x, .ref a_worth, .ref a_mate, .ref a_wasSaid, .int a__undone, .int a__boughtNow, .ref a_wayBy, .ref a_wayThen, .int a__walkMost, .int a__walkGoing, .int a__walkSet, .ref a_kept, .long a__drawX, .ref a_images, .ref a_imageX, .ref a_isMade])), (a_stack, .inl (cs 3, 64, .inr (.inl a_stack_c)))] sz) [(a, .inr (12, [.ref a_tape, .int a__taped, .int a__rules, .ref a_sign, .ref a_length, .ref a_clause, .ref a_clauses, .ref a_read, .int a__next, .int a__wrong, .int a__number, .int a__text, .int a__made, .int a__deep, .int a__lines, .ref a_open, .int a__opened, .ref a_stack, .int (u.1 1), .ref a_word, .ref a_said, .int a__x, .ref a_worth, .ref a_mate, .ref a_wasSaid, .int a__undone, .int a__boughtNow, .ref a_wayBy, .ref a_wayThen, .int a__walkMost, .int a__walkGoing, .int a__walkSet, .ref a_kept, .long a__drawX, .ref a_images, .ref a_imageX, .ref a_isMade])), (a_stack, .inl (cs 3, 64, .inr (.inl o_a_stack_c)))]) (va_A [(a, .inr (12, [.ref a_tape, .int a__taped, .int a__rules, .ref a_sign, .ref a_length, .ref a_clause, .ref a_clauses, .ref a_read, .int a__next, .int a__wrong, .int a__number, .int a__text, .int a__made, .int a__deep, .int a__lines, .ref a_open, .int a__opened, .ref a_stack, .int a__top, .ref a_word, .ref a_said, .int a__x, .ref a_worth, .ref a_mate, .ref a_wasSaid, .int a__undone, .int a__boughtNow, .ref a_wayBy, .ref a_wayThen, .int a__walkMost, .int a__walkGoing, .int a__walkSet, .ref a_kept, .long a__drawX, .ref a_images, .ref a_imageX, .ref a_isMade])), (a_stack, .inl (cs 3, 64, .inr (.inl a_stack_c)))] sz)) 0 0 (va_A [(a, .inr (12, [.ref a_tape, .int a__taped, .int a__rules, .ref a_sign, .ref a_length, .ref a_clause, .ref a_clauses, .ref a_read, .int a__next, .int a__wrong, .int a__number, .int a__text, .int a__made, .int a__deep, .int a__lines, .ref a_open, .int a__opened, .ref a_stack, .int a__top, .ref a_word, .ref a_said, .int a__x, .ref a_worth, .ref a_mate, .ref a_wasSaid, .int a__undone, .int a__boughtNow, .ref a_wayBy, .ref a_wayThen, .int a__walkMost, .int a__walkGoing, .int a__walkSet, .ref a_kept, .long a__drawX, .ref a_images, .ref a_imageX, .ref a_isMade])), (a_stack, .inl (cs 3, 64, .inr (.inl a_stack_c)))] sz) := by
  refine Met.ofW (cc := cX12_push) (maxL := 3) (ret := none) (by decide) rfl ?_
  intro p e s m args below meth c s₁ B hml hv
  obtain ⟨rfl, hsz, hP, hD0, hE⟩ := hv
  have hx := B.exec
  have hb := B.bytes
  have hr := B.returns
  have hT : ∀ w ∈ TB, w.before _ s = true := fun w h => atoms_spec (ws := hz_w yX12_push cX12_push 3 none) B.pre w (List.mem_cons_of_mem _ h)
  have hown : s.vm.findClass RX12 = some m.cls := findClass_of_methodNamed B.named
  have hlocks := B.notSynchronized
  clear B
  subst hsz
  have hD := hD0.self (sz := s.heap.size)
  generalize hAe : va_A [(a, .inr (12, [.ref a_tape, .int a__taped, .int a__rules, .ref a_sign, .ref a_length, .ref a_clause, .ref a_clauses, .ref a_read, .int a__next, .int a__wrong, .int a__number, .int a__text, .int a__made, .int a__deep, .int a__lines, .ref a_open, .int a__opened, .ref a_stack, .int a__top, .ref a_word, .ref a_said, .int a__x, .ref a_worth, .ref a_mate, .ref a_wasSaid, .int a__undone, .int a__boughtNow, .ref a_wayBy, .ref a_wayThen, .int a__walkMost, .int a__walkGoing, .int a__walkSet, .ref a_kept, .long a__drawX, .ref a_images, .ref a_imageX, .ref a_isMade])), (a_stack, .inl (cs 3, 64, .inr (.inl a_stack_c)))] s.heap.size = A at hD hE ⊢
  have hA : ∀ q : Nat, s.heap.size ≤ q → A q := fun q h => by rw [← hAe]; exact Or.inr h
  clear hAe hD0
  have hS : va_S A s.heap s.heap [] := va_S.rf
  have hK := hE.1
  have hl := lv_entry ([.ref a, .long p0]) (n := 3) (Nat.le_of_ble_eq_true rfl)
  rw [lg_entry_eq]
  generalize (lg_sl ([.ref a, .long p0]) ++ List.replicate (3 - (lg_sl ([.ref a, .long p0])).length) Slot.unset).toArray = ls at hl ⊢
  have hl : lv_has ls 3 [(0, .ref a), (1, .long p0)] := hl
  obtain ⟨H, eH⟩ : ∃ z, z = s.heap := ⟨_, rfl⟩
  have hP : va_P D classes [(a, .inr (12, [.ref a_tape, .int a__taped, .int a__rules, .ref a_sign, .ref a_length, .ref a_clause, .ref a_clauses, .ref a_read, .int a__next, .int a__wrong, .int a__number, .int a__text, .int a__made, .int a__deep, .int a__lines, .ref a_open, .int a__opened, .ref a_stack, .int a__top, .ref a_word, .ref a_said, .int a__x, .ref a_worth, .ref a_mate, .ref a_wasSaid, .int a__undone, .int a__boughtNow, .ref a_wayBy, .ref a_wayThen, .int a__walkMost, .int a__walkGoing, .int a__walkSet, .ref a_kept, .long a__drawX, .ref a_images, .ref a_imageX, .ref a_isMade])), (a_stack, .inl (cs 3, 64, .inr (.inl a_stack_c)))] H := by rw [eH]; exact hP
  have hS : va_S A s.heap H [] := by rw [eH]; exact hS
  rw [← eH]
  clear eH
  obtain ⟨locs, el⟩ : ∃ z : List Loc, z = [] := ⟨_, rfl⟩
  rw [← el] at hS ⊢
  clear el
  have z0 : (0 : Int32).toInt = 0 := by decide
  have z1 : (1 : Int32).toInt = 1 := by decide
  have zm1 : (-1 : Int32).toInt = -1 := by decide
  have i_a__lines : 0 ≤ a__lines.toInt ∧ a__lines.toInt ≤ 40 := h_a__lines
  have i_a__made : 0 ≤ a__made.toInt ∧ a__made.toInt ≤ 60 := h_a__made
  have i_a__next : 0 ≤ a__next.toInt ∧ a__next.toInt ≤ 400 := h_a__next
  have i_a__opened : 0 ≤ a__opened.toInt ∧ a__opened.toInt ≤ 400 := h_a__opened
  have i_a__rules : 0 ≤ a__rules.toInt ∧ a__rules.toInt ≤ 6 := h_a__rules
  have i_a__taped : 0 ≤ a__taped.toInt ∧ a__taped.toInt ≤ 400 := h_a__taped
  have i_a__text : 0 ≤ a__text.toInt ∧ a__text.toInt ≤ 6 := h_a__text
  have i_a__top : 0 ≤ a__top.toInt ∧ a__top.toInt ≤ 63 := h_a__top
  have i_a__undone : 0 ≤ a__undone.toInt ∧ a__undone.toInt ≤ 20 := h_a__undone
  have i_a__x : 0 ≤ a__x.toInt ∧ a__x.toInt ≤ 2147483647 := h_a__x
  refine lv_aload_n hx hb dX12_push_0 rfl (lv_at hl 0 rfl) ?_
  refine va_get (D := D) (ci := 12) (v := .ref a_stack) (C := RX12) (T := TX12) (N := 37) hx hb hT i_X12 hown hK hP 0 rfl rfl 17 (by decide) (hT _ q_183) (fun _ h9 => h9) rfl dX12_push_1 ?_
  refine lv_aload_n hx hb dX12_push_4 rfl (lv_at hl 0 rfl) ?_
  refine va_get (D := D) (ci := 12) (v := .int a__top) (C := RX12) (T := TX12) (N := 37) hx hb hT i_X12 hown hK hP 0 rfl rfl 18 (by decide) (hT _ q_206) (fun _ h9 => h9) rfl dX12_push_5 ?_
  refine lv_lload_n hx hb dX12_push_8 rfl (lv_at hl 1 rfl) ?_
  refine va_last hx hb hK hP hD hS 1 3 rfl rfl (iv_v h_a__top (by decide) (by decide)) dX12_push_9 (fun H locs hP hD hS => ?_)
  have hP : va_P D classes [(a, .inr (12, [.ref a_tape, .int a__taped, .int a__rules, .ref a_sign, .ref a_length, .ref a_clause, .ref a_clauses, .ref a_read, .int a__next, .int a__wrong, .int a__number, .int a__text, .int a__made, .int a__deep, .int a__lines, .ref a_open, .int a__opened, .ref a_stack, .int a__top, .ref a_word, .ref a_said, .int a__x, .ref a_worth, .ref a_mate, .ref a_wasSaid, .int a__undone, .int a__boughtNow, .ref a_wayBy, .ref a_wayThen, .int a__walkMost, .int a__walkGoing, .int a__walkSet, .ref a_kept, .long a__drawX, .ref a_images, .ref a_imageX, .ref a_isMade])), (a_stack, .inl (cs 3, 64, .inr (.inl (vp_updL a_stack_c (Int32.toNatClampNeg a__top) p0))))] H := hP
  have hD : va_D A [(a, .inr (12, [.ref a_tape, .int a__taped, .int a__rules, .ref a_sign, .ref a_length, .ref a_clause, .ref a_clauses, .ref a_read, .int a__next, .int a__wrong, .int a__number, .int a__text, .int a__made, .int a__deep, .int a__lines, .ref a_open, .int a__opened, .ref a_stack, .int a__top, .ref a_word, .ref a_said, .int a__x, .ref a_worth, .ref a_mate, .ref a_wasSaid, .int a__undone, .int a__boughtNow, .ref a_wayBy, .ref a_wayThen, .int a__walkMost, .int a__walkGoing, .int a__walkSet, .ref a_kept, .long a__drawX, .ref a_images, .ref a_imageX, .ref a_isMade])), (a_stack, .inl (cs 3, 64, .inr (.inl (vp_updL a_stack_c (Int32.toNatClampNeg a__top) p0))))] := hD
  generalize vp_updL a_stack_c (Int32.toNatClampNeg a__top) p0 = f1 at hP hD
  refine lv_aload_n hx hb dX12_push_10 rfl (lv_at hl 0 rfl) ?_
  refine lv_dup hx hb dX12_push_11 rfl ?_
  refine va_get (D := D) (ci := 12) (v := .int a__top) (C := RX12) (T := TX12) (N := 37) hx hb hT i_X12 hown hK hP 0 rfl rfl 18 (by decide) (hT _ q_206) (fun _ h9 => h9) rfl dX12_push_12 ?_
  refine lv_iconst (v := 1) hx hb dX12_push_15 (by decide) ?_
  refine lv_iadd hx hb dX12_push_16 ?_
  refine lv_topi (fun v2 ev2 => ?_)
  have hv2 : IV 1 64 v2 := iv_add ev2 h_a__top (iv_c (a := 1) (b := 1) (by decide)) (by decide) (by decide)
  have ii3 : 1 ≤ v2.toInt ∧ v2.toInt ≤ 64 := hv2
  have dv2 : v2.toInt = a__top.toInt + 1 := iv_addE ev2 h_a__top (iv_c (a := 1) (b := 1) (by decide)) (by decide) (by decide) (by decide)
  have lv2 : v2.toInt = a__top.toInt + 1 := lin_add ev2 h_a__top (iv_c (a := 1) (b := 1) (by decide)) rfl (by decide) (by decide) (by decide)
  refine va_put (D := D) (ci := 12) (v := .int v2) (ty := .int) (C := RX12) (T := TX12) (N := 37) hx hb hT i_X12 tyX12 tyX12_ok nmX12 hown hK hP hD hS 0 rfl rfl 18 (by decide) (hT _ q_206) (fun _ h9 => h9) rfl (by decide +kernel) rfl rfl (Nat.le_of_ble_eq_true rfl) dX12_push_17 (fun H locs hP hD hS => ?_)
  have hP : va_P D classes [(a, .inr (12, [.ref a_tape, .int a__taped, .int a__rules, .ref a_sign, .ref a_length, .ref a_clause, .ref a_clauses, .ref a_read, .int a__next, .int a__wrong, .int a__number, .int a__text, .int a__made, .int a__deep, .int a__lines, .ref a_open, .int a__opened, .ref a_stack, .int v2, .ref a_word, .ref a_said, .int a__x, .ref a_worth, .ref a_mate, .ref a_wasSaid, .int a__undone, .int a__boughtNow, .ref a_wayBy, .ref a_wayThen, .int a__walkMost, .int a__walkGoing, .int a__walkSet, .ref a_kept, .long a__drawX, .ref a_images, .ref a_imageX, .ref a_isMade])), (a_stack, .inl (cs 3, 64, .inr (.inl f1)))] H := hP
  have hD : va_D A [(a, .inr (12, [.ref a_tape, .int a__taped, .int a__rules, .ref a_sign, .ref a_length, .ref a_clause, .ref a_clauses, .ref a_read, .int a__next, .int a__wrong, .int a__number, .int a__text, .int a__made, .int a__deep, .int a__lines, .ref a_open, .int a__opened, .ref a_stack, .int v2, .ref a_word, .ref a_said, .int a__x, .ref a_worth, .ref a_mate, .ref a_wasSaid, .int a__undone, .int a__boughtNow, .ref a_wayBy, .ref a_wayThen, .int a__walkMost, .int a__walkGoing, .int a__walkSet, .ref a_kept, .long a__drawX, .ref a_images, .ref a_imageX, .ref a_isMade])), (a_stack, .inl (cs 3, 64, .inr (.inl f1)))] := hD
  refine W.widen (k := 0) (n := 0) (Nat.le_of_ble_eq_true rfl) (Nat.le_of_ble_eq_true rfl) ?_
  have g4 : v2.toInt = a__top.toInt + 1 := (by omega)
  exact W.vret hx hb hr (fun t ht hW => ⟨⟨(fun k => match k with | 0 => 0 | 1 => v2 | _ => 0, fun _ _ => 0), rfl, (⟨hv2, g4⟩), f1, by rw [ht]; exact hP.sub [0, 1] rfl, hD.sub [0, 1] (by decide) rfl⟩, hS.F ht⟩) hS.2.2 dX12_push_20
theorem dX12_pop_0 : decode cX12_pop 0 = .ok (.aload_n 0, 1) := by decide +kernel
theorem dX12_pop_1 : decode cX12_pop 1 = .ok (.dup, 1) := by decide +kernel
theorem dX12_pop_2 : decode cX12_pop 2 = .ok (.getfield 283, 3) := by decide +kernel
theorem dX12_pop_5 : decode cX12_pop 5 = .ok (.iconst 1, 1) := by decide +kernel
theorem dX12_pop_6 : decode cX12_pop 6 = .ok (.isub, 1) := by decide +kernel
theorem dX12_pop_7 : decode cX12_pop 7 = .ok (.putfield 283, 3) := by decide +kernel
theorem dX12_pop_10 : decode cX12_pop 10 = .ok (.aload_n 0, 1) := by decide +kernel
theorem dX12_pop_11 : decode cX12_pop 11 = .ok (.getfield 32, 3) := by decide +kernel
theorem dX12_pop_14 : decode cX12_pop 14 = .ok (.aload_n 0, 1) := by decide +kernel
theorem dX12_pop_15 : decode cX12_pop 15 = .ok (.getfield 283, 3) := by decide +kernel
theorem dX12_pop_18 : decode cX12_pop 18 = .ok (.laload, 1) := by decide +kernel
theorem dX12_pop_19 : decode cX12_pop 19 = .ok (.lreturn, 1) := by decide +kernel
set_option maxHeartbeats 4000000 in
set_option maxRecDepth 100000 in
theorem c_X12_pop (l : Launch) (D : va_G) (cs : Nat → ClassId) (kK kV : Nat → Nat) (a : Nat) (a_tape : Nat) (a__taped : Int32) (a__rules : Int32) (a_sign : Nat) (a_length : Nat) (a_clause : Nat) (a_clauses : Nat) (a_read : Nat) (a__next : Int32) (a__wrong : Int32) (a__number : Int32) (a__text : Int32) (a__made : Int32) (a__deep : Int32) (a__lines : Int32) (a_open : Nat) (a__opened : Int32) (a_stack : Nat) (a__top : Int32) (a_word : Nat) (a_said : Nat) (a__x : Int32) (a_worth : Nat) (a_mate : Nat) (a_wasSaid : Nat) (a__undone : Int32) (a__boughtNow : Int32) (a_wayBy : Nat) (a_wayThen : Nat) (a__walkMost : Int32) (a__walkGoing : Int32) (a__walkSet : Int32) (a_kept : Nat) (a__drawX : Int64) (a_images : Nat) (a_imageX : Nat) (a_isMade : Nat) (a_stack_c : Nat → Int64) (h_a__taped : IV 0 400 a__taped) (h_a__rules : IV 0 6 a__rules) (h_a__next : IV 0 400 a__next) (h_a__text : IV 0 6 a__text) (h_a__made : IV 0 60 a__made) (h_a__lines : IV 0 40 a__lines) (h_a__opened : IV 0 400 a__opened) (h_a__top : IV 1 64 a__top) (h_a__x : IV 0 2147483647 a__x) (h_a__undone : IV 0 20 a__undone) (sz : Nat) : Met l yX12_pop (hz_w yX12_pop cX12_pop 1 (some .long)) ({ frames := 0, cells := 0, slots := 0, locals := 0 }) (va_Pc [.ref a] (hz_C D cs kK kV sz [(a, .inr (12, [.ref a_tape, .int a__taped, .int a__rules, .ref a_sign, .ref a_length, .ref a_clause, .ref a_clauses, .ref a_read, .int a__next, .int a__wrong, .int a__number, .int a__text, .int a__made, .int a__deep, .int a__lines, .ref a_open, .int a__opened, .ref a_stack, .int a__top, .ref a_word, .ref a_said, .int a__x, .ref a_worth, .ref a_mate, .ref a_wasSaid, .int a__undone, .int a__boughtNow, .ref a_wayBy, .ref a_wayThen, .int a__walkMost, .int a__walkGoing, .int a__walkSet, .ref a_kept, .long a__drawX, .ref a_images, .ref a_imageX, .ref a_isMade])), (a_stack, .inl (cs 3, 64, .inr (.inl a_stack_c)))])) (va_Ql (fun (r : Int64) (u : (Nat → Int32) × (Nat → Nat → Int32)) => (IV 0 63 (u.1 1) ∧ ((u.1 1).toInt = a__top.toInt - 1))) (fun u t => va_P D classes [(a, .inr (12, [.ref a_tape, .int a__taped, .int a__rules, .ref a_sign, .ref a_length, .ref a_clause, .ref a_clauses, .ref a_read, .int a__next, .int a__wrong, .int a__number, .int a__text, .int a__made, .int a__deep, .int a__lines, .ref a_open, .int a__opened, .ref a_stack, .int (u.1 1), .ref a_word, .ref a_said, .int a__x, .ref a_worth, .ref a_mate, .ref a_wasSaid, .int a__undone, .int a__boughtNow, .ref a_wayBy, .ref a_wayThen, .int a__walkMost, .int a__walkGoing, .int a__walkSet, .ref a_kept, .long a__drawX, .ref a_images, .ref a_imageX, .ref a_isMade])), (a_stack, .inl (cs 3, 64, .inr (.inl a_stack_c)))] t.heap ∧ va_D (va_A [(a, .inr (12, [.ref a_tape, .int a__taped, .int a__rules, .ref a_sign, .ref a_length, .ref a_clause, .ref a_clauses, .ref a_read, .int a__next, .int a__wrong, .int a__number, .int a__text, .int a__made, .int a__deep, .int a__lines, .ref a_open, .int a__opened, .ref a_stack, .int a__top, .ref a_word, .ref a_said, .int a__x, .ref a_worth, .ref a_mate, .ref a_wasSaid, .int a__undone, .int a__boughtNow, .ref a_wayBy, .ref a_wayThen, .int a__walkMost, .int a__walkGoing, .int a__walkSet, .ref a_kept, .long a__drawX, .ref a_images, .ref a_imageX, .ref a_isMade])), (a_stack, .inl (cs 3, 64, .inr (.inl a_stack_c)))] sz) [(a, .inr (12, [.ref a_tape, .int a__taped, .int a__rules, .ref a_sign, .ref a_length, .ref a_clause, .ref a_clauses, .ref a_read, .int a__next, .int a__wrong, .int a__number, .int a__text, .int a__made, .int a__deep, .int a__lines, .ref a_open, .int a__opened, .ref a_stack, .int (u.1 1), .ref a_word, .ref a_said, .int a__x, .ref a_worth, .ref a_mate, .ref a_wasSaid, .int a__undone, .int a__boughtNow, .ref a_wayBy, .ref a_wayThen, .int a__walkMost, .int a__walkGoing, .int a__walkSet, .ref a_kept, .long a__drawX, .ref a_images, .ref a_imageX, .ref a_isMade])), (a_stack, .inl (cs 3, 64, .inr (.inl a_stack_c)))]) (va_A [(a, .inr (12, [.ref a_tape, .int a__taped, .int a__rules, .ref a_sign, .ref a_length, .ref a_clause, .ref a_clauses, .ref a_read, .int a__next, .int a__wrong, .int a__number, .int a__text, .int a__made, .int a__deep, .int a__lines, .ref a_open, .int a__opened, .ref a_stack, .int a__top, .ref a_word, .ref a_said, .int a__x, .ref a_worth, .ref a_mate, .ref a_wasSaid, .int a__undone, .int a__boughtNow, .ref a_wayBy, .ref a_wayThen, .int a__walkMost, .int a__walkGoing, .int a__walkSet, .ref a_kept, .long a__drawX, .ref a_images, .ref a_imageX, .ref a_isMade])), (a_stack, .inl (cs 3, 64, .inr (.inl a_stack_c)))] sz)) 0 0 (va_A [(a, .inr (12, [.ref a_tape, .int a__taped, .int a__rules, .ref a_sign, .ref a_length, .ref a_clause, .ref a_clauses, .ref a_read, .int a__next, .int a__wrong, .int a__number, .int a__text, .int a__made, .int a__deep, .int a__lines, .ref a_open, .int a__opened, .ref a_stack, .int a__top, .ref a_word, .ref a_said, .int a__x, .ref a_worth, .ref a_mate, .ref a_wasSaid, .int a__undone, .int a__boughtNow, .ref a_wayBy, .ref a_wayThen, .int a__walkMost, .int a__walkGoing, .int a__walkSet, .ref a_kept, .long a__drawX, .ref a_images, .ref a_imageX, .ref a_isMade])), (a_stack, .inl (cs 3, 64, .inr (.inl a_stack_c)))] sz) := by
  refine Met.ofW (cc := cX12_pop) (maxL := 1) (ret := (some .long)) (by decide) rfl ?_
  intro p e s m args below meth c s₁ B hml hv
  obtain ⟨rfl, hsz, hP, hD0, hE⟩ := hv
  have hx := B.exec
  have hb := B.bytes
  have hr := B.returns
  have hT : ∀ w ∈ TB, w.before _ s = true := fun w h => atoms_spec (ws := hz_w yX12_pop cX12_pop 1 (some .long)) B.pre w (List.mem_cons_of_mem _ h)
  have hown : s.vm.findClass RX12 = some m.cls := findClass_of_methodNamed B.named
  have hlocks := B.notSynchronized
  clear B
  subst hsz
  have hD := hD0.self (sz := s.heap.size)
  generalize hAe : va_A [(a, .inr (12, [.ref a_tape, .int a__taped, .int a__rules, .ref a_sign, .ref a_length, .ref a_clause, .ref a_clauses, .ref a_read, .int a__next, .int a__wrong, .int a__number, .int a__text, .int a__made, .int a__deep, .int a__lines, .ref a_open, .int a__opened, .ref a_stack, .int a__top, .ref a_word, .ref a_said, .int a__x, .ref a_worth, .ref a_mate, .ref a_wasSaid, .int a__undone, .int a__boughtNow, .ref a_wayBy, .ref a_wayThen, .int a__walkMost, .int a__walkGoing, .int a__walkSet, .ref a_kept, .long a__drawX, .ref a_images, .ref a_imageX, .ref a_isMade])), (a_stack, .inl (cs 3, 64, .inr (.inl a_stack_c)))] s.heap.size = A at hD hE ⊢
  have hA : ∀ q : Nat, s.heap.size ≤ q → A q := fun q h => by rw [← hAe]; exact Or.inr h
  clear hAe hD0
  have hS : va_S A s.heap s.heap [] := va_S.rf
  have hK := hE.1
  have hl := lv_entry ([.ref a]) (n := 1) (Nat.le_of_ble_eq_true rfl)
  rw [lg_entry_eq]
  generalize (lg_sl ([.ref a]) ++ List.replicate (1 - (lg_sl ([.ref a])).length) Slot.unset).toArray = ls at hl ⊢
  have hl : lv_has ls 1 [(0, .ref a)] := hl
  obtain ⟨H, eH⟩ : ∃ z, z = s.heap := ⟨_, rfl⟩
  have hP : va_P D classes [(a, .inr (12, [.ref a_tape, .int a__taped, .int a__rules, .ref a_sign, .ref a_length, .ref a_clause, .ref a_clauses, .ref a_read, .int a__next, .int a__wrong, .int a__number, .int a__text, .int a__made, .int a__deep, .int a__lines, .ref a_open, .int a__opened, .ref a_stack, .int a__top, .ref a_word, .ref a_said, .int a__x, .ref a_worth, .ref a_mate, .ref a_wasSaid, .int a__undone, .int a__boughtNow, .ref a_wayBy, .ref a_wayThen, .int a__walkMost, .int a__walkGoing, .int a__walkSet, .ref a_kept, .long a__drawX, .ref a_images, .ref a_imageX, .ref a_isMade])), (a_stack, .inl (cs 3, 64, .inr (.inl a_stack_c)))] H := by rw [eH]; exact hP
  have hS : va_S A s.heap H [] := by rw [eH]; exact hS
  rw [← eH]
  clear eH
  obtain ⟨locs, el⟩ : ∃ z : List Loc, z = [] := ⟨_, rfl⟩
  rw [← el] at hS ⊢
  clear el
  have z0 : (0 : Int32).toInt = 0 := by decide
  have z1 : (1 : Int32).toInt = 1 := by decide
  have zm1 : (-1 : Int32).toInt = -1 := by decide
  have i_a__lines : 0 ≤ a__lines.toInt ∧ a__lines.toInt ≤ 40 := h_a__lines
  have i_a__made : 0 ≤ a__made.toInt ∧ a__made.toInt ≤ 60 := h_a__made
  have i_a__next : 0 ≤ a__next.toInt ∧ a__next.toInt ≤ 400 := h_a__next
  have i_a__opened : 0 ≤ a__opened.toInt ∧ a__opened.toInt ≤ 400 := h_a__opened
  have i_a__rules : 0 ≤ a__rules.toInt ∧ a__rules.toInt ≤ 6 := h_a__rules
  have i_a__taped : 0 ≤ a__taped.toInt ∧ a__taped.toInt ≤ 400 := h_a__taped
  have i_a__text : 0 ≤ a__text.toInt ∧ a__text.toInt ≤ 6 := h_a__text
  have i_a__top : 1 ≤ a__top.toInt ∧ a__top.toInt ≤ 64 := h_a__top
  have i_a__undone : 0 ≤ a__undone.toInt ∧ a__undone.toInt ≤ 20 := h_a__undone
  have i_a__x : 0 ≤ a__x.toInt ∧ a__x.toInt ≤ 2147483647 := h_a__x
  refine lv_aload_n hx hb dX12_pop_0 rfl (lv_at hl 0 rfl) ?_
  refine lv_dup hx hb dX12_pop_1 rfl ?_
  refine va_get (D := D) (ci := 12) (v := .int a__top) (C := RX12) (T := TX12) (N := 37) hx hb hT i_X12 hown hK hP 0 rfl rfl 18 (by decide) (hT _ q_206) (fun _ h9 => h9) rfl dX12_pop_2 ?_
  refine lv_iconst (v := 1) hx hb dX12_pop_5 (by decide) ?_
  refine lv_isub hx hb dX12_pop_6 ?_
  refine lv_topi (fun v1 ev1 => ?_)
  have hv1 : IV 0 63 v1 := iv_sub ev1 h_a__top (iv_c (a := 1) (b := 1) (by decide)) (by decide) (by decide)
  have ii2 : 0 ≤ v1.toInt ∧ v1.toInt ≤ 63 := hv1
  have dv1 : v1.toInt = a__top.toInt + (-1) := iv_subE ev1 h_a__top (iv_c (a := 1) (b := 1) (by decide)) (by decide) (by decide) (by decide)
  have lv1 : v1.toInt = a__top.toInt - 1 := lin_sub ev1 h_a__top (iv_c (a := 1) (b := 1) (by decide)) rfl (by decide) (by decide) (by decide)
  refine va_put (D := D) (ci := 12) (v := .int v1) (ty := .int) (C := RX12) (T := TX12) (N := 37) hx hb hT i_X12 tyX12 tyX12_ok nmX12 hown hK hP hD hS 0 rfl rfl 18 (by decide) (hT _ q_206) (fun _ h9 => h9) rfl (by decide +kernel) rfl rfl (Nat.le_of_ble_eq_true rfl) dX12_pop_7 (fun H locs hP hD hS => ?_)
  have hP : va_P D classes [(a, .inr (12, [.ref a_tape, .int a__taped, .int a__rules, .ref a_sign, .ref a_length, .ref a_clause, .ref a_clauses, .ref a_read, .int a__next, .int a__wrong, .int a__number, .int a__text, .int a__made, .int a__deep, .int a__lines, .ref a_open, .int a__opened, .ref a_stack, .int v1, .ref a_word, .ref a_said, .int a__x, .ref a_worth, .ref a_mate, .ref a_wasSaid, .int a__undone, .int a__boughtNow, .ref a_wayBy, .ref a_wayThen, .int a__walkMost, .int a__walkGoing, .int a__walkSet, .ref a_kept, .long a__drawX, .ref a_images, .ref a_imageX, .ref a_isMade])), (a_stack, .inl (cs 3, 64, .inr (.inl a_stack_c)))] H := hP
  have hD : va_D A [(a, .inr (12, [.ref a_tape, .int a__taped, .int a__rules, .ref a_sign, .ref a_length, .ref a_clause, .ref a_clauses, .ref a_read, .int a__next, .int a__wrong, .int a__number, .int a__text, .int a__made, .int a__deep, .int a__lines, .ref a_open, .int a__opened, .ref a_stack, .int v1, .ref a_word, .ref a_said, .int a__x, .ref a_worth, .ref a_mate, .ref a_wasSaid, .int a__undone, .int a__boughtNow, .ref a_wayBy, .ref a_wayThen, .int a__walkMost, .int a__walkGoing, .int a__walkSet, .ref a_kept, .long a__drawX, .ref a_images, .ref a_imageX, .ref a_isMade])), (a_stack, .inl (cs 3, 64, .inr (.inl a_stack_c)))] := hD
  refine lv_aload_n hx hb dX12_pop_10 rfl (lv_at hl 0 rfl) ?_
  refine va_get (D := D) (ci := 12) (v := .ref a_stack) (C := RX12) (T := TX12) (N := 37) hx hb hT i_X12 hown hK hP 0 rfl rfl 17 (by decide) (hT _ q_183) (fun _ h9 => h9) rfl dX12_pop_11 ?_
  refine lv_aload_n hx hb dX12_pop_14 rfl (lv_at hl 0 rfl) ?_
  refine va_get (D := D) (ci := 12) (v := .int v1) (C := RX12) (T := TX12) (N := 37) hx hb hT i_X12 hown hK hP 0 rfl rfl 18 (by decide) (hT _ q_206) (fun _ h9 => h9) rfl dX12_pop_15 ?_
  refine va_lald hx hb hK hP 1 3 rfl rfl (iv_v hv1 (by decide) (by decide)) dX12_pop_18 ?_
  refine lv_topl (fun u3 eu3 => ?_)
  refine W.widen (k := 0) (n := 0) (Nat.le_of_ble_eq_true rfl) (Nat.le_of_ble_eq_true rfl) ?_
  have g4 : v1.toInt = a__top.toInt - 1 := (by omega)
  exact W.lret (v := u3) hx hb hr (fun t ht hW => ⟨⟨u3, (fun k => match k with | 0 => 0 | 1 => v1 | _ => 0, fun _ _ => 0), rfl, (⟨hv1, g4⟩), by rw [ht]; exact hP.sub [0, 1] rfl, hD.sub [0, 1] (by decide) rfl⟩, hS.F ht⟩) hS.2.2 dX12_pop_19
theorem dX12_reckons_0 : decode cX12_reckons 0 = .ok (.aload_n 0, 1) := by decide +kernel
theorem dX12_reckons_1 : decode cX12_reckons 1 = .ok (.iconst 0, 1) := by decide +kernel
theorem dX12_reckons_2 : decode cX12_reckons 2 = .ok (.putfield 283, 3) := by decide +kernel
theorem dX12_reckons_5 : decode cX12_reckons 5 = .ok (.iload_n 2, 1) := by decide +kernel
theorem dX12_reckons_6 : decode cX12_reckons 6 = .ok (.istore 4, 2) := by decide +kernel
theorem dX12_reckons_8 : decode cX12_reckons 8 = .ok (.iload 4, 2) := by decide +kernel
theorem dX12_reckons_10 : decode cX12_reckons 10 = .ok (.iload_n 3, 1) := by decide +kernel
theorem dX12_reckons_11 : decode cX12_reckons 11 = .ok (.if_icmp .ge 124, 3) := by decide +kernel
theorem dX12_reckons_14 : decode cX12_reckons 14 = .ok (.aload_n 0, 1) := by decide +kernel
theorem dX12_reckons_15 : decode cX12_reckons 15 = .ok (.getfield 13, 3) := by decide +kernel
theorem dX12_reckons_18 : decode cX12_reckons 18 = .ok (.sipush 400, 3) := by decide +kernel
theorem dX12_reckons_21 : decode cX12_reckons 21 = .ok (.iload_n 1, 1) := by decide +kernel
theorem dX12_reckons_22 : decode cX12_reckons 22 = .ok (.imul, 1) := by decide +kernel
theorem dX12_reckons_23 : decode cX12_reckons 23 = .ok (.iload 4, 2) := by decide +kernel
theorem dX12_reckons_25 : decode cX12_reckons 25 = .ok (.iadd, 1) := by decide +kernel
theorem dX12_reckons_26 : decode cX12_reckons 26 = .ok (.iaload, 1) := by decide +kernel
theorem dX12_reckons_27 : decode cX12_reckons 27 = .ok (.bipush 15, 2) := by decide +kernel
theorem dX12_reckons_29 : decode cX12_reckons 29 = .ok (.iand, 1) := by decide +kernel
theorem dX12_reckons_30 : decode cX12_reckons 30 = .ok (.istore 5, 2) := by decide +kernel
theorem dX12_reckons_32 : decode cX12_reckons 32 = .ok (.aload_n 0, 1) := by decide +kernel
theorem dX12_reckons_33 : decode cX12_reckons 33 = .ok (.getfield 13, 3) := by decide +kernel
theorem dX12_reckons_36 : decode cX12_reckons 36 = .ok (.sipush 400, 3) := by decide +kernel
theorem dX12_reckons_39 : decode cX12_reckons 39 = .ok (.iload_n 1, 1) := by decide +kernel
theorem dX12_reckons_40 : decode cX12_reckons 40 = .ok (.imul, 1) := by decide +kernel
theorem dX12_reckons_41 : decode cX12_reckons 41 = .ok (.iload 4, 2) := by decide +kernel
theorem dX12_reckons_43 : decode cX12_reckons 43 = .ok (.iadd, 1) := by decide +kernel
theorem dX12_reckons_44 : decode cX12_reckons 44 = .ok (.iaload, 1) := by decide +kernel
theorem dX12_reckons_45 : decode cX12_reckons 45 = .ok (.iconst 4, 1) := by decide +kernel
theorem dX12_reckons_46 : decode cX12_reckons 46 = .ok (.ishr, 1) := by decide +kernel
theorem dX12_reckons_47 : decode cX12_reckons 47 = .ok (.istore 6, 2) := by decide +kernel
theorem dX12_reckons_49 : decode cX12_reckons 49 = .ok (.iload 5, 2) := by decide +kernel
theorem dX12_reckons_51 : decode cX12_reckons 51 = .ok (.ifCond .ne 13, 3) := by decide +kernel
theorem dX12_reckons_54 : decode cX12_reckons 54 = .ok (.aload_n 0, 1) := by decide +kernel
theorem dX12_reckons_55 : decode cX12_reckons 55 = .ok (.iload 6, 2) := by decide +kernel
theorem dX12_reckons_57 : decode cX12_reckons 57 = .ok (.i2l, 1) := by decide +kernel
theorem dX12_reckons_58 : decode cX12_reckons 58 = .ok (.invokevirtual 286, 3) := by decide +kernel
theorem dX12_reckons_61 : decode cX12_reckons 61 = .ok (.goto 68, 3) := by decide +kernel
theorem dX12_reckons_64 : decode cX12_reckons 64 = .ok (.iload 5, 2) := by decide +kernel
theorem dX12_reckons_66 : decode cX12_reckons 66 = .ok (.iconst 1, 1) := by decide +kernel
theorem dX12_reckons_67 : decode cX12_reckons 67 = .ok (.if_icmp .ne 17, 3) := by decide +kernel
theorem dX12_reckons_70 : decode cX12_reckons 70 = .ok (.aload_n 0, 1) := by decide +kernel
theorem dX12_reckons_71 : decode cX12_reckons 71 = .ok (.aload_n 0, 1) := by decide +kernel
theorem dX12_reckons_72 : decode cX12_reckons 72 = .ok (.getfield 36, 3) := by decide +kernel
theorem dX12_reckons_75 : decode cX12_reckons 75 = .ok (.iload 6, 2) := by decide +kernel
theorem dX12_reckons_77 : decode cX12_reckons 77 = .ok (.laload, 1) := by decide +kernel
theorem dX12_reckons_78 : decode cX12_reckons 78 = .ok (.invokevirtual 286, 3) := by decide +kernel
theorem dX12_reckons_81 : decode cX12_reckons 81 = .ok (.goto 48, 3) := by decide +kernel
theorem dX12_reckons_84 : decode cX12_reckons 84 = .ok (.iload 5, 2) := by decide +kernel
theorem dX12_reckons_86 : decode cX12_reckons 86 = .ok (.bipush 11, 2) := by decide +kernel
theorem dX12_reckons_88 : decode cX12_reckons 88 = .ok (.if_icmp .ne 16, 3) := by decide +kernel
theorem dX12_reckons_91 : decode cX12_reckons 91 = .ok (.aload_n 0, 1) := by decide +kernel
theorem dX12_reckons_92 : decode cX12_reckons 92 = .ok (.lconst 1, 1) := by decide +kernel
theorem dX12_reckons_93 : decode cX12_reckons 93 = .ok (.aload_n 0, 1) := by decide +kernel
theorem dX12_reckons_94 : decode cX12_reckons 94 = .ok (.invokevirtual 290, 3) := by decide +kernel
theorem dX12_reckons_97 : decode cX12_reckons 97 = .ok (.lsub, 1) := by decide +kernel
theorem dX12_reckons_98 : decode cX12_reckons 98 = .ok (.invokevirtual 286, 3) := by decide +kernel
theorem dX12_reckons_101 : decode cX12_reckons 101 = .ok (.goto 28, 3) := by decide +kernel
theorem dX12_reckons_104 : decode cX12_reckons 104 = .ok (.aload_n 0, 1) := by decide +kernel
theorem dX12_reckons_105 : decode cX12_reckons 105 = .ok (.invokevirtual 290, 3) := by decide +kernel
theorem dX12_reckons_108 : decode cX12_reckons 108 = .ok (.lstore 7, 2) := by decide +kernel
theorem dX12_reckons_110 : decode cX12_reckons 110 = .ok (.aload_n 0, 1) := by decide +kernel
theorem dX12_reckons_111 : decode cX12_reckons 111 = .ok (.invokevirtual 290, 3) := by decide +kernel
theorem dX12_reckons_114 : decode cX12_reckons 114 = .ok (.lstore 9, 2) := by decide +kernel
theorem dX12_reckons_116 : decode cX12_reckons 116 = .ok (.aload_n 0, 1) := by decide +kernel
theorem dX12_reckons_117 : decode cX12_reckons 117 = .ok (.iload 5, 2) := by decide +kernel
theorem dX12_reckons_119 : decode cX12_reckons 119 = .ok (.lload 9, 2) := by decide +kernel
theorem dX12_reckons_121 : decode cX12_reckons 121 = .ok (.lload 7, 2) := by decide +kernel
theorem dX12_reckons_123 : decode cX12_reckons 123 = .ok (.invokestatic 294, 3) := by decide +kernel
theorem dX12_reckons_126 : decode cX12_reckons 126 = .ok (.invokevirtual 286, 3) := by decide +kernel
theorem dX12_reckons_129 : decode cX12_reckons 129 = .ok (.iinc 4 1, 3) := by decide +kernel
theorem dX12_reckons_132 : decode cX12_reckons 132 = .ok (.goto (-124), 3) := by decide +kernel
theorem dX12_reckons_135 : decode cX12_reckons 135 = .ok (.aload_n 0, 1) := by decide +kernel
theorem dX12_reckons_136 : decode cX12_reckons 136 = .ok (.invokevirtual 290, 3) := by decide +kernel
theorem dX12_reckons_139 : decode cX12_reckons 139 = .ok (.lreturn, 1) := by decide +kernel
set_option maxHeartbeats 4000000 in
set_option maxRecDepth 100000 in
theorem c_X12_reckons (l : Launch) (D : va_G) (cs : Nat → ClassId) (kK kV : Nat → Nat) (a : Nat) (p0 : Int32) (p1 : Int32) (p2 : Int32) (a_sign : Nat) (a_sign_c : Nat → Int32) (a_tape : Nat) (a__taped : Int32) (a__rules : Int32) (a_length : Nat) (a_clause : Nat) (a_clauses : Nat) (a_read : Nat) (a__next : Int32) (a__wrong : Int32) (a__number : Int32) (a__text : Int32) (a__made : Int32) (a__deep : Int32) (a__lines : Int32) (a_open : Nat) (a__opened : Int32) (a_stack : Nat) (a__top : Int32) (a_word : Nat) (a_said : Nat) (a__x : Int32) (a_worth : Nat) (a_mate : Nat) (a_wasSaid : Nat) (a__undone : Int32) (a__boughtNow : Int32) (a_wayBy : Nat) (a_wayThen : Nat) (a__walkMost : Int32) (a__walkGoing : Int32) (a__walkSet : Int32) (a_kept : Nat) (a__drawX : Int64) (a_images : Nat) (a_imageX : Nat) (a_isMade : Nat) (a_stack_c : Nat → Int64) (a_word_c : Nat → Int64) (h_p0 : IV 0 5 p0) (h_a__taped : IV 0 400 a__taped) (h_a__rules : IV 0 6 a__rules) (h_a__next : IV 0 400 a__next) (h_a__text : IV 0 6 a__text) (h_a__made : IV 0 60 a__made) (h_a__lines : IV 0 40 a__lines) (h_a__opened : IV 0 400 a__opened) (h_a__top : IV 0 64 a__top) (h_a__x : IV 0 2147483647 a__x) (h_a__undone : IV 0 20 a__undone) (hf0 : SG a_sign_c p0.toInt.toNat p1 p2 400) (sz : Nat) : Met l yX12_reckons (hz_w yX12_reckons cX12_reckons 11 (some .long)) ({ frames := 1, cells := 0, slots := 0, locals := 24 }) (va_Pc [.ref a, .int p0, .int p1, .int p2] (hz_C D cs kK kV sz [(a_sign, .inl (cs 0, 2400, .inl a_sign_c)), (a, .inr (12, [.ref a_tape, .int a__taped, .int a__rules, .ref a_sign, .ref a_length, .ref a_clause, .ref a_clauses, .ref a_read, .int a__next, .int a__wrong, .int a__number, .int a__text, .int a__made, .int a__deep, .int a__lines, .ref a_open, .int a__opened, .ref a_stack, .int a__top, .ref a_word, .ref a_said, .int a__x, .ref a_worth, .ref a_mate, .ref a_wasSaid, .int a__undone, .int a__boughtNow, .ref a_wayBy, .ref a_wayThen, .int a__walkMost, .int a__walkGoing, .int a__walkSet, .ref a_kept, .long a__drawX, .ref a_images, .ref a_imageX, .ref a_isMade])), (a_stack, .inl (cs 3, 64, .inr (.inl a_stack_c))), (a_word, .inl (cs 3, 13, .inr (.inl a_word_c)))])) (va_Ql (fun (r : Int64) (u : (Nat → Int32) × (Nat → Nat → Int32)) => (IV 0 400 p1 ∧ IV (-2147483648) 400 p2 ∧ IV 0 63 (u.1 1))) (fun u t => ∃ (o_a_stack_c : Nat → Int64), va_P D classes [(a_sign, .inl (cs 0, 2400, .inl a_sign_c)), (a, .inr (12, [.ref a_tape, .int a__taped, .int a__rules, .ref a_sign, .ref a_length, .ref a_clause, .ref a_clauses, .ref a_read, .int a__next, .int a__wrong, .int a__number, .int a__text, .int a__made, .int a__deep, .int a__lines, .ref a_open, .int a__opened, .ref a_stack, .int (u.1 1), .ref a_word, .ref a_said, .int a__x, .ref a_worth, .ref a_mate, .ref a_wasSaid, .int a__undone, .int a__boughtNow, .ref a_wayBy, .ref a_wayThen, .int a__walkMost, .int a__walkGoing, .int a__walkSet, .ref a_kept, .long a__drawX, .ref a_images, .ref a_imageX, .ref a_isMade])), (a_stack, .inl (cs 3, 64, .inr (.inl o_a_stack_c))), (a_word, .inl (cs 3, 13, .inr (.inl a_word_c)))] t.heap ∧ va_D (va_A [(a_sign, .inl (cs 0, 2400, .inl a_sign_c)), (a, .inr (12, [.ref a_tape, .int a__taped, .int a__rules, .ref a_sign, .ref a_length, .ref a_clause, .ref a_clauses, .ref a_read, .int a__next, .int a__wrong, .int a__number, .int a__text, .int a__made, .int a__deep, .int a__lines, .ref a_open, .int a__opened, .ref a_stack, .int a__top, .ref a_word, .ref a_said, .int a__x, .ref a_worth, .ref a_mate, .ref a_wasSaid, .int a__undone, .int a__boughtNow, .ref a_wayBy, .ref a_wayThen, .int a__walkMost, .int a__walkGoing, .int a__walkSet, .ref a_kept, .long a__drawX, .ref a_images, .ref a_imageX, .ref a_isMade])), (a_stack, .inl (cs 3, 64, .inr (.inl a_stack_c))), (a_word, .inl (cs 3, 13, .inr (.inl a_word_c)))] sz) [(a_sign, .inl (cs 0, 2400, .inl a_sign_c)), (a, .inr (12, [.ref a_tape, .int a__taped, .int a__rules, .ref a_sign, .ref a_length, .ref a_clause, .ref a_clauses, .ref a_read, .int a__next, .int a__wrong, .int a__number, .int a__text, .int a__made, .int a__deep, .int a__lines, .ref a_open, .int a__opened, .ref a_stack, .int (u.1 1), .ref a_word, .ref a_said, .int a__x, .ref a_worth, .ref a_mate, .ref a_wasSaid, .int a__undone, .int a__boughtNow, .ref a_wayBy, .ref a_wayThen, .int a__walkMost, .int a__walkGoing, .int a__walkSet, .ref a_kept, .long a__drawX, .ref a_images, .ref a_imageX, .ref a_isMade])), (a_stack, .inl (cs 3, 64, .inr (.inl o_a_stack_c))), (a_word, .inl (cs 3, 13, .inr (.inl a_word_c)))]) (va_A [(a_sign, .inl (cs 0, 2400, .inl a_sign_c)), (a, .inr (12, [.ref a_tape, .int a__taped, .int a__rules, .ref a_sign, .ref a_length, .ref a_clause, .ref a_clauses, .ref a_read, .int a__next, .int a__wrong, .int a__number, .int a__text, .int a__made, .int a__deep, .int a__lines, .ref a_open, .int a__opened, .ref a_stack, .int a__top, .ref a_word, .ref a_said, .int a__x, .ref a_worth, .ref a_mate, .ref a_wasSaid, .int a__undone, .int a__boughtNow, .ref a_wayBy, .ref a_wayThen, .int a__walkMost, .int a__walkGoing, .int a__walkSet, .ref a_kept, .long a__drawX, .ref a_images, .ref a_imageX, .ref a_isMade])), (a_stack, .inl (cs 3, 64, .inr (.inl a_stack_c))), (a_word, .inl (cs 3, 13, .inr (.inl a_word_c)))] sz)) 0 0 (va_A [(a_sign, .inl (cs 0, 2400, .inl a_sign_c)), (a, .inr (12, [.ref a_tape, .int a__taped, .int a__rules, .ref a_sign, .ref a_length, .ref a_clause, .ref a_clauses, .ref a_read, .int a__next, .int a__wrong, .int a__number, .int a__text, .int a__made, .int a__deep, .int a__lines, .ref a_open, .int a__opened, .ref a_stack, .int a__top, .ref a_word, .ref a_said, .int a__x, .ref a_worth, .ref a_mate, .ref a_wasSaid, .int a__undone, .int a__boughtNow, .ref a_wayBy, .ref a_wayThen, .int a__walkMost, .int a__walkGoing, .int a__walkSet, .ref a_kept, .long a__drawX, .ref a_images, .ref a_imageX, .ref a_isMade])), (a_stack, .inl (cs 3, 64, .inr (.inl a_stack_c))), (a_word, .inl (cs 3, 13, .inr (.inl a_word_c)))] sz) := by
  refine Met.ofW (cc := cX12_reckons) (maxL := 11) (ret := (some .long)) (by decide) rfl ?_
  intro p e s m args below meth c s₁ B hml hv
  obtain ⟨rfl, hsz, hP, hD0, hE⟩ := hv
  have hx := B.exec
  have hb := B.bytes
  have hr := B.returns
  have hT : ∀ w ∈ TB, w.before _ s = true := fun w h => atoms_spec (ws := hz_w yX12_reckons cX12_reckons 11 (some .long)) B.pre w (List.mem_cons_of_mem _ h)
  have hown : s.vm.findClass RX12 = some m.cls := findClass_of_methodNamed B.named
  have hlocks := B.notSynchronized
  clear B
  subst hsz
  have hD := hD0.self (sz := s.heap.size)
  generalize hAe : va_A [(a_sign, .inl (cs 0, 2400, .inl a_sign_c)), (a, .inr (12, [.ref a_tape, .int a__taped, .int a__rules, .ref a_sign, .ref a_length, .ref a_clause, .ref a_clauses, .ref a_read, .int a__next, .int a__wrong, .int a__number, .int a__text, .int a__made, .int a__deep, .int a__lines, .ref a_open, .int a__opened, .ref a_stack, .int a__top, .ref a_word, .ref a_said, .int a__x, .ref a_worth, .ref a_mate, .ref a_wasSaid, .int a__undone, .int a__boughtNow, .ref a_wayBy, .ref a_wayThen, .int a__walkMost, .int a__walkGoing, .int a__walkSet, .ref a_kept, .long a__drawX, .ref a_images, .ref a_imageX, .ref a_isMade])), (a_stack, .inl (cs 3, 64, .inr (.inl a_stack_c))), (a_word, .inl (cs 3, 13, .inr (.inl a_word_c)))] s.heap.size = A at hD hE ⊢
  have hA : ∀ q : Nat, s.heap.size ≤ q → A q := fun q h => by rw [← hAe]; exact Or.inr h
  clear hAe hD0
  have hS : va_S A s.heap s.heap [] := va_S.rf
  have hK := hE.1
  have hl := lv_entry ([.ref a, .int p0, .int p1, .int p2]) (n := 11) (Nat.le_of_ble_eq_true rfl)
  rw [lg_entry_eq]
  generalize (lg_sl ([.ref a, .int p0, .int p1, .int p2]) ++ List.replicate (11 - (lg_sl ([.ref a, .int p0, .int p1, .int p2])).length) Slot.unset).toArray = ls at hl ⊢
  have hl : lv_has ls 11 [(0, .ref a), (1, .int p0), (2, .int p1), (3, .int p2)] := hl
  obtain ⟨H, eH⟩ : ∃ z, z = s.heap := ⟨_, rfl⟩
  have hP : va_P D classes [(a_sign, .inl (cs 0, 2400, .inl a_sign_c)), (a, .inr (12, [.ref a_tape, .int a__taped, .int a__rules, .ref a_sign, .ref a_length, .ref a_clause, .ref a_clauses, .ref a_read, .int a__next, .int a__wrong, .int a__number, .int a__text, .int a__made, .int a__deep, .int a__lines, .ref a_open, .int a__opened, .ref a_stack, .int a__top, .ref a_word, .ref a_said, .int a__x, .ref a_worth, .ref a_mate, .ref a_wasSaid, .int a__undone, .int a__boughtNow, .ref a_wayBy, .ref a_wayThen, .int a__walkMost, .int a__walkGoing, .int a__walkSet, .ref a_kept, .long a__drawX, .ref a_images, .ref a_imageX, .ref a_isMade])), (a_stack, .inl (cs 3, 64, .inr (.inl a_stack_c))), (a_word, .inl (cs 3, 13, .inr (.inl a_word_c)))] H := by rw [eH]; exact hP
  have hS : va_S A s.heap H [] := by rw [eH]; exact hS
  rw [← eH]
  clear eH
  obtain ⟨locs, el⟩ : ∃ z : List Loc, z = [] := ⟨_, rfl⟩
  rw [← el] at hS ⊢
  clear el
  have z0 : (0 : Int32).toInt = 0 := by decide
  have z1 : (1 : Int32).toInt = 1 := by decide
  have zm1 : (-1 : Int32).toInt = -1 := by decide
  have i_a__lines : 0 ≤ a__lines.toInt ∧ a__lines.toInt ≤ 40 := h_a__lines
  have i_a__made : 0 ≤ a__made.toInt ∧ a__made.toInt ≤ 60 := h_a__made
  have i_a__next : 0 ≤ a__next.toInt ∧ a__next.toInt ≤ 400 := h_a__next
  have i_a__opened : 0 ≤ a__opened.toInt ∧ a__opened.toInt ≤ 400 := h_a__opened
  have i_a__rules : 0 ≤ a__rules.toInt ∧ a__rules.toInt ≤ 6 := h_a__rules
  have i_a__taped : 0 ≤ a__taped.toInt ∧ a__taped.toInt ≤ 400 := h_a__taped
  have i_a__text : 0 ≤ a__text.toInt ∧ a__text.toInt ≤ 6 := h_a__text
  have i_a__top : 0 ≤ a__top.toInt ∧ a__top.toInt ≤ 64 := h_a__top
  have i_a__undone : 0 ≤ a__undone.toInt ∧ a__undone.toInt ≤ 20 := h_a__undone
  have i_a__x : 0 ≤ a__x.toInt ∧ a__x.toInt ≤ 2147483647 := h_a__x
  have i_p0 : 0 ≤ p0.toInt ∧ p0.toInt ≤ 5 := h_p0
  have K8 : ∀ (n : Nat) (k8_L_4 : Int32) (k8_F_a_18 : Int32) (k8_C_a_stack : Nat → Int64), (401 - k8_L_4.toInt).toNat ≤ n → IV 0 60 k8_F_a_18 → IV 0 400 k8_L_4 → IV 0 400 p1 → (p1.toInt ≤ k8_L_4.toInt) → (k8_L_4.toInt ≤ p2.toInt) → (hgt a_sign_c (400 * p0.toInt.toNat + p1.toInt.toNat) (k8_L_4.toInt.toNat - p1.toInt.toNat) = some k8_F_a_18.toInt.toNat) → ∀ (H : Heap) (locs : List Loc), va_P D classes [(a_sign, .inl (cs 0, 2400, .inl a_sign_c)), (a, .inr (12, [.ref a_tape, .int a__taped, .int a__rules, .ref a_sign, .ref a_length, .ref a_clause, .ref a_clauses, .ref a_read, .int a__next, .int a__wrong, .int a__number, .int a__text, .int a__made, .int a__deep, .int a__lines, .ref a_open, .int a__opened, .ref a_stack, .int k8_F_a_18, .ref a_word, .ref a_said, .int a__x, .ref a_worth, .ref a_mate, .ref a_wasSaid, .int a__undone, .int a__boughtNow, .ref a_wayBy, .ref a_wayThen, .int a__walkMost, .int a__walkGoing, .int a__walkSet, .ref a_kept, .long a__drawX, .ref a_images, .ref a_imageX, .ref a_isMade])), (a_stack, .inl (cs 3, 64, .inr (.inl k8_C_a_stack))), (a_word, .inl (cs 3, 13, .inr (.inl a_word_c)))] H → va_D A [(a_sign, .inl (cs 0, 2400, .inl a_sign_c)), (a, .inr (12, [.ref a_tape, .int a__taped, .int a__rules, .ref a_sign, .ref a_length, .ref a_clause, .ref a_clauses, .ref a_read, .int a__next, .int a__wrong, .int a__number, .int a__text, .int a__made, .int a__deep, .int a__lines, .ref a_open, .int a__opened, .ref a_stack, .int k8_F_a_18, .ref a_word, .ref a_said, .int a__x, .ref a_worth, .ref a_mate, .ref a_wasSaid, .int a__undone, .int a__boughtNow, .ref a_wayBy, .ref a_wayThen, .int a__walkMost, .int a__walkGoing, .int a__walkSet, .ref a_kept, .long a__drawX, .ref a_images, .ref a_imageX, .ref a_isMade])), (a_stack, .inl (cs 3, 64, .inr (.inl k8_C_a_stack))), (a_word, .inl (cs 3, 13, .inr (.inl a_word_c)))] → va_S A s.heap H locs → ∀ ls : Array Slot, lv_has ls 11 [(4, .int k8_L_4), (0, .ref a), (1, .int p0), (2, .int p1), (3, .int p2)] → W p l e (headSpec (hz_w yX12_reckons cX12_reckons 11 (some .long)) ({ frames := 1, cells := 0, slots := 0, locals := 24 })).room s m [.ref a, .int p0, .int p1, .int p2].toArray below meth c H locs 0 0 (MQ below (va_Ql (fun (r : Int64) (u : (Nat → Int32) × (Nat → Nat → Int32)) => (IV 0 400 p1 ∧ IV (-2147483648) 400 p2 ∧ IV 0 63 (u.1 1))) (fun u t => ∃ (o_a_stack_c : Nat → Int64), va_P D classes [(a_sign, .inl (cs 0, 2400, .inl a_sign_c)), (a, .inr (12, [.ref a_tape, .int a__taped, .int a__rules, .ref a_sign, .ref a_length, .ref a_clause, .ref a_clauses, .ref a_read, .int a__next, .int a__wrong, .int a__number, .int a__text, .int a__made, .int a__deep, .int a__lines, .ref a_open, .int a__opened, .ref a_stack, .int (u.1 1), .ref a_word, .ref a_said, .int a__x, .ref a_worth, .ref a_mate, .ref a_wasSaid, .int a__undone, .int a__boughtNow, .ref a_wayBy, .ref a_wayThen, .int a__walkMost, .int a__walkGoing, .int a__walkSet, .ref a_kept, .long a__drawX, .ref a_images, .ref a_imageX, .ref a_isMade])), (a_stack, .inl (cs 3, 64, .inr (.inl o_a_stack_c))), (a_word, .inl (cs 3, 13, .inr (.inl a_word_c)))] t.heap ∧ va_D A [(a_sign, .inl (cs 0, 2400, .inl a_sign_c)), (a, .inr (12, [.ref a_tape, .int a__taped, .int a__rules, .ref a_sign, .ref a_length, .ref a_clause, .ref a_clauses, .ref a_read, .int a__next, .int a__wrong, .int a__number, .int a__text, .int a__made, .int a__deep, .int a__lines, .ref a_open, .int a__opened, .ref a_stack, .int (u.1 1), .ref a_word, .ref a_said, .int a__x, .ref a_worth, .ref a_mate, .ref a_wasSaid, .int a__undone, .int a__boughtNow, .ref a_wayBy, .ref a_wayThen, .int a__walkMost, .int a__walkGoing, .int a__walkSet, .ref a_kept, .long a__drawX, .ref a_images, .ref a_imageX, .ref a_isMade])), (a_stack, .inl (cs 3, 64, .inr (.inl o_a_stack_c))), (a_word, .inl (cs 3, 13, .inr (.inl a_word_c)))]) A) [.ref a, .int p0, .int p1, .int p2].toArray s 0 0 A) (F0 m 8 ls []) := by
    intro n
    induction n with
    | zero =>
      intro k8_L_4 k8_F_a_18 k8_C_a_stack hn q8_9 q8_10 q8_12 x8_0 x8_1 x8_2 H locs hP hD hS ls hl
      have i_a__lines : 0 ≤ a__lines.toInt ∧ a__lines.toInt ≤ 40 := h_a__lines
      have i_a__made : 0 ≤ a__made.toInt ∧ a__made.toInt ≤ 60 := h_a__made
      have i_a__next : 0 ≤ a__next.toInt ∧ a__next.toInt ≤ 400 := h_a__next
      have i_a__opened : 0 ≤ a__opened.toInt ∧ a__opened.toInt ≤ 400 := h_a__opened
      have i_a__rules : 0 ≤ a__rules.toInt ∧ a__rules.toInt ≤ 6 := h_a__rules
      have i_a__taped : 0 ≤ a__taped.toInt ∧ a__taped.toInt ≤ 400 := h_a__taped
      have i_a__text : 0 ≤ a__text.toInt ∧ a__text.toInt ≤ 6 := h_a__text
      have i_a__undone : 0 ≤ a__undone.toInt ∧ a__undone.toInt ≤ 20 := h_a__undone
      have i_a__x : 0 ≤ a__x.toInt ∧ a__x.toInt ≤ 2147483647 := h_a__x
      have i_k8_F_a_18 : 0 ≤ k8_F_a_18.toInt ∧ k8_F_a_18.toInt ≤ 60 := q8_9
      have i_k8_L_4 : 0 ≤ k8_L_4.toInt ∧ k8_L_4.toInt ≤ 400 := q8_10
      have i_p0 : 0 ≤ p0.toInt ∧ p0.toInt ≤ 5 := h_p0
      have i_p1 : 0 ≤ p1.toInt ∧ p1.toInt ≤ 400 := q8_12
      exact absurd hn (by omega)
    | succ n ih8 =>
      intro k8_L_4 k8_F_a_18 k8_C_a_stack hn q8_9 q8_10 q8_12 x8_0 x8_1 x8_2 H locs hP hD hS ls hl
      have i_a__lines : 0 ≤ a__lines.toInt ∧ a__lines.toInt ≤ 40 := h_a__lines
      have i_a__made : 0 ≤ a__made.toInt ∧ a__made.toInt ≤ 60 := h_a__made
      have i_a__next : 0 ≤ a__next.toInt ∧ a__next.toInt ≤ 400 := h_a__next
      have i_a__opened : 0 ≤ a__opened.toInt ∧ a__opened.toInt ≤ 400 := h_a__opened
      have i_a__rules : 0 ≤ a__rules.toInt ∧ a__rules.toInt ≤ 6 := h_a__rules
      have i_a__taped : 0 ≤ a__taped.toInt ∧ a__taped.toInt ≤ 400 := h_a__taped
      have i_a__text : 0 ≤ a__text.toInt ∧ a__text.toInt ≤ 6 := h_a__text
      have i_a__undone : 0 ≤ a__undone.toInt ∧ a__undone.toInt ≤ 20 := h_a__undone
      have i_a__x : 0 ≤ a__x.toInt ∧ a__x.toInt ≤ 2147483647 := h_a__x
      have i_k8_F_a_18 : 0 ≤ k8_F_a_18.toInt ∧ k8_F_a_18.toInt ≤ 60 := q8_9
      have i_k8_L_4 : 0 ≤ k8_L_4.toInt ∧ k8_L_4.toInt ≤ 400 := q8_10
      have i_p0 : 0 ≤ p0.toInt ∧ p0.toInt ≤ 5 := h_p0
      have i_p1 : 0 ≤ p1.toInt ∧ p1.toInt ≤ 400 := q8_12
      obtain ⟨sg1, sg2, sg3, sgk, sg4⟩ := hf0
      refine lv_iload hx hb dX12_reckons_8 (lv_at hl 0 rfl) ?_
      refine lv_iload_n hx hb dX12_reckons_10 rfl (lv_at hl 4 rfl) ?_
      refine lv_icmp_ge (tgt := 135) hx hb dX12_reckons_11 (by decide) (fun c1 => ?_) (fun c1 => ?_)
      · have t2 : k8_L_4.toInt ≥ p2.toInt := lin_ge c1 rfl rfl
        have h3 : IV (-2147483648) 400 p2 := iv_le1 c1 iv_top q8_10 (by decide)
        have ii4 : (-2147483648) ≤ p2.toInt ∧ p2.toInt ≤ 400 := h3
        have tp : k8_F_a_18.toInt.toNat = sgk + 1 := by
            have q := x8_2
            rw [show k8_L_4.toInt.toNat - p1.toInt.toNat = p2.toInt.toNat - p1.toInt.toNat by omega, sg4] at q
            exact (Option.some.inj q).symm
        have h5 : IV 1 60 k8_F_a_18 := ⟨by omega, by omega⟩
        have ii6 : 1 ≤ k8_F_a_18.toInt ∧ k8_F_a_18.toInt ≤ 60 := h5
        refine lv_aload_n hx hb dX12_reckons_135 rfl (lv_at hl 1 rfl) ?_
        have hFc := va_free (wc := [(a, .inr (12, [.ref a_tape, .int a__taped, .int a__rules, .ref a_sign, .ref a_length, .ref a_clause, .ref a_clauses, .ref a_read, .int a__next, .int a__wrong, .int a__number, .int a__text, .int a__made, .int a__deep, .int a__lines, .ref a_open, .int a__opened, .ref a_stack, .int k8_F_a_18, .ref a_word, .ref a_said, .int a__x, .ref a_worth, .ref a_mate, .ref a_wasSaid, .int a__undone, .int a__boughtNow, .ref a_wayBy, .ref a_wayThen, .int a__walkMost, .int a__walkGoing, .int a__walkSet, .ref a_kept, .long a__drawX, .ref a_images, .ref a_imageX, .ref a_isMade])), (a_stack, .inl (cs 3, 64, .inr (.inl k8_C_a_stack)))]) hD hS hA [1,2] rfl
        refine va_calll (va_runV (As := []) (rest := []) ⟨hx, hb, hml, hown, hT⟩ (c_X12_pop l D cs kK kV a a_tape a__taped a__rules a_sign a_length a_clause a_clauses a_read a__next a__wrong a__number a__text a__made a__deep a__lines a_open a__opened a_stack k8_F_a_18 a_word a_said a__x a_worth a_mate a_wasSaid a__undone a__boughtNow a_wayBy a_wayThen a__walkMost a__walkGoing a__walkSet a_kept a__drawX a_images a_imageX a_isMade k8_C_a_stack h_a__taped h_a__rules h_a__next h_a__text h_a__made h_a__lines h_a__opened ((iv_w h5 (by decide) (by decide))) h_a__x h_a__undone H.size) (cwV 0 hT (hz_gV q_1093 q_1094 q_1095 q_701 q_1096) rfl rfl rfl (by decide +kernel) ⟨(Nat.le_of_ble_eq_true rfl), (Nat.le_of_ble_eq_true rfl)⟩) ⟨hz_C.blind, va_recv hK hP (ci := 12) (q0 := 1) rfl rfl, hz_C.mk (hP.sub (ws' := [(a, .inr (12, [.ref a_tape, .int a__taped, .int a__rules, .ref a_sign, .ref a_length, .ref a_clause, .ref a_clauses, .ref a_read, .int a__next, .int a__wrong, .int a__number, .int a__text, .int a__made, .int a__deep, .int a__lines, .ref a_open, .int a__opened, .ref a_stack, .int k8_F_a_18, .ref a_word, .ref a_said, .int a__x, .ref a_worth, .ref a_mate, .ref a_wasSaid, .int a__undone, .int a__boughtNow, .ref a_wayBy, .ref a_wayThen, .int a__walkMost, .int a__walkGoing, .int a__walkSet, .ref a_kept, .long a__drawX, .ref a_images, .ref a_imageX, .ref a_isMade])), (a_stack, .inl (cs 3, 64, .inr (.inl k8_C_a_stack)))]) [1,2] rfl) (hD.sub (ws' := [(a, .inr (12, [.ref a_tape, .int a__taped, .int a__rules, .ref a_sign, .ref a_length, .ref a_clause, .ref a_clauses, .ref a_read, .int a__next, .int a__wrong, .int a__number, .int a__text, .int a__made, .int a__deep, .int a__lines, .ref a_open, .int a__opened, .ref a_stack, .int k8_F_a_18, .ref a_word, .ref a_said, .int a__x, .ref a_worth, .ref a_mate, .ref a_wasSaid, .int a__undone, .int a__boughtNow, .ref a_wayBy, .ref a_wayThen, .int a__walkMost, .int a__walkGoing, .int a__walkSet, .ref a_kept, .long a__drawX, .ref a_images, .ref a_imageX, .ref a_isMade])), (a_stack, .inl (cs 3, 64, .inr (.inl k8_C_a_stack)))]) [1,2] (by decide) rfl) hE hS hFc⟩ rfl rfl hl.1 rfl (lv_room (Nat.le_of_ble_eq_true rfl)) dX12_reckons_136 ⟨(Nat.le_of_ble_eq_true rfl), (Nat.le_of_ble_eq_true rfl)⟩) hS (fun q _ h => hFc q h) hFc (fun r7 o8 t H1 locs ht hvm hw hB hz1 hk1 hS => ?_)
        obtain ⟨hP1, hD1⟩ := hB
        rw [ht] at hP1
        obtain ⟨hP, hD⟩ := va_join (wr := [(a_sign, .inl (cs 0, 2400, .inl a_sign_c)), (a_word, .inl (cs 3, 13, .inr (.inl a_word_c)))]) (w1 := [(a, .inr (12, [.ref a_tape, .int a__taped, .int a__rules, .ref a_sign, .ref a_length, .ref a_clause, .ref a_clauses, .ref a_read, .int a__next, .int a__wrong, .int a__number, .int a__text, .int a__made, .int a__deep, .int a__lines, .ref a_open, .int a__opened, .ref a_stack, .int (o8.1 1), .ref a_word, .ref a_said, .int a__x, .ref a_worth, .ref a_mate, .ref a_wasSaid, .int a__undone, .int a__boughtNow, .ref a_wayBy, .ref a_wayThen, .int a__walkMost, .int a__walkGoing, .int a__walkSet, .ref a_kept, .long a__drawX, .ref a_images, .ref a_imageX, .ref a_isMade])), (a_stack, .inl (cs 3, 64, .inr (.inl k8_C_a_stack)))]) hP hD [1, 2] [0, 3] rfl rfl (by decide) (by decide) hk1 hFc hP1 hD1
        generalize H1 = H at hP hS ⊢
        have hP : va_P D classes [(a_sign, .inl (cs 0, 2400, .inl a_sign_c)), (a_word, .inl (cs 3, 13, .inr (.inl a_word_c))), (a, .inr (12, [.ref a_tape, .int a__taped, .int a__rules, .ref a_sign, .ref a_length, .ref a_clause, .ref a_clauses, .ref a_read, .int a__next, .int a__wrong, .int a__number, .int a__text, .int a__made, .int a__deep, .int a__lines, .ref a_open, .int a__opened, .ref a_stack, .int (o8.1 1), .ref a_word, .ref a_said, .int a__x, .ref a_worth, .ref a_mate, .ref a_wasSaid, .int a__undone, .int a__boughtNow, .ref a_wayBy, .ref a_wayThen, .int a__walkMost, .int a__walkGoing, .int a__walkSet, .ref a_kept, .long a__drawX, .ref a_images, .ref a_imageX, .ref a_isMade])), (a_stack, .inl (cs 3, 64, .inr (.inl k8_C_a_stack)))] H := hP
        have hD : va_D A [(a_sign, .inl (cs 0, 2400, .inl a_sign_c)), (a_word, .inl (cs 3, 13, .inr (.inl a_word_c))), (a, .inr (12, [.ref a_tape, .int a__taped, .int a__rules, .ref a_sign, .ref a_length, .ref a_clause, .ref a_clauses, .ref a_read, .int a__next, .int a__wrong, .int a__number, .int a__text, .int a__made, .int a__deep, .int a__lines, .ref a_open, .int a__opened, .ref a_stack, .int (o8.1 1), .ref a_word, .ref a_said, .int a__x, .ref a_worth, .ref a_mate, .ref a_wasSaid, .int a__undone, .int a__boughtNow, .ref a_wayBy, .ref a_wayThen, .int a__walkMost, .int a__walkGoing, .int a__walkSet, .ref a_kept, .long a__drawX, .ref a_images, .ref a_imageX, .ref a_isMade])), (a_stack, .inl (cs 3, 64, .inr (.inl k8_C_a_stack)))] := hD
        clear hk1 hFc hP1 hD1 hz1
        rcases hw with ⟨h9, x10⟩
        have ii11 : 0 ≤ (o8.1 1).toInt ∧ (o8.1 1).toInt ≤ 63 := h9
        refine W.widen (k := 0) (n := 0) (Nat.le_of_ble_eq_true rfl) (Nat.le_of_ble_eq_true rfl) ?_
        exact W.lret (v := r7) hx hb hr (fun t ht hW => ⟨⟨r7, (fun k => match k with | 0 => 0 | 1 => o8.1 1 | _ => 0, fun _ _ => 0), rfl, (⟨q8_12, h3, h9⟩), k8_C_a_stack, by rw [ht]; exact hP.sub [0, 2, 3, 1] rfl, hD.sub [0, 2, 3, 1] (by decide) rfl⟩, hS.F ht⟩) hS.2.2 dX12_reckons_139
      · have t12 : k8_L_4.toInt < p2.toInt := lin_geN c1 rfl rfl
        have h13 : IV 1 2147483647 p2 := iv_lt2 (Int32.not_le.mp c1) q8_10 iv_top (by decide)
        have ii14 : 1 ≤ p2.toInt ∧ p2.toInt ≤ 2147483647 := h13
        have h15 : IV 0 399 k8_L_4 := ⟨by omega, by omega⟩
        have ii16 : 0 ≤ k8_L_4.toInt ∧ k8_L_4.toInt ≤ 399 := h15
        refine lv_aload_n hx hb dX12_reckons_14 rfl (lv_at hl 1 rfl) ?_
        refine va_get (D := D) (ci := 12) (v := .ref a_sign) (C := RX12) (T := TX12) (N := 37) hx hb hT i_X12 hown hK hP 1 rfl rfl 3 (by decide) (hT _ q_177) (fun _ h9 => h9) rfl dX12_reckons_15 ?_
        refine lv_sipush (v := 400) hx hb dX12_reckons_18 (by decide) ?_
        refine lv_iload_n hx hb dX12_reckons_21 rfl (lv_at hl 2 rfl) ?_
        refine lv_imul hx hb dX12_reckons_22 ?_
        refine lv_topi (fun v17 ev17 => ?_)
        have hv17 : IV 0 2000 v17 := iv_mul ev17 (iv_c (a := 400) (b := 400) (by decide)) h_p0 (by decide) (by decide) (by decide) (by decide)
        have ii18 : 0 ≤ v17.toInt ∧ v17.toInt ≤ 2000 := hv17
        have lv17 : v17.toInt = 400 * p0.toInt := lin_mul ev17 (iv_c (a := 400) (b := 400) (by decide)) h_p0 (by decide) rfl (by decide) (by decide) (by decide) (by decide)
        refine lv_iload hx hb dX12_reckons_23 (lv_at hl 0 rfl) ?_
        refine lv_iadd hx hb dX12_reckons_25 ?_
        refine lv_topi (fun v19 ev19 => ?_)
        have hv19 : IV 0 2399 v19 := iv_add ev19 hv17 h15 (by decide) (by decide)
        have ii20 : 0 ≤ v19.toInt ∧ v19.toInt ≤ 2399 := hv19
        have lv19 : v19.toInt = v17.toInt + k8_L_4.toInt := lin_add ev19 hv17 h15 rfl rfl (by decide) (by decide)
        refine va_iald hx hb hK hP 0 0 rfl rfl (iv_v hv19 (by decide) (by decide)) dX12_reckons_26 ?_
        refine lv_topi (fun v21 ev21 => ?_)
        have lv21 : v21.toInt = (a_sign_c (Int32.toNatClampNeg v19)).toInt := by rw [ev21]
        refine lv_bipush (v := 15) hx hb dX12_reckons_27 (by decide) ?_
        refine lv_iand hx hb dX12_reckons_29 ?_
        refine lv_topi (fun v22 ev22 => ?_)
        have hv22 : IV 0 15 v22 := iv_and2 ev22 (iv_c (a := 15) (b := 15) (by decide))
        have ii23 : 0 ≤ v22.toInt ∧ v22.toInt ≤ 15 := hv22
        refine lv_istore (lv' := [(5, .int v22), (4, .int k8_L_4), (0, .ref a), (1, .int p0), (2, .int p1), (3, .int p2)]) hx hb dX12_reckons_30 hl (by decide) rfl (fun ls hl => ?_)
        refine lv_aload_n hx hb dX12_reckons_32 rfl (lv_at hl 2 rfl) ?_
        refine va_get (D := D) (ci := 12) (v := .ref a_sign) (C := RX12) (T := TX12) (N := 37) hx hb hT i_X12 hown hK hP 1 rfl rfl 3 (by decide) (hT _ q_177) (fun _ h9 => h9) rfl dX12_reckons_33 ?_
        refine lv_sipush (v := 400) hx hb dX12_reckons_36 (by decide) ?_
        refine lv_iload_n hx hb dX12_reckons_39 rfl (lv_at hl 3 rfl) ?_
        refine lv_imul hx hb dX12_reckons_40 ?_
        refine lv_topi (fun v24 ev24 => ?_)
        have hv24 : IV 0 2000 v24 := iv_mul ev24 (iv_c (a := 400) (b := 400) (by decide)) h_p0 (by decide) (by decide) (by decide) (by decide)
        have ii25 : 0 ≤ v24.toInt ∧ v24.toInt ≤ 2000 := hv24
        have lv24 : v24.toInt = 400 * p0.toInt := lin_mul ev24 (iv_c (a := 400) (b := 400) (by decide)) h_p0 (by decide) rfl (by decide) (by decide) (by decide) (by decide)
        refine lv_iload hx hb dX12_reckons_41 (lv_at hl 1 rfl) ?_
        refine lv_iadd hx hb dX12_reckons_43 ?_
        refine lv_topi (fun v26 ev26 => ?_)
        have hv26 : IV 0 2399 v26 := iv_add ev26 hv24 h15 (by decide) (by decide)
        have ii27 : 0 ≤ v26.toInt ∧ v26.toInt ≤ 2399 := hv26
        have lv26 : v26.toInt = v24.toInt + k8_L_4.toInt := lin_add ev26 hv24 h15 rfl rfl (by decide) (by decide)
        refine va_iald hx hb hK hP 0 0 rfl rfl (iv_v hv26 (by decide) (by decide)) dX12_reckons_44 ?_
        refine lv_topi (fun v28 ev28 => ?_)
        have lv28 : v28.toInt = (a_sign_c (Int32.toNatClampNeg v26)).toInt := by rw [ev28]
        refine lv_iconst (v := 4) hx hb dX12_reckons_45 (by decide) ?_
        refine lv_ishr hx hb dX12_reckons_46 ?_
        refine lv_topi (fun v29 ev29 => ?_)
        refine lv_istore (lv' := [(6, .int v29), (5, .int v22), (4, .int k8_L_4), (0, .ref a), (1, .int p0), (2, .int p1), (3, .int p2)]) hx hb dX12_reckons_47 hl (by decide) rfl (fun ls hl => ?_)
        have vv : v28 = v21 := by rw [ev28, ev26, ev24, ev21, ev19, ev17]
        obtain ⟨nh, st1, st2⟩ := rk_step (x := v21) sg4 x8_2 (by omega) (by rw [ev21]; show a_sign_c (v19.toInt.toNat) = _; congr 1; omega)
        refine lv_iload hx hb dX12_reckons_49 (lv_at hl 1 rfl) ?_
        refine lv_if_ne (tgt := 64) hx hb dX12_reckons_51 (by decide) (fun c30 => ?_) (fun c30 => ?_)
        · have t31 : v22.toInt ≠ 0 := lin_ne c30 rfl (by decide)
          have h32 : IV 1 15 v22 := iv_neL c30 hv22 (by decide)
          have ii33 : 1 ≤ v22.toInt ∧ v22.toInt ≤ 15 := h32
          refine lv_iload hx hb dX12_reckons_64 (lv_at hl 1 rfl) ?_
          refine lv_iconst (v := 1) hx hb dX12_reckons_66 (by decide) ?_
          refine lv_icmp_ne (tgt := 84) hx hb dX12_reckons_67 (by decide) (fun c34 => ?_) (fun c34 => ?_)
          · have t35 : v22.toInt ≠ 1 := lin_ne c34 rfl (by decide)
            have h36 : IV 2 15 v22 := iv_neL c34 h32 (by decide)
            have ii37 : 2 ≤ v22.toInt ∧ v22.toInt ≤ 15 := h36
            refine lv_iload hx hb dX12_reckons_84 (lv_at hl 1 rfl) ?_
            refine lv_bipush (v := 11) hx hb dX12_reckons_86 (by decide) ?_
            refine lv_icmp_ne (tgt := 104) hx hb dX12_reckons_88 (by decide) (fun c38 => ?_) (fun c38 => ?_)
            · have t39 : v22.toInt ≠ 11 := lin_ne c38 rfl (by decide)
              have sx := stp_b (show ¬ v21 &&& 15 = 0 by rw [← ev22]; assumption) (show ¬ v21 &&& 15 = 1 by rw [← ev22]; assumption) (show ¬ v21 &&& 15 = 11 by rw [← ev22]; assumption) st1
              have h40 : IV 2 60 k8_F_a_18 := ⟨by omega, by omega⟩
              have ii41 : 2 ≤ k8_F_a_18.toInt ∧ k8_F_a_18.toInt ≤ 60 := h40
              refine lv_aload_n hx hb dX12_reckons_104 rfl (lv_at hl 3 rfl) ?_
              have hFc := va_free (wc := [(a, .inr (12, [.ref a_tape, .int a__taped, .int a__rules, .ref a_sign, .ref a_length, .ref a_clause, .ref a_clauses, .ref a_read, .int a__next, .int a__wrong, .int a__number, .int a__text, .int a__made, .int a__deep, .int a__lines, .ref a_open, .int a__opened, .ref a_stack, .int k8_F_a_18, .ref a_word, .ref a_said, .int a__x, .ref a_worth, .ref a_mate, .ref a_wasSaid, .int a__undone, .int a__boughtNow, .ref a_wayBy, .ref a_wayThen, .int a__walkMost, .int a__walkGoing, .int a__walkSet, .ref a_kept, .long a__drawX, .ref a_images, .ref a_imageX, .ref a_isMade])), (a_stack, .inl (cs 3, 64, .inr (.inl k8_C_a_stack)))]) hD hS hA [1,2] rfl
              refine va_calll (va_runV (As := []) (rest := []) ⟨hx, hb, hml, hown, hT⟩ (c_X12_pop l D cs kK kV a a_tape a__taped a__rules a_sign a_length a_clause a_clauses a_read a__next a__wrong a__number a__text a__made a__deep a__lines a_open a__opened a_stack k8_F_a_18 a_word a_said a__x a_worth a_mate a_wasSaid a__undone a__boughtNow a_wayBy a_wayThen a__walkMost a__walkGoing a__walkSet a_kept a__drawX a_images a_imageX a_isMade k8_C_a_stack h_a__taped h_a__rules h_a__next h_a__text h_a__made h_a__lines h_a__opened ((iv_w h40 (by decide) (by decide))) h_a__x h_a__undone H.size) (cwV 0 hT (hz_gV q_1093 q_1094 q_1095 q_701 q_1096) rfl rfl rfl (by decide +kernel) ⟨(Nat.le_of_ble_eq_true rfl), (Nat.le_of_ble_eq_true rfl)⟩) ⟨hz_C.blind, va_recv hK hP (ci := 12) (q0 := 1) rfl rfl, hz_C.mk (hP.sub (ws' := [(a, .inr (12, [.ref a_tape, .int a__taped, .int a__rules, .ref a_sign, .ref a_length, .ref a_clause, .ref a_clauses, .ref a_read, .int a__next, .int a__wrong, .int a__number, .int a__text, .int a__made, .int a__deep, .int a__lines, .ref a_open, .int a__opened, .ref a_stack, .int k8_F_a_18, .ref a_word, .ref a_said, .int a__x, .ref a_worth, .ref a_mate, .ref a_wasSaid, .int a__undone, .int a__boughtNow, .ref a_wayBy, .ref a_wayThen, .int a__walkMost, .int a__walkGoing, .int a__walkSet, .ref a_kept, .long a__drawX, .ref a_images, .ref a_imageX, .ref a_isMade])), (a_stack, .inl (cs 3, 64, .inr (.inl k8_C_a_stack)))]) [1,2] rfl) (hD.sub (ws' := [(a, .inr (12, [.ref a_tape, .int a__taped, .int a__rules, .ref a_sign, .ref a_length, .ref a_clause, .ref a_clauses, .ref a_read, .int a__next, .int a__wrong, .int a__number, .int a__text, .int a__made, .int a__deep, .int a__lines, .ref a_open, .int a__opened, .ref a_stack, .int k8_F_a_18, .ref a_word, .ref a_said, .int a__x, .ref a_worth, .ref a_mate, .ref a_wasSaid, .int a__undone, .int a__boughtNow, .ref a_wayBy, .ref a_wayThen, .int a__walkMost, .int a__walkGoing, .int a__walkSet, .ref a_kept, .long a__drawX, .ref a_images, .ref a_imageX, .ref a_isMade])), (a_stack, .inl (cs 3, 64, .inr (.inl k8_C_a_stack)))]) [1,2] (by decide) rfl) hE hS hFc⟩ rfl rfl hl.1 rfl (lv_room (Nat.le_of_ble_eq_true rfl)) dX12_reckons_105 ⟨(Nat.le_of_ble_eq_true rfl), (Nat.le_of_ble_eq_true rfl)⟩) hS (fun q _ h => hFc q h) hFc (fun r42 o43 t H1 locs ht hvm hw hB hz1 hk1 hS => ?_)
              obtain ⟨hP1, hD1⟩ := hB
              rw [ht] at hP1
              obtain ⟨hP, hD⟩ := va_join (wr := [(a_sign, .inl (cs 0, 2400, .inl a_sign_c)), (a_word, .inl (cs 3, 13, .inr (.inl a_word_c)))]) (w1 := [(a, .inr (12, [.ref a_tape, .int a__taped, .int a__rules, .ref a_sign, .ref a_length, .ref a_clause, .ref a_clauses, .ref a_read, .int a__next, .int a__wrong, .int a__number, .int a__text, .int a__made, .int a__deep, .int a__lines, .ref a_open, .int a__opened, .ref a_stack, .int (o43.1 1), .ref a_word, .ref a_said, .int a__x, .ref a_worth, .ref a_mate, .ref a_wasSaid, .int a__undone, .int a__boughtNow, .ref a_wayBy, .ref a_wayThen, .int a__walkMost, .int a__walkGoing, .int a__walkSet, .ref a_kept, .long a__drawX, .ref a_images, .ref a_imageX, .ref a_isMade])), (a_stack, .inl (cs 3, 64, .inr (.inl k8_C_a_stack)))]) hP hD [1, 2] [0, 3] rfl rfl (by decide) (by decide) hk1 hFc hP1 hD1
              generalize H1 = H at hP hS ⊢
              have hP : va_P D classes [(a_sign, .inl (cs 0, 2400, .inl a_sign_c)), (a_word, .inl (cs 3, 13, .inr (.inl a_word_c))), (a, .inr (12, [.ref a_tape, .int a__taped, .int a__rules, .ref a_sign, .ref a_length, .ref a_clause, .ref a_clauses, .ref a_read, .int a__next, .int a__wrong, .int a__number, .int a__text, .int a__made, .int a__deep, .int a__lines, .ref a_open, .int a__opened, .ref a_stack, .int (o43.1 1), .ref a_word, .ref a_said, .int a__x, .ref a_worth, .ref a_mate, .ref a_wasSaid, .int a__undone, .int a__boughtNow, .ref a_wayBy, .ref a_wayThen, .int a__walkMost, .int a__walkGoing, .int a__walkSet, .ref a_kept, .long a__drawX, .ref a_images, .ref a_imageX, .ref a_isMade])), (a_stack, .inl (cs 3, 64, .inr (.inl k8_C_a_stack)))] H := hP
              have hD : va_D A [(a_sign, .inl (cs 0, 2400, .inl a_sign_c)), (a_word, .inl (cs 3, 13, .inr (.inl a_word_c))), (a, .inr (12, [.ref a_tape, .int a__taped, .int a__rules, .ref a_sign, .ref a_length, .ref a_clause, .ref a_clauses, .ref a_read, .int a__next, .int a__wrong, .int a__number, .int a__text, .int a__made, .int a__deep, .int a__lines, .ref a_open, .int a__opened, .ref a_stack, .int (o43.1 1), .ref a_word, .ref a_said, .int a__x, .ref a_worth, .ref a_mate, .ref a_wasSaid, .int a__undone, .int a__boughtNow, .ref a_wayBy, .ref a_wayThen, .int a__walkMost, .int a__walkGoing, .int a__walkSet, .ref a_kept, .long a__drawX, .ref a_images, .ref a_imageX, .ref a_isMade])), (a_stack, .inl (cs 3, 64, .inr (.inl k8_C_a_stack)))] := hD
              clear hk1 hFc hP1 hD1 hz1
              rcases hw with ⟨h44, x45⟩
              have ii46 : 0 ≤ (o43.1 1).toInt ∧ (o43.1 1).toInt ≤ 63 := h44
              refine lv_lstore (lv' := [(7, .long r42), (6, .int v29), (5, .int v22), (4, .int k8_L_4), (0, .ref a), (1, .int p0), (2, .int p1), (3, .int p2)]) hx hb dX12_reckons_108 hl (by decide) rfl (fun ls hl => ?_)
              refine lv_aload_n hx hb dX12_reckons_110 rfl (lv_at hl 4 rfl) ?_
              have h47 : IV 1 60 (o43.1 1) := ⟨by omega, by omega⟩
              have ii48 : 1 ≤ (o43.1 1).toInt ∧ (o43.1 1).toInt ≤ 60 := h47
              have hFc := va_free (wc := [(a, .inr (12, [.ref a_tape, .int a__taped, .int a__rules, .ref a_sign, .ref a_length, .ref a_clause, .ref a_clauses, .ref a_read, .int a__next, .int a__wrong, .int a__number, .int a__text, .int a__made, .int a__deep, .int a__lines, .ref a_open, .int a__opened, .ref a_stack, .int (o43.1 1), .ref a_word, .ref a_said, .int a__x, .ref a_worth, .ref a_mate, .ref a_wasSaid, .int a__undone, .int a__boughtNow, .ref a_wayBy, .ref a_wayThen, .int a__walkMost, .int a__walkGoing, .int a__walkSet, .ref a_kept, .long a__drawX, .ref a_images, .ref a_imageX, .ref a_isMade])), (a_stack, .inl (cs 3, 64, .inr (.inl k8_C_a_stack)))]) hD hS hA [2,3] rfl
              refine va_calll (va_runV (As := []) (rest := []) ⟨hx, hb, hml, hown, hT⟩ (c_X12_pop l D cs kK kV a a_tape a__taped a__rules a_sign a_length a_clause a_clauses a_read a__next a__wrong a__number a__text a__made a__deep a__lines a_open a__opened a_stack (o43.1 1) a_word a_said a__x a_worth a_mate a_wasSaid a__undone a__boughtNow a_wayBy a_wayThen a__walkMost a__walkGoing a__walkSet a_kept a__drawX a_images a_imageX a_isMade k8_C_a_stack h_a__taped h_a__rules h_a__next h_a__text h_a__made h_a__lines h_a__opened ((iv_w h47 (by decide) (by decide))) h_a__x h_a__undone H.size) (cwV 0 hT (hz_gV q_1093 q_1094 q_1095 q_701 q_1096) rfl rfl rfl (by decide +kernel) ⟨(Nat.le_of_ble_eq_true rfl), (Nat.le_of_ble_eq_true rfl)⟩) ⟨hz_C.blind, va_recv hK hP (ci := 12) (q0 := 2) rfl rfl, hz_C.mk (hP.sub (ws' := [(a, .inr (12, [.ref a_tape, .int a__taped, .int a__rules, .ref a_sign, .ref a_length, .ref a_clause, .ref a_clauses, .ref a_read, .int a__next, .int a__wrong, .int a__number, .int a__text, .int a__made, .int a__deep, .int a__lines, .ref a_open, .int a__opened, .ref a_stack, .int (o43.1 1), .ref a_word, .ref a_said, .int a__x, .ref a_worth, .ref a_mate, .ref a_wasSaid, .int a__undone, .int a__boughtNow, .ref a_wayBy, .ref a_wayThen, .int a__walkMost, .int a__walkGoing, .int a__walkSet, .ref a_kept, .long a__drawX, .ref a_images, .ref a_imageX, .ref a_isMade])), (a_stack, .inl (cs 3, 64, .inr (.inl k8_C_a_stack)))]) [2,3] rfl) (hD.sub (ws' := [(a, .inr (12, [.ref a_tape, .int a__taped, .int a__rules, .ref a_sign, .ref a_length, .ref a_clause, .ref a_clauses, .ref a_read, .int a__next, .int a__wrong, .int a__number, .int a__text, .int a__made, .int a__deep, .int a__lines, .ref a_open, .int a__opened, .ref a_stack, .int (o43.1 1), .ref a_word, .ref a_said, .int a__x, .ref a_worth, .ref a_mate, .ref a_wasSaid, .int a__undone, .int a__boughtNow, .ref a_wayBy, .ref a_wayThen, .int a__walkMost, .int a__walkGoing, .int a__walkSet, .ref a_kept, .long a__drawX, .ref a_images, .ref a_imageX, .ref a_isMade])), (a_stack, .inl (cs 3, 64, .inr (.inl k8_C_a_stack)))]) [2,3] (by decide) rfl) hE hS hFc⟩ rfl rfl hl.1 rfl (lv_room (Nat.le_of_ble_eq_true rfl)) dX12_reckons_111 ⟨(Nat.le_of_ble_eq_true rfl), (Nat.le_of_ble_eq_true rfl)⟩) hS (fun q _ h => hFc q h) hFc (fun r49 o50 t H1 locs ht hvm hw hB hz1 hk1 hS => ?_)
              obtain ⟨hP1, hD1⟩ := hB
              rw [ht] at hP1
              obtain ⟨hP, hD⟩ := va_join (wr := [(a_sign, .inl (cs 0, 2400, .inl a_sign_c)), (a_word, .inl (cs 3, 13, .inr (.inl a_word_c)))]) (w1 := [(a, .inr (12, [.ref a_tape, .int a__taped, .int a__rules, .ref a_sign, .ref a_length, .ref a_clause, .ref a_clauses, .ref a_read, .int a__next, .int a__wrong, .int a__number, .int a__text, .int a__made, .int a__deep, .int a__lines, .ref a_open, .int a__opened, .ref a_stack, .int (o50.1 1), .ref a_word, .ref a_said, .int a__x, .ref a_worth, .ref a_mate, .ref a_wasSaid, .int a__undone, .int a__boughtNow, .ref a_wayBy, .ref a_wayThen, .int a__walkMost, .int a__walkGoing, .int a__walkSet, .ref a_kept, .long a__drawX, .ref a_images, .ref a_imageX, .ref a_isMade])), (a_stack, .inl (cs 3, 64, .inr (.inl k8_C_a_stack)))]) hP hD [2, 3] [0, 1] rfl rfl (by decide) (by decide) hk1 hFc hP1 hD1
              generalize H1 = H at hP hS ⊢
              have hP : va_P D classes [(a_sign, .inl (cs 0, 2400, .inl a_sign_c)), (a_word, .inl (cs 3, 13, .inr (.inl a_word_c))), (a, .inr (12, [.ref a_tape, .int a__taped, .int a__rules, .ref a_sign, .ref a_length, .ref a_clause, .ref a_clauses, .ref a_read, .int a__next, .int a__wrong, .int a__number, .int a__text, .int a__made, .int a__deep, .int a__lines, .ref a_open, .int a__opened, .ref a_stack, .int (o50.1 1), .ref a_word, .ref a_said, .int a__x, .ref a_worth, .ref a_mate, .ref a_wasSaid, .int a__undone, .int a__boughtNow, .ref a_wayBy, .ref a_wayThen, .int a__walkMost, .int a__walkGoing, .int a__walkSet, .ref a_kept, .long a__drawX, .ref a_images, .ref a_imageX, .ref a_isMade])), (a_stack, .inl (cs 3, 64, .inr (.inl k8_C_a_stack)))] H := hP
              have hD : va_D A [(a_sign, .inl (cs 0, 2400, .inl a_sign_c)), (a_word, .inl (cs 3, 13, .inr (.inl a_word_c))), (a, .inr (12, [.ref a_tape, .int a__taped, .int a__rules, .ref a_sign, .ref a_length, .ref a_clause, .ref a_clauses, .ref a_read, .int a__next, .int a__wrong, .int a__number, .int a__text, .int a__made, .int a__deep, .int a__lines, .ref a_open, .int a__opened, .ref a_stack, .int (o50.1 1), .ref a_word, .ref a_said, .int a__x, .ref a_worth, .ref a_mate, .ref a_wasSaid, .int a__undone, .int a__boughtNow, .ref a_wayBy, .ref a_wayThen, .int a__walkMost, .int a__walkGoing, .int a__walkSet, .ref a_kept, .long a__drawX, .ref a_images, .ref a_imageX, .ref a_isMade])), (a_stack, .inl (cs 3, 64, .inr (.inl k8_C_a_stack)))] := hD
              clear hk1 hFc hP1 hD1 hz1
              rcases hw with ⟨h51, x52⟩
              have ii53 : 0 ≤ (o50.1 1).toInt ∧ (o50.1 1).toInt ≤ 63 := h51
              refine lv_lstore (lv' := [(9, .long r49), (7, .long r42), (6, .int v29), (5, .int v22), (4, .int k8_L_4), (0, .ref a), (1, .int p0), (2, .int p1), (3, .int p2)]) hx hb dX12_reckons_114 hl (by decide) rfl (fun ls hl => ?_)
              refine lv_aload_n hx hb dX12_reckons_116 rfl (lv_at hl 5 rfl) ?_
              refine lv_iload hx hb dX12_reckons_117 (lv_at hl 3 rfl) ?_
              refine lv_lload hx hb dX12_reckons_119 (lv_at hl 0 rfl) ?_
              refine lv_lload hx hb dX12_reckons_121 (lv_at hl 1 rfl) ?_
              refine va_calll (va_runS (As := [.int v22, .long r49, .long r42]) (rest := [.ref a]) ⟨hx, hb, hml, hown, hT⟩ (c_X12_one l D cs kK kV v22 r49 r42) (va_cwS 3 hT (hz_gS q_1097 q_1098 q_701 q_1099) rfl rfl rfl (by decide +kernel) ⟨(Nat.le_of_ble_eq_true rfl), (Nat.le_of_ble_eq_true rfl)⟩) ⟨hz_P.blind, hz_P.mk (hP.sub (ws' := []) [] rfl) hE hS⟩ rfl rfl hl.1 rfl (lv_room (Nat.le_of_ble_eq_true rfl)) dX12_reckons_123 ⟨(Nat.le_of_ble_eq_true rfl), (Nat.le_of_ble_eq_true rfl)⟩) hS (fun _ _ h => h.elim) (fun _ h => h.elim) (fun r54 u t H1 locs ht hvm hw hB hz1 hk1 hS => ?_)
              have hP := hz_keep hP hk1
              clear hk1 hB hz1
              generalize H1 = H at hP hS ⊢
              have h55 : IV 0 59 (o50.1 1) := ⟨by omega, by omega⟩
              have ii56 : 0 ≤ (o50.1 1).toInt ∧ (o50.1 1).toInt ≤ 59 := h55
              have hFc := va_free (wc := [(a, .inr (12, [.ref a_tape, .int a__taped, .int a__rules, .ref a_sign, .ref a_length, .ref a_clause, .ref a_clauses, .ref a_read, .int a__next, .int a__wrong, .int a__number, .int a__text, .int a__made, .int a__deep, .int a__lines, .ref a_open, .int a__opened, .ref a_stack, .int (o50.1 1), .ref a_word, .ref a_said, .int a__x, .ref a_worth, .ref a_mate, .ref a_wasSaid, .int a__undone, .int a__boughtNow, .ref a_wayBy, .ref a_wayThen, .int a__walkMost, .int a__walkGoing, .int a__walkSet, .ref a_kept, .long a__drawX, .ref a_images, .ref a_imageX, .ref a_isMade])), (a_stack, .inl (cs 3, 64, .inr (.inl k8_C_a_stack)))]) hD hS hA [2,3] rfl
              refine va_callv (va_runV (As := [.long r54]) (rest := []) ⟨hx, hb, hml, hown, hT⟩ (c_X12_push l D cs kK kV a r54 a_tape a__taped a__rules a_sign a_length a_clause a_clauses a_read a__next a__wrong a__number a__text a__made a__deep a__lines a_open a__opened a_stack (o50.1 1) a_word a_said a__x a_worth a_mate a_wasSaid a__undone a__boughtNow a_wayBy a_wayThen a__walkMost a__walkGoing a__walkSet a_kept a__drawX a_images a_imageX a_isMade k8_C_a_stack h_a__taped h_a__rules h_a__next h_a__text h_a__made h_a__lines h_a__opened ((iv_w h55 (by decide) (by decide))) h_a__x h_a__undone H.size) (cwV 1 hT (hz_gV q_1089 q_1090 q_1091 q_701 q_1092) rfl rfl rfl (by decide +kernel) ⟨(Nat.le_of_ble_eq_true rfl), (Nat.le_of_ble_eq_true rfl)⟩) ⟨hz_C.blind, va_recv hK hP (ci := 12) (q0 := 2) rfl rfl, hz_C.mk (hP.sub (ws' := [(a, .inr (12, [.ref a_tape, .int a__taped, .int a__rules, .ref a_sign, .ref a_length, .ref a_clause, .ref a_clauses, .ref a_read, .int a__next, .int a__wrong, .int a__number, .int a__text, .int a__made, .int a__deep, .int a__lines, .ref a_open, .int a__opened, .ref a_stack, .int (o50.1 1), .ref a_word, .ref a_said, .int a__x, .ref a_worth, .ref a_mate, .ref a_wasSaid, .int a__undone, .int a__boughtNow, .ref a_wayBy, .ref a_wayThen, .int a__walkMost, .int a__walkGoing, .int a__walkSet, .ref a_kept, .long a__drawX, .ref a_images, .ref a_imageX, .ref a_isMade])), (a_stack, .inl (cs 3, 64, .inr (.inl k8_C_a_stack)))]) [2,3] rfl) (hD.sub (ws' := [(a, .inr (12, [.ref a_tape, .int a__taped, .int a__rules, .ref a_sign, .ref a_length, .ref a_clause, .ref a_clauses, .ref a_read, .int a__next, .int a__wrong, .int a__number, .int a__text, .int a__made, .int a__deep, .int a__lines, .ref a_open, .int a__opened, .ref a_stack, .int (o50.1 1), .ref a_word, .ref a_said, .int a__x, .ref a_worth, .ref a_mate, .ref a_wasSaid, .int a__undone, .int a__boughtNow, .ref a_wayBy, .ref a_wayThen, .int a__walkMost, .int a__walkGoing, .int a__walkSet, .ref a_kept, .long a__drawX, .ref a_images, .ref a_imageX, .ref a_isMade])), (a_stack, .inl (cs 3, 64, .inr (.inl k8_C_a_stack)))]) [2,3] (by decide) rfl) hE hS hFc⟩ rfl rfl hl.1 rfl (lv_room (Nat.le_of_ble_eq_true rfl)) dX12_reckons_126 ⟨(Nat.le_of_ble_eq_true rfl), (Nat.le_of_ble_eq_true rfl)⟩) hS (fun q _ h => hFc q h) hFc (fun o58 t H1 locs ht hvm hw hB hz1 hk1 hS => ?_)
              obtain ⟨o59, hP1, hD1⟩ := hB
              rw [ht] at hP1
              obtain ⟨hP, hD⟩ := va_join (wr := [(a_sign, .inl (cs 0, 2400, .inl a_sign_c)), (a_word, .inl (cs 3, 13, .inr (.inl a_word_c)))]) (w1 := [(a, .inr (12, [.ref a_tape, .int a__taped, .int a__rules, .ref a_sign, .ref a_length, .ref a_clause, .ref a_clauses, .ref a_read, .int a__next, .int a__wrong, .int a__number, .int a__text, .int a__made, .int a__deep, .int a__lines, .ref a_open, .int a__opened, .ref a_stack, .int (o58.1 1), .ref a_word, .ref a_said, .int a__x, .ref a_worth, .ref a_mate, .ref a_wasSaid, .int a__undone, .int a__boughtNow, .ref a_wayBy, .ref a_wayThen, .int a__walkMost, .int a__walkGoing, .int a__walkSet, .ref a_kept, .long a__drawX, .ref a_images, .ref a_imageX, .ref a_isMade])), (a_stack, .inl (cs 3, 64, .inr (.inl o59)))]) hP hD [2, 3] [0, 1] rfl rfl (by decide) (by decide) hk1 hFc hP1 hD1
              generalize H1 = H at hP hS ⊢
              have hP : va_P D classes [(a_sign, .inl (cs 0, 2400, .inl a_sign_c)), (a_word, .inl (cs 3, 13, .inr (.inl a_word_c))), (a, .inr (12, [.ref a_tape, .int a__taped, .int a__rules, .ref a_sign, .ref a_length, .ref a_clause, .ref a_clauses, .ref a_read, .int a__next, .int a__wrong, .int a__number, .int a__text, .int a__made, .int a__deep, .int a__lines, .ref a_open, .int a__opened, .ref a_stack, .int (o58.1 1), .ref a_word, .ref a_said, .int a__x, .ref a_worth, .ref a_mate, .ref a_wasSaid, .int a__undone, .int a__boughtNow, .ref a_wayBy, .ref a_wayThen, .int a__walkMost, .int a__walkGoing, .int a__walkSet, .ref a_kept, .long a__drawX, .ref a_images, .ref a_imageX, .ref a_isMade])), (a_stack, .inl (cs 3, 64, .inr (.inl o59)))] H := hP
              have hD : va_D A [(a_sign, .inl (cs 0, 2400, .inl a_sign_c)), (a_word, .inl (cs 3, 13, .inr (.inl a_word_c))), (a, .inr (12, [.ref a_tape, .int a__taped, .int a__rules, .ref a_sign, .ref a_length, .ref a_clause, .ref a_clauses, .ref a_read, .int a__next, .int a__wrong, .int a__number, .int a__text, .int a__made, .int a__deep, .int a__lines, .ref a_open, .int a__opened, .ref a_stack, .int (o58.1 1), .ref a_word, .ref a_said, .int a__x, .ref a_worth, .ref a_mate, .ref a_wasSaid, .int a__undone, .int a__boughtNow, .ref a_wayBy, .ref a_wayThen, .int a__walkMost, .int a__walkGoing, .int a__walkSet, .ref a_kept, .long a__drawX, .ref a_images, .ref a_imageX, .ref a_isMade])), (a_stack, .inl (cs 3, 64, .inr (.inl o59)))] := hD
              clear hk1 hFc hP1 hD1 hz1
              rcases hw with ⟨h60, x61⟩
              have ii62 : 1 ≤ (o58.1 1).toInt ∧ (o58.1 1).toInt ≤ 64 := h60
              obtain ⟨v63, ev63⟩ : ∃ z : Int32, z = k8_L_4 + 1 := ⟨_, rfl⟩
              have hv63 : IV 1 400 v63 := iv_add ev63 h15 (iv_c (a := 1) (b := 1) (by decide)) (by decide) (by decide)
              have dv63 : v63.toInt = k8_L_4.toInt + 1 := iv_addE ev63 h15 (iv_c (a := 1) (b := 1) (by decide)) (by decide) (by decide) (by decide)
              refine lv_iinc (v := v63) (lv' := [(4, .int v63), (9, .long r49), (7, .long r42), (6, .int v29), (5, .int v22), (0, .ref a), (1, .int p0), (2, .int p1), (3, .int p2)]) hx hb dX12_reckons_129 hl (k := 4) rfl (by rw [ev63]; rfl) (by decide) rfl (fun ls hl => ?_)
              refine lv_goto (tgt := 8) hx hb dX12_reckons_132 (by decide) ?_
              exact ih8 v63 (o58.1 1) o59 (by have h9 := hn; omega) (⟨by omega, by omega⟩ : IV 0 60 (o58.1 1)) (iv_w hv63 (by decide) (by decide)) q8_12 (by omega) (by omega) (by rw [show v63.toInt.toNat - p1.toInt.toNat = (k8_L_4.toInt.toNat - p1.toInt.toNat) + 1 by omega, st2]; congr 1; omega) H locs (hP.sub (ws' := [(a_sign, .inl (cs 0, 2400, .inl a_sign_c)), (a, .inr (12, [.ref a_tape, .int a__taped, .int a__rules, .ref a_sign, .ref a_length, .ref a_clause, .ref a_clauses, .ref a_read, .int a__next, .int a__wrong, .int a__number, .int a__text, .int a__made, .int a__deep, .int a__lines, .ref a_open, .int a__opened, .ref a_stack, .int (o58.1 1), .ref a_word, .ref a_said, .int a__x, .ref a_worth, .ref a_mate, .ref a_wasSaid, .int a__undone, .int a__boughtNow, .ref a_wayBy, .ref a_wayThen, .int a__walkMost, .int a__walkGoing, .int a__walkSet, .ref a_kept, .long a__drawX, .ref a_images, .ref a_imageX, .ref a_isMade])), (a_stack, .inl (cs 3, 64, .inr (.inl o59))), (a_word, .inl (cs 3, 13, .inr (.inl a_word_c)))]) [0, 2, 3, 1] rfl) (hD.sub (ws' := [(a_sign, .inl (cs 0, 2400, .inl a_sign_c)), (a, .inr (12, [.ref a_tape, .int a__taped, .int a__rules, .ref a_sign, .ref a_length, .ref a_clause, .ref a_clauses, .ref a_read, .int a__next, .int a__wrong, .int a__number, .int a__text, .int a__made, .int a__deep, .int a__lines, .ref a_open, .int a__opened, .ref a_stack, .int (o58.1 1), .ref a_word, .ref a_said, .int a__x, .ref a_worth, .ref a_mate, .ref a_wasSaid, .int a__undone, .int a__boughtNow, .ref a_wayBy, .ref a_wayThen, .int a__walkMost, .int a__walkGoing, .int a__walkSet, .ref a_kept, .long a__drawX, .ref a_images, .ref a_imageX, .ref a_isMade])), (a_stack, .inl (cs 3, 64, .inr (.inl o59))), (a_word, .inl (cs 3, 13, .inr (.inl a_word_c)))]) [0, 2, 3, 1] (by decide) rfl) hS ls (lv_sub hl [0, 5, 6, 7, 8] rfl)
            · have t64 : v22.toInt = 11 := lin_eqN c38 rfl (by decide)
              have h65 : IV 11 11 v22 := iv_eq1 c38 h36 (iv_c (a := 11) (b := 11) (by decide)) (by decide) (by decide)
              have ii66 : 11 ≤ v22.toInt ∧ v22.toInt ≤ 11 := h65
              have sx := stp_11 (show v21 &&& 15 = 11 by rw [← ev22]; assumption) st1
              have h67 : IV 1 60 k8_F_a_18 := ⟨by omega, by omega⟩
              have ii68 : 1 ≤ k8_F_a_18.toInt ∧ k8_F_a_18.toInt ≤ 60 := h67
              refine lv_aload_n hx hb dX12_reckons_91 rfl (lv_at hl 3 rfl) ?_
              refine lv_lconst (v := 1) hx hb dX12_reckons_92 (by decide) ?_
              refine lv_aload_n hx hb dX12_reckons_93 rfl (lv_at hl 3 rfl) ?_
              have hFc := va_free (wc := [(a, .inr (12, [.ref a_tape, .int a__taped, .int a__rules, .ref a_sign, .ref a_length, .ref a_clause, .ref a_clauses, .ref a_read, .int a__next, .int a__wrong, .int a__number, .int a__text, .int a__made, .int a__deep, .int a__lines, .ref a_open, .int a__opened, .ref a_stack, .int k8_F_a_18, .ref a_word, .ref a_said, .int a__x, .ref a_worth, .ref a_mate, .ref a_wasSaid, .int a__undone, .int a__boughtNow, .ref a_wayBy, .ref a_wayThen, .int a__walkMost, .int a__walkGoing, .int a__walkSet, .ref a_kept, .long a__drawX, .ref a_images, .ref a_imageX, .ref a_isMade])), (a_stack, .inl (cs 3, 64, .inr (.inl k8_C_a_stack)))]) hD hS hA [1,2] rfl
              refine va_calll (va_runV (As := []) (rest := [.long 1, .ref a]) ⟨hx, hb, hml, hown, hT⟩ (c_X12_pop l D cs kK kV a a_tape a__taped a__rules a_sign a_length a_clause a_clauses a_read a__next a__wrong a__number a__text a__made a__deep a__lines a_open a__opened a_stack k8_F_a_18 a_word a_said a__x a_worth a_mate a_wasSaid a__undone a__boughtNow a_wayBy a_wayThen a__walkMost a__walkGoing a__walkSet a_kept a__drawX a_images a_imageX a_isMade k8_C_a_stack h_a__taped h_a__rules h_a__next h_a__text h_a__made h_a__lines h_a__opened ((iv_w h67 (by decide) (by decide))) h_a__x h_a__undone H.size) (cwV 0 hT (hz_gV q_1093 q_1094 q_1095 q_701 q_1096) rfl rfl rfl (by decide +kernel) ⟨(Nat.le_of_ble_eq_true rfl), (Nat.le_of_ble_eq_true rfl)⟩) ⟨hz_C.blind, va_recv hK hP (ci := 12) (q0 := 1) rfl rfl, hz_C.mk (hP.sub (ws' := [(a, .inr (12, [.ref a_tape, .int a__taped, .int a__rules, .ref a_sign, .ref a_length, .ref a_clause, .ref a_clauses, .ref a_read, .int a__next, .int a__wrong, .int a__number, .int a__text, .int a__made, .int a__deep, .int a__lines, .ref a_open, .int a__opened, .ref a_stack, .int k8_F_a_18, .ref a_word, .ref a_said, .int a__x, .ref a_worth, .ref a_mate, .ref a_wasSaid, .int a__undone, .int a__boughtNow, .ref a_wayBy, .ref a_wayThen, .int a__walkMost, .int a__walkGoing, .int a__walkSet, .ref a_kept, .long a__drawX, .ref a_images, .ref a_imageX, .ref a_isMade])), (a_stack, .inl (cs 3, 64, .inr (.inl k8_C_a_stack)))]) [1,2] rfl) (hD.sub (ws' := [(a, .inr (12, [.ref a_tape, .int a__taped, .int a__rules, .ref a_sign, .ref a_length, .ref a_clause, .ref a_clauses, .ref a_read, .int a__next, .int a__wrong, .int a__number, .int a__text, .int a__made, .int a__deep, .int a__lines, .ref a_open, .int a__opened, .ref a_stack, .int k8_F_a_18, .ref a_word, .ref a_said, .int a__x, .ref a_worth, .ref a_mate, .ref a_wasSaid, .int a__undone, .int a__boughtNow, .ref a_wayBy, .ref a_wayThen, .int a__walkMost, .int a__walkGoing, .int a__walkSet, .ref a_kept, .long a__drawX, .ref a_images, .ref a_imageX, .ref a_isMade])), (a_stack, .inl (cs 3, 64, .inr (.inl k8_C_a_stack)))]) [1,2] (by decide) rfl) hE hS hFc⟩ rfl rfl hl.1 rfl (lv_room (Nat.le_of_ble_eq_true rfl)) dX12_reckons_94 ⟨(Nat.le_of_ble_eq_true rfl), (Nat.le_of_ble_eq_true rfl)⟩) hS (fun q _ h => hFc q h) hFc (fun r69 o70 t H1 locs ht hvm hw hB hz1 hk1 hS => ?_)
              obtain ⟨hP1, hD1⟩ := hB
              rw [ht] at hP1
              obtain ⟨hP, hD⟩ := va_join (wr := [(a_sign, .inl (cs 0, 2400, .inl a_sign_c)), (a_word, .inl (cs 3, 13, .inr (.inl a_word_c)))]) (w1 := [(a, .inr (12, [.ref a_tape, .int a__taped, .int a__rules, .ref a_sign, .ref a_length, .ref a_clause, .ref a_clauses, .ref a_read, .int a__next, .int a__wrong, .int a__number, .int a__text, .int a__made, .int a__deep, .int a__lines, .ref a_open, .int a__opened, .ref a_stack, .int (o70.1 1), .ref a_word, .ref a_said, .int a__x, .ref a_worth, .ref a_mate, .ref a_wasSaid, .int a__undone, .int a__boughtNow, .ref a_wayBy, .ref a_wayThen, .int a__walkMost, .int a__walkGoing, .int a__walkSet, .ref a_kept, .long a__drawX, .ref a_images, .ref a_imageX, .ref a_isMade])), (a_stack, .inl (cs 3, 64, .inr (.inl k8_C_a_stack)))]) hP hD [1, 2] [0, 3] rfl rfl (by decide) (by decide) hk1 hFc hP1 hD1
              generalize H1 = H at hP hS ⊢
              have hP : va_P D classes [(a_sign, .inl (cs 0, 2400, .inl a_sign_c)), (a_word, .inl (cs 3, 13, .inr (.inl a_word_c))), (a, .inr (12, [.ref a_tape, .int a__taped, .int a__rules, .ref a_sign, .ref a_length, .ref a_clause, .ref a_clauses, .ref a_read, .int a__next, .int a__wrong, .int a__number, .int a__text, .int a__made, .int a__deep, .int a__lines, .ref a_open, .int a__opened, .ref a_stack, .int (o70.1 1), .ref a_word, .ref a_said, .int a__x, .ref a_worth, .ref a_mate, .ref a_wasSaid, .int a__undone, .int a__boughtNow, .ref a_wayBy, .ref a_wayThen, .int a__walkMost, .int a__walkGoing, .int a__walkSet, .ref a_kept, .long a__drawX, .ref a_images, .ref a_imageX, .ref a_isMade])), (a_stack, .inl (cs 3, 64, .inr (.inl k8_C_a_stack)))] H := hP
              have hD : va_D A [(a_sign, .inl (cs 0, 2400, .inl a_sign_c)), (a_word, .inl (cs 3, 13, .inr (.inl a_word_c))), (a, .inr (12, [.ref a_tape, .int a__taped, .int a__rules, .ref a_sign, .ref a_length, .ref a_clause, .ref a_clauses, .ref a_read, .int a__next, .int a__wrong, .int a__number, .int a__text, .int a__made, .int a__deep, .int a__lines, .ref a_open, .int a__opened, .ref a_stack, .int (o70.1 1), .ref a_word, .ref a_said, .int a__x, .ref a_worth, .ref a_mate, .ref a_wasSaid, .int a__undone, .int a__boughtNow, .ref a_wayBy, .ref a_wayThen, .int a__walkMost, .int a__walkGoing, .int a__walkSet, .ref a_kept, .long a__drawX, .ref a_images, .ref a_imageX, .ref a_isMade])), (a_stack, .inl (cs 3, 64, .inr (.inl k8_C_a_stack)))] := hD
              clear hk1 hFc hP1 hD1 hz1
              rcases hw with ⟨h71, x72⟩
              have ii73 : 0 ≤ (o70.1 1).toInt ∧ (o70.1 1).toInt ≤ 63 := h71
              refine lv_lsub hx hb dX12_reckons_97 ?_
              refine lv_topl (fun u74 eu74 => ?_)
              have h75 : IV 0 59 (o70.1 1) := ⟨by omega, by omega⟩
              have ii76 : 0 ≤ (o70.1 1).toInt ∧ (o70.1 1).toInt ≤ 59 := h75
              have hFc := va_free (wc := [(a, .inr (12, [.ref a_tape, .int a__taped, .int a__rules, .ref a_sign, .ref a_length, .ref a_clause, .ref a_clauses, .ref a_read, .int a__next, .int a__wrong, .int a__number, .int a__text, .int a__made, .int a__deep, .int a__lines, .ref a_open, .int a__opened, .ref a_stack, .int (o70.1 1), .ref a_word, .ref a_said, .int a__x, .ref a_worth, .ref a_mate, .ref a_wasSaid, .int a__undone, .int a__boughtNow, .ref a_wayBy, .ref a_wayThen, .int a__walkMost, .int a__walkGoing, .int a__walkSet, .ref a_kept, .long a__drawX, .ref a_images, .ref a_imageX, .ref a_isMade])), (a_stack, .inl (cs 3, 64, .inr (.inl k8_C_a_stack)))]) hD hS hA [2,3] rfl
              refine va_callv (va_runV (As := [.long u74]) (rest := []) ⟨hx, hb, hml, hown, hT⟩ (c_X12_push l D cs kK kV a u74 a_tape a__taped a__rules a_sign a_length a_clause a_clauses a_read a__next a__wrong a__number a__text a__made a__deep a__lines a_open a__opened a_stack (o70.1 1) a_word a_said a__x a_worth a_mate a_wasSaid a__undone a__boughtNow a_wayBy a_wayThen a__walkMost a__walkGoing a__walkSet a_kept a__drawX a_images a_imageX a_isMade k8_C_a_stack h_a__taped h_a__rules h_a__next h_a__text h_a__made h_a__lines h_a__opened ((iv_w h75 (by decide) (by decide))) h_a__x h_a__undone H.size) (cwV 1 hT (hz_gV q_1089 q_1090 q_1091 q_701 q_1092) rfl rfl rfl (by decide +kernel) ⟨(Nat.le_of_ble_eq_true rfl), (Nat.le_of_ble_eq_true rfl)⟩) ⟨hz_C.blind, va_recv hK hP (ci := 12) (q0 := 2) rfl rfl, hz_C.mk (hP.sub (ws' := [(a, .inr (12, [.ref a_tape, .int a__taped, .int a__rules, .ref a_sign, .ref a_length, .ref a_clause, .ref a_clauses, .ref a_read, .int a__next, .int a__wrong, .int a__number, .int a__text, .int a__made, .int a__deep, .int a__lines, .ref a_open, .int a__opened, .ref a_stack, .int (o70.1 1), .ref a_word, .ref a_said, .int a__x, .ref a_worth, .ref a_mate, .ref a_wasSaid, .int a__undone, .int a__boughtNow, .ref a_wayBy, .ref a_wayThen, .int a__walkMost, .int a__walkGoing, .int a__walkSet, .ref a_kept, .long a__drawX, .ref a_images, .ref a_imageX, .ref a_isMade])), (a_stack, .inl (cs 3, 64, .inr (.inl k8_C_a_stack)))]) [2,3] rfl) (hD.sub (ws' := [(a, .inr (12, [.ref a_tape, .int a__taped, .int a__rules, .ref a_sign, .ref a_length, .ref a_clause, .ref a_clauses, .ref a_read, .int a__next, .int a__wrong, .int a__number, .int a__text, .int a__made, .int a__deep, .int a__lines, .ref a_open, .int a__opened, .ref a_stack, .int (o70.1 1), .ref a_word, .ref a_said, .int a__x, .ref a_worth, .ref a_mate, .ref a_wasSaid, .int a__undone, .int a__boughtNow, .ref a_wayBy, .ref a_wayThen, .int a__walkMost, .int a__walkGoing, .int a__walkSet, .ref a_kept, .long a__drawX, .ref a_images, .ref a_imageX, .ref a_isMade])), (a_stack, .inl (cs 3, 64, .inr (.inl k8_C_a_stack)))]) [2,3] (by decide) rfl) hE hS hFc⟩ rfl rfl hl.1 rfl (lv_room (Nat.le_of_ble_eq_true rfl)) dX12_reckons_98 ⟨(Nat.le_of_ble_eq_true rfl), (Nat.le_of_ble_eq_true rfl)⟩) hS (fun q _ h => hFc q h) hFc (fun o78 t H1 locs ht hvm hw hB hz1 hk1 hS => ?_)
              obtain ⟨o79, hP1, hD1⟩ := hB
              rw [ht] at hP1
              obtain ⟨hP, hD⟩ := va_join (wr := [(a_sign, .inl (cs 0, 2400, .inl a_sign_c)), (a_word, .inl (cs 3, 13, .inr (.inl a_word_c)))]) (w1 := [(a, .inr (12, [.ref a_tape, .int a__taped, .int a__rules, .ref a_sign, .ref a_length, .ref a_clause, .ref a_clauses, .ref a_read, .int a__next, .int a__wrong, .int a__number, .int a__text, .int a__made, .int a__deep, .int a__lines, .ref a_open, .int a__opened, .ref a_stack, .int (o78.1 1), .ref a_word, .ref a_said, .int a__x, .ref a_worth, .ref a_mate, .ref a_wasSaid, .int a__undone, .int a__boughtNow, .ref a_wayBy, .ref a_wayThen, .int a__walkMost, .int a__walkGoing, .int a__walkSet, .ref a_kept, .long a__drawX, .ref a_images, .ref a_imageX, .ref a_isMade])), (a_stack, .inl (cs 3, 64, .inr (.inl o79)))]) hP hD [2, 3] [0, 1] rfl rfl (by decide) (by decide) hk1 hFc hP1 hD1
              generalize H1 = H at hP hS ⊢
              have hP : va_P D classes [(a_sign, .inl (cs 0, 2400, .inl a_sign_c)), (a_word, .inl (cs 3, 13, .inr (.inl a_word_c))), (a, .inr (12, [.ref a_tape, .int a__taped, .int a__rules, .ref a_sign, .ref a_length, .ref a_clause, .ref a_clauses, .ref a_read, .int a__next, .int a__wrong, .int a__number, .int a__text, .int a__made, .int a__deep, .int a__lines, .ref a_open, .int a__opened, .ref a_stack, .int (o78.1 1), .ref a_word, .ref a_said, .int a__x, .ref a_worth, .ref a_mate, .ref a_wasSaid, .int a__undone, .int a__boughtNow, .ref a_wayBy, .ref a_wayThen, .int a__walkMost, .int a__walkGoing, .int a__walkSet, .ref a_kept, .long a__drawX, .ref a_images, .ref a_imageX, .ref a_isMade])), (a_stack, .inl (cs 3, 64, .inr (.inl o79)))] H := hP
              have hD : va_D A [(a_sign, .inl (cs 0, 2400, .inl a_sign_c)), (a_word, .inl (cs 3, 13, .inr (.inl a_word_c))), (a, .inr (12, [.ref a_tape, .int a__taped, .int a__rules, .ref a_sign, .ref a_length, .ref a_clause, .ref a_clauses, .ref a_read, .int a__next, .int a__wrong, .int a__number, .int a__text, .int a__made, .int a__deep, .int a__lines, .ref a_open, .int a__opened, .ref a_stack, .int (o78.1 1), .ref a_word, .ref a_said, .int a__x, .ref a_worth, .ref a_mate, .ref a_wasSaid, .int a__undone, .int a__boughtNow, .ref a_wayBy, .ref a_wayThen, .int a__walkMost, .int a__walkGoing, .int a__walkSet, .ref a_kept, .long a__drawX, .ref a_images, .ref a_imageX, .ref a_isMade])), (a_stack, .inl (cs 3, 64, .inr (.inl o79)))] := hD
              clear hk1 hFc hP1 hD1 hz1
              rcases hw with ⟨h80, x81⟩
              have ii82 : 1 ≤ (o78.1 1).toInt ∧ (o78.1 1).toInt ≤ 64 := h80
              refine lv_goto (tgt := 129) hx hb dX12_reckons_101 (by decide) ?_
              obtain ⟨v83, ev83⟩ : ∃ z : Int32, z = k8_L_4 + 1 := ⟨_, rfl⟩
              have hv83 : IV 1 400 v83 := iv_add ev83 h15 (iv_c (a := 1) (b := 1) (by decide)) (by decide) (by decide)
              have dv83 : v83.toInt = k8_L_4.toInt + 1 := iv_addE ev83 h15 (iv_c (a := 1) (b := 1) (by decide)) (by decide) (by decide) (by decide)
              refine lv_iinc (v := v83) (lv' := [(4, .int v83), (6, .int v29), (5, .int v22), (0, .ref a), (1, .int p0), (2, .int p1), (3, .int p2)]) hx hb dX12_reckons_129 hl (k := 2) rfl (by rw [ev83]; rfl) (by decide) rfl (fun ls hl => ?_)
              refine lv_goto (tgt := 8) hx hb dX12_reckons_132 (by decide) ?_
              exact ih8 v83 (o78.1 1) o79 (by have h9 := hn; omega) (⟨by omega, by omega⟩ : IV 0 60 (o78.1 1)) (iv_w hv83 (by decide) (by decide)) q8_12 (by omega) (by omega) (by rw [show v83.toInt.toNat - p1.toInt.toNat = (k8_L_4.toInt.toNat - p1.toInt.toNat) + 1 by omega, st2]; congr 1; omega) H locs (hP.sub (ws' := [(a_sign, .inl (cs 0, 2400, .inl a_sign_c)), (a, .inr (12, [.ref a_tape, .int a__taped, .int a__rules, .ref a_sign, .ref a_length, .ref a_clause, .ref a_clauses, .ref a_read, .int a__next, .int a__wrong, .int a__number, .int a__text, .int a__made, .int a__deep, .int a__lines, .ref a_open, .int a__opened, .ref a_stack, .int (o78.1 1), .ref a_word, .ref a_said, .int a__x, .ref a_worth, .ref a_mate, .ref a_wasSaid, .int a__undone, .int a__boughtNow, .ref a_wayBy, .ref a_wayThen, .int a__walkMost, .int a__walkGoing, .int a__walkSet, .ref a_kept, .long a__drawX, .ref a_images, .ref a_imageX, .ref a_isMade])), (a_stack, .inl (cs 3, 64, .inr (.inl o79))), (a_word, .inl (cs 3, 13, .inr (.inl a_word_c)))]) [0, 2, 3, 1] rfl) (hD.sub (ws' := [(a_sign, .inl (cs 0, 2400, .inl a_sign_c)), (a, .inr (12, [.ref a_tape, .int a__taped, .int a__rules, .ref a_sign, .ref a_length, .ref a_clause, .ref a_clauses, .ref a_read, .int a__next, .int a__wrong, .int a__number, .int a__text, .int a__made, .int a__deep, .int a__lines, .ref a_open, .int a__opened, .ref a_stack, .int (o78.1 1), .ref a_word, .ref a_said, .int a__x, .ref a_worth, .ref a_mate, .ref a_wasSaid, .int a__undone, .int a__boughtNow, .ref a_wayBy, .ref a_wayThen, .int a__walkMost, .int a__walkGoing, .int a__walkSet, .ref a_kept, .long a__drawX, .ref a_images, .ref a_imageX, .ref a_isMade])), (a_stack, .inl (cs 3, 64, .inr (.inl o79))), (a_word, .inl (cs 3, 13, .inr (.inl a_word_c)))]) [0, 2, 3, 1] (by decide) rfl) hS ls (lv_sub hl [0, 3, 4, 5, 6] rfl)
          · have t84 : v22.toInt = 1 := lin_eqN c34 rfl (by decide)
            have h85 : IV 1 1 v22 := iv_eq1 c34 h32 (iv_c (a := 1) (b := 1) (by decide)) (by decide) (by decide)
            have ii86 : 1 ≤ v22.toInt ∧ v22.toInt ≤ 1 := h85
            have sx := stp_1 (show v21 &&& 15 = 1 by rw [← ev22]; assumption) st1
            have sy : v29 = v21 >>> ((4 : Int32) &&& 31) := by rw [ev29, vv]
            rw [← sy] at sx
            have h87 : IV 0 59 k8_F_a_18 := ⟨by omega, by omega⟩
            have ii88 : 0 ≤ k8_F_a_18.toInt ∧ k8_F_a_18.toInt ≤ 59 := h87
            have h89 : IV 0 12 v29 := ⟨by omega, by omega⟩
            have ii90 : 0 ≤ v29.toInt ∧ v29.toInt ≤ 12 := h89
            refine lv_aload_n hx hb dX12_reckons_70 rfl (lv_at hl 3 rfl) ?_
            refine lv_aload_n hx hb dX12_reckons_71 rfl (lv_at hl 3 rfl) ?_
            refine va_get (D := D) (ci := 12) (v := .ref a_word) (C := RX12) (T := TX12) (N := 37) hx hb hT i_X12 hown hK hP 1 rfl rfl 19 (by decide) (hT _ q_184) (fun _ h9 => h9) rfl dX12_reckons_72 ?_
            refine lv_iload hx hb dX12_reckons_75 (lv_at hl 0 rfl) ?_
            refine va_lald hx hb hK hP 3 3 rfl rfl (iv_v h89 (by decide) (by decide)) dX12_reckons_77 ?_
            refine lv_topl (fun u91 eu91 => ?_)
            have hFc := va_free (wc := [(a, .inr (12, [.ref a_tape, .int a__taped, .int a__rules, .ref a_sign, .ref a_length, .ref a_clause, .ref a_clauses, .ref a_read, .int a__next, .int a__wrong, .int a__number, .int a__text, .int a__made, .int a__deep, .int a__lines, .ref a_open, .int a__opened, .ref a_stack, .int k8_F_a_18, .ref a_word, .ref a_said, .int a__x, .ref a_worth, .ref a_mate, .ref a_wasSaid, .int a__undone, .int a__boughtNow, .ref a_wayBy, .ref a_wayThen, .int a__walkMost, .int a__walkGoing, .int a__walkSet, .ref a_kept, .long a__drawX, .ref a_images, .ref a_imageX, .ref a_isMade])), (a_stack, .inl (cs 3, 64, .inr (.inl k8_C_a_stack)))]) hD hS hA [1,2] rfl
            refine va_callv (va_runV (As := [.long u91]) (rest := []) ⟨hx, hb, hml, hown, hT⟩ (c_X12_push l D cs kK kV a u91 a_tape a__taped a__rules a_sign a_length a_clause a_clauses a_read a__next a__wrong a__number a__text a__made a__deep a__lines a_open a__opened a_stack k8_F_a_18 a_word a_said a__x a_worth a_mate a_wasSaid a__undone a__boughtNow a_wayBy a_wayThen a__walkMost a__walkGoing a__walkSet a_kept a__drawX a_images a_imageX a_isMade k8_C_a_stack h_a__taped h_a__rules h_a__next h_a__text h_a__made h_a__lines h_a__opened ((iv_w h87 (by decide) (by decide))) h_a__x h_a__undone H.size) (cwV 1 hT (hz_gV q_1089 q_1090 q_1091 q_701 q_1092) rfl rfl rfl (by decide +kernel) ⟨(Nat.le_of_ble_eq_true rfl), (Nat.le_of_ble_eq_true rfl)⟩) ⟨hz_C.blind, va_recv hK hP (ci := 12) (q0 := 1) rfl rfl, hz_C.mk (hP.sub (ws' := [(a, .inr (12, [.ref a_tape, .int a__taped, .int a__rules, .ref a_sign, .ref a_length, .ref a_clause, .ref a_clauses, .ref a_read, .int a__next, .int a__wrong, .int a__number, .int a__text, .int a__made, .int a__deep, .int a__lines, .ref a_open, .int a__opened, .ref a_stack, .int k8_F_a_18, .ref a_word, .ref a_said, .int a__x, .ref a_worth, .ref a_mate, .ref a_wasSaid, .int a__undone, .int a__boughtNow, .ref a_wayBy, .ref a_wayThen, .int a__walkMost, .int a__walkGoing, .int a__walkSet, .ref a_kept, .long a__drawX, .ref a_images, .ref a_imageX, .ref a_isMade])), (a_stack, .inl (cs 3, 64, .inr (.inl k8_C_a_stack)))]) [1,2] rfl) (hD.sub (ws' := [(a, .inr (12, [.ref a_tape, .int a__taped, .int a__rules, .ref a_sign, .ref a_length, .ref a_clause, .ref a_clauses, .ref a_read, .int a__next, .int a__wrong, .int a__number, .int a__text, .int a__made, .int a__deep, .int a__lines, .ref a_open, .int a__opened, .ref a_stack, .int k8_F_a_18, .ref a_word, .ref a_said, .int a__x, .ref a_worth, .ref a_mate, .ref a_wasSaid, .int a__undone, .int a__boughtNow, .ref a_wayBy, .ref a_wayThen, .int a__walkMost, .int a__walkGoing, .int a__walkSet, .ref a_kept, .long a__drawX, .ref a_images, .ref a_imageX, .ref a_isMade])), (a_stack, .inl (cs 3, 64, .inr (.inl k8_C_a_stack)))]) [1,2] (by decide) rfl) hE hS hFc⟩ rfl rfl hl.1 rfl (lv_room (Nat.le_of_ble_eq_true rfl)) dX12_reckons_78 ⟨(Nat.le_of_ble_eq_true rfl), (Nat.le_of_ble_eq_true rfl)⟩) hS (fun q _ h => hFc q h) hFc (fun o93 t H1 locs ht hvm hw hB hz1 hk1 hS => ?_)
            obtain ⟨o94, hP1, hD1⟩ := hB
            rw [ht] at hP1
            obtain ⟨hP, hD⟩ := va_join (wr := [(a_sign, .inl (cs 0, 2400, .inl a_sign_c)), (a_word, .inl (cs 3, 13, .inr (.inl a_word_c)))]) (w1 := [(a, .inr (12, [.ref a_tape, .int a__taped, .int a__rules, .ref a_sign, .ref a_length, .ref a_clause, .ref a_clauses, .ref a_read, .int a__next, .int a__wrong, .int a__number, .int a__text, .int a__made, .int a__deep, .int a__lines, .ref a_open, .int a__opened, .ref a_stack, .int (o93.1 1), .ref a_word, .ref a_said, .int a__x, .ref a_worth, .ref a_mate, .ref a_wasSaid, .int a__undone, .int a__boughtNow, .ref a_wayBy, .ref a_wayThen, .int a__walkMost, .int a__walkGoing, .int a__walkSet, .ref a_kept, .long a__drawX, .ref a_images, .ref a_imageX, .ref a_isMade])), (a_stack, .inl (cs 3, 64, .inr (.inl o94)))]) hP hD [1, 2] [0, 3] rfl rfl (by decide) (by decide) hk1 hFc hP1 hD1
            generalize H1 = H at hP hS ⊢
            have hP : va_P D classes [(a_sign, .inl (cs 0, 2400, .inl a_sign_c)), (a_word, .inl (cs 3, 13, .inr (.inl a_word_c))), (a, .inr (12, [.ref a_tape, .int a__taped, .int a__rules, .ref a_sign, .ref a_length, .ref a_clause, .ref a_clauses, .ref a_read, .int a__next, .int a__wrong, .int a__number, .int a__text, .int a__made, .int a__deep, .int a__lines, .ref a_open, .int a__opened, .ref a_stack, .int (o93.1 1), .ref a_word, .ref a_said, .int a__x, .ref a_worth, .ref a_mate, .ref a_wasSaid, .int a__undone, .int a__boughtNow, .ref a_wayBy, .ref a_wayThen, .int a__walkMost, .int a__walkGoing, .int a__walkSet, .ref a_kept, .long a__drawX, .ref a_images, .ref a_imageX, .ref a_isMade])), (a_stack, .inl (cs 3, 64, .inr (.inl o94)))] H := hP
            have hD : va_D A [(a_sign, .inl (cs 0, 2400, .inl a_sign_c)), (a_word, .inl (cs 3, 13, .inr (.inl a_word_c))), (a, .inr (12, [.ref a_tape, .int a__taped, .int a__rules, .ref a_sign, .ref a_length, .ref a_clause, .ref a_clauses, .ref a_read, .int a__next, .int a__wrong, .int a__number, .int a__text, .int a__made, .int a__deep, .int a__lines, .ref a_open, .int a__opened, .ref a_stack, .int (o93.1 1), .ref a_word, .ref a_said, .int a__x, .ref a_worth, .ref a_mate, .ref a_wasSaid, .int a__undone, .int a__boughtNow, .ref a_wayBy, .ref a_wayThen, .int a__walkMost, .int a__walkGoing, .int a__walkSet, .ref a_kept, .long a__drawX, .ref a_images, .ref a_imageX, .ref a_isMade])), (a_stack, .inl (cs 3, 64, .inr (.inl o94)))] := hD
            clear hk1 hFc hP1 hD1 hz1
            rcases hw with ⟨h95, x96⟩
            have ii97 : 1 ≤ (o93.1 1).toInt ∧ (o93.1 1).toInt ≤ 64 := h95
            refine lv_goto (tgt := 129) hx hb dX12_reckons_81 (by decide) ?_
            obtain ⟨v98, ev98⟩ : ∃ z : Int32, z = k8_L_4 + 1 := ⟨_, rfl⟩
            have hv98 : IV 1 400 v98 := iv_add ev98 h15 (iv_c (a := 1) (b := 1) (by decide)) (by decide) (by decide)
            have dv98 : v98.toInt = k8_L_4.toInt + 1 := iv_addE ev98 h15 (iv_c (a := 1) (b := 1) (by decide)) (by decide) (by decide) (by decide)
            refine lv_iinc (v := v98) (lv' := [(4, .int v98), (6, .int v29), (5, .int v22), (0, .ref a), (1, .int p0), (2, .int p1), (3, .int p2)]) hx hb dX12_reckons_129 hl (k := 2) rfl (by rw [ev98]; rfl) (by decide) rfl (fun ls hl => ?_)
            refine lv_goto (tgt := 8) hx hb dX12_reckons_132 (by decide) ?_
            exact ih8 v98 (o93.1 1) o94 (by have h9 := hn; omega) (⟨by omega, by omega⟩ : IV 0 60 (o93.1 1)) (iv_w hv98 (by decide) (by decide)) q8_12 (by omega) (by omega) (by rw [show v98.toInt.toNat - p1.toInt.toNat = (k8_L_4.toInt.toNat - p1.toInt.toNat) + 1 by omega, st2]; congr 1; omega) H locs (hP.sub (ws' := [(a_sign, .inl (cs 0, 2400, .inl a_sign_c)), (a, .inr (12, [.ref a_tape, .int a__taped, .int a__rules, .ref a_sign, .ref a_length, .ref a_clause, .ref a_clauses, .ref a_read, .int a__next, .int a__wrong, .int a__number, .int a__text, .int a__made, .int a__deep, .int a__lines, .ref a_open, .int a__opened, .ref a_stack, .int (o93.1 1), .ref a_word, .ref a_said, .int a__x, .ref a_worth, .ref a_mate, .ref a_wasSaid, .int a__undone, .int a__boughtNow, .ref a_wayBy, .ref a_wayThen, .int a__walkMost, .int a__walkGoing, .int a__walkSet, .ref a_kept, .long a__drawX, .ref a_images, .ref a_imageX, .ref a_isMade])), (a_stack, .inl (cs 3, 64, .inr (.inl o94))), (a_word, .inl (cs 3, 13, .inr (.inl a_word_c)))]) [0, 2, 3, 1] rfl) (hD.sub (ws' := [(a_sign, .inl (cs 0, 2400, .inl a_sign_c)), (a, .inr (12, [.ref a_tape, .int a__taped, .int a__rules, .ref a_sign, .ref a_length, .ref a_clause, .ref a_clauses, .ref a_read, .int a__next, .int a__wrong, .int a__number, .int a__text, .int a__made, .int a__deep, .int a__lines, .ref a_open, .int a__opened, .ref a_stack, .int (o93.1 1), .ref a_word, .ref a_said, .int a__x, .ref a_worth, .ref a_mate, .ref a_wasSaid, .int a__undone, .int a__boughtNow, .ref a_wayBy, .ref a_wayThen, .int a__walkMost, .int a__walkGoing, .int a__walkSet, .ref a_kept, .long a__drawX, .ref a_images, .ref a_imageX, .ref a_isMade])), (a_stack, .inl (cs 3, 64, .inr (.inl o94))), (a_word, .inl (cs 3, 13, .inr (.inl a_word_c)))]) [0, 2, 3, 1] (by decide) rfl) hS ls (lv_sub hl [0, 3, 4, 5, 6] rfl)
        · have t99 : v22.toInt = 0 := lin_eqN c30 rfl (by decide)
          have h100 : IV 0 0 v22 := iv_eq1 c30 hv22 (iv_c (a := 0) (b := 0) (by decide)) (by decide) (by decide)
          have ii101 : 0 ≤ v22.toInt ∧ v22.toInt ≤ 0 := h100
          have sx := stp_0 (show v21 &&& 15 = 0 by rw [← ev22]; assumption) st1
          have h102 : IV 0 59 k8_F_a_18 := ⟨by omega, by omega⟩
          have ii103 : 0 ≤ k8_F_a_18.toInt ∧ k8_F_a_18.toInt ≤ 59 := h102
          refine lv_aload_n hx hb dX12_reckons_54 rfl (lv_at hl 3 rfl) ?_
          refine lv_iload hx hb dX12_reckons_55 (lv_at hl 0 rfl) ?_
          refine lv_i2l (v := v29.toInt64) hx hb dX12_reckons_57 rfl ?_
          have hFc := va_free (wc := [(a, .inr (12, [.ref a_tape, .int a__taped, .int a__rules, .ref a_sign, .ref a_length, .ref a_clause, .ref a_clauses, .ref a_read, .int a__next, .int a__wrong, .int a__number, .int a__text, .int a__made, .int a__deep, .int a__lines, .ref a_open, .int a__opened, .ref a_stack, .int k8_F_a_18, .ref a_word, .ref a_said, .int a__x, .ref a_worth, .ref a_mate, .ref a_wasSaid, .int a__undone, .int a__boughtNow, .ref a_wayBy, .ref a_wayThen, .int a__walkMost, .int a__walkGoing, .int a__walkSet, .ref a_kept, .long a__drawX, .ref a_images, .ref a_imageX, .ref a_isMade])), (a_stack, .inl (cs 3, 64, .inr (.inl k8_C_a_stack)))]) hD hS hA [1,2] rfl
          refine va_callv (va_runV (As := [.long v29.toInt64]) (rest := []) ⟨hx, hb, hml, hown, hT⟩ (c_X12_push l D cs kK kV a v29.toInt64 a_tape a__taped a__rules a_sign a_length a_clause a_clauses a_read a__next a__wrong a__number a__text a__made a__deep a__lines a_open a__opened a_stack k8_F_a_18 a_word a_said a__x a_worth a_mate a_wasSaid a__undone a__boughtNow a_wayBy a_wayThen a__walkMost a__walkGoing a__walkSet a_kept a__drawX a_images a_imageX a_isMade k8_C_a_stack h_a__taped h_a__rules h_a__next h_a__text h_a__made h_a__lines h_a__opened ((iv_w h102 (by decide) (by decide))) h_a__x h_a__undone H.size) (cwV 1 hT (hz_gV q_1089 q_1090 q_1091 q_701 q_1092) rfl rfl rfl (by decide +kernel) ⟨(Nat.le_of_ble_eq_true rfl), (Nat.le_of_ble_eq_true rfl)⟩) ⟨hz_C.blind, va_recv hK hP (ci := 12) (q0 := 1) rfl rfl, hz_C.mk (hP.sub (ws' := [(a, .inr (12, [.ref a_tape, .int a__taped, .int a__rules, .ref a_sign, .ref a_length, .ref a_clause, .ref a_clauses, .ref a_read, .int a__next, .int a__wrong, .int a__number, .int a__text, .int a__made, .int a__deep, .int a__lines, .ref a_open, .int a__opened, .ref a_stack, .int k8_F_a_18, .ref a_word, .ref a_said, .int a__x, .ref a_worth, .ref a_mate, .ref a_wasSaid, .int a__undone, .int a__boughtNow, .ref a_wayBy, .ref a_wayThen, .int a__walkMost, .int a__walkGoing, .int a__walkSet, .ref a_kept, .long a__drawX, .ref a_images, .ref a_imageX, .ref a_isMade])), (a_stack, .inl (cs 3, 64, .inr (.inl k8_C_a_stack)))]) [1,2] rfl) (hD.sub (ws' := [(a, .inr (12, [.ref a_tape, .int a__taped, .int a__rules, .ref a_sign, .ref a_length, .ref a_clause, .ref a_clauses, .ref a_read, .int a__next, .int a__wrong, .int a__number, .int a__text, .int a__made, .int a__deep, .int a__lines, .ref a_open, .int a__opened, .ref a_stack, .int k8_F_a_18, .ref a_word, .ref a_said, .int a__x, .ref a_worth, .ref a_mate, .ref a_wasSaid, .int a__undone, .int a__boughtNow, .ref a_wayBy, .ref a_wayThen, .int a__walkMost, .int a__walkGoing, .int a__walkSet, .ref a_kept, .long a__drawX, .ref a_images, .ref a_imageX, .ref a_isMade])), (a_stack, .inl (cs 3, 64, .inr (.inl k8_C_a_stack)))]) [1,2] (by decide) rfl) hE hS hFc⟩ rfl rfl hl.1 rfl (lv_room (Nat.le_of_ble_eq_true rfl)) dX12_reckons_58 ⟨(Nat.le_of_ble_eq_true rfl), (Nat.le_of_ble_eq_true rfl)⟩) hS (fun q _ h => hFc q h) hFc (fun o105 t H1 locs ht hvm hw hB hz1 hk1 hS => ?_)
          obtain ⟨o106, hP1, hD1⟩ := hB
          rw [ht] at hP1
          obtain ⟨hP, hD⟩ := va_join (wr := [(a_sign, .inl (cs 0, 2400, .inl a_sign_c)), (a_word, .inl (cs 3, 13, .inr (.inl a_word_c)))]) (w1 := [(a, .inr (12, [.ref a_tape, .int a__taped, .int a__rules, .ref a_sign, .ref a_length, .ref a_clause, .ref a_clauses, .ref a_read, .int a__next, .int a__wrong, .int a__number, .int a__text, .int a__made, .int a__deep, .int a__lines, .ref a_open, .int a__opened, .ref a_stack, .int (o105.1 1), .ref a_word, .ref a_said, .int a__x, .ref a_worth, .ref a_mate, .ref a_wasSaid, .int a__undone, .int a__boughtNow, .ref a_wayBy, .ref a_wayThen, .int a__walkMost, .int a__walkGoing, .int a__walkSet, .ref a_kept, .long a__drawX, .ref a_images, .ref a_imageX, .ref a_isMade])), (a_stack, .inl (cs 3, 64, .inr (.inl o106)))]) hP hD [1, 2] [0, 3] rfl rfl (by decide) (by decide) hk1 hFc hP1 hD1
          generalize H1 = H at hP hS ⊢
          have hP : va_P D classes [(a_sign, .inl (cs 0, 2400, .inl a_sign_c)), (a_word, .inl (cs 3, 13, .inr (.inl a_word_c))), (a, .inr (12, [.ref a_tape, .int a__taped, .int a__rules, .ref a_sign, .ref a_length, .ref a_clause, .ref a_clauses, .ref a_read, .int a__next, .int a__wrong, .int a__number, .int a__text, .int a__made, .int a__deep, .int a__lines, .ref a_open, .int a__opened, .ref a_stack, .int (o105.1 1), .ref a_word, .ref a_said, .int a__x, .ref a_worth, .ref a_mate, .ref a_wasSaid, .int a__undone, .int a__boughtNow, .ref a_wayBy, .ref a_wayThen, .int a__walkMost, .int a__walkGoing, .int a__walkSet, .ref a_kept, .long a__drawX, .ref a_images, .ref a_imageX, .ref a_isMade])), (a_stack, .inl (cs 3, 64, .inr (.inl o106)))] H := hP
          have hD : va_D A [(a_sign, .inl (cs 0, 2400, .inl a_sign_c)), (a_word, .inl (cs 3, 13, .inr (.inl a_word_c))), (a, .inr (12, [.ref a_tape, .int a__taped, .int a__rules, .ref a_sign, .ref a_length, .ref a_clause, .ref a_clauses, .ref a_read, .int a__next, .int a__wrong, .int a__number, .int a__text, .int a__made, .int a__deep, .int a__lines, .ref a_open, .int a__opened, .ref a_stack, .int (o105.1 1), .ref a_word, .ref a_said, .int a__x, .ref a_worth, .ref a_mate, .ref a_wasSaid, .int a__undone, .int a__boughtNow, .ref a_wayBy, .ref a_wayThen, .int a__walkMost, .int a__walkGoing, .int a__walkSet, .ref a_kept, .long a__drawX, .ref a_images, .ref a_imageX, .ref a_isMade])), (a_stack, .inl (cs 3, 64, .inr (.inl o106)))] := hD
          clear hk1 hFc hP1 hD1 hz1
          rcases hw with ⟨h107, x108⟩
          have ii109 : 1 ≤ (o105.1 1).toInt ∧ (o105.1 1).toInt ≤ 64 := h107
          refine lv_goto (tgt := 129) hx hb dX12_reckons_61 (by decide) ?_
          obtain ⟨v110, ev110⟩ : ∃ z : Int32, z = k8_L_4 + 1 := ⟨_, rfl⟩
          have hv110 : IV 1 400 v110 := iv_add ev110 h15 (iv_c (a := 1) (b := 1) (by decide)) (by decide) (by decide)
          have dv110 : v110.toInt = k8_L_4.toInt + 1 := iv_addE ev110 h15 (iv_c (a := 1) (b := 1) (by decide)) (by decide) (by decide) (by decide)
          refine lv_iinc (v := v110) (lv' := [(4, .int v110), (6, .int v29), (5, .int v22), (0, .ref a), (1, .int p0), (2, .int p1), (3, .int p2)]) hx hb dX12_reckons_129 hl (k := 2) rfl (by rw [ev110]; rfl) (by decide) rfl (fun ls hl => ?_)
          refine lv_goto (tgt := 8) hx hb dX12_reckons_132 (by decide) ?_
          exact ih8 v110 (o105.1 1) o106 (by have h9 := hn; omega) (⟨by omega, by omega⟩ : IV 0 60 (o105.1 1)) (iv_w hv110 (by decide) (by decide)) q8_12 (by omega) (by omega) (by rw [show v110.toInt.toNat - p1.toInt.toNat = (k8_L_4.toInt.toNat - p1.toInt.toNat) + 1 by omega, st2]; congr 1; omega) H locs (hP.sub (ws' := [(a_sign, .inl (cs 0, 2400, .inl a_sign_c)), (a, .inr (12, [.ref a_tape, .int a__taped, .int a__rules, .ref a_sign, .ref a_length, .ref a_clause, .ref a_clauses, .ref a_read, .int a__next, .int a__wrong, .int a__number, .int a__text, .int a__made, .int a__deep, .int a__lines, .ref a_open, .int a__opened, .ref a_stack, .int (o105.1 1), .ref a_word, .ref a_said, .int a__x, .ref a_worth, .ref a_mate, .ref a_wasSaid, .int a__undone, .int a__boughtNow, .ref a_wayBy, .ref a_wayThen, .int a__walkMost, .int a__walkGoing, .int a__walkSet, .ref a_kept, .long a__drawX, .ref a_images, .ref a_imageX, .ref a_isMade])), (a_stack, .inl (cs 3, 64, .inr (.inl o106))), (a_word, .inl (cs 3, 13, .inr (.inl a_word_c)))]) [0, 2, 3, 1] rfl) (hD.sub (ws' := [(a_sign, .inl (cs 0, 2400, .inl a_sign_c)), (a, .inr (12, [.ref a_tape, .int a__taped, .int a__rules, .ref a_sign, .ref a_length, .ref a_clause, .ref a_clauses, .ref a_read, .int a__next, .int a__wrong, .int a__number, .int a__text, .int a__made, .int a__deep, .int a__lines, .ref a_open, .int a__opened, .ref a_stack, .int (o105.1 1), .ref a_word, .ref a_said, .int a__x, .ref a_worth, .ref a_mate, .ref a_wasSaid, .int a__undone, .int a__boughtNow, .ref a_wayBy, .ref a_wayThen, .int a__walkMost, .int a__walkGoing, .int a__walkSet, .ref a_kept, .long a__drawX, .ref a_images, .ref a_imageX, .ref a_isMade])), (a_stack, .inl (cs 3, 64, .inr (.inl o106))), (a_word, .inl (cs 3, 13, .inr (.inl a_word_c)))]) [0, 2, 3, 1] (by decide) rfl) hS ls (lv_sub hl [0, 3, 4, 5, 6] rfl)
  obtain ⟨sg1, sg2, sg3, sgk, sg4⟩ := hf0
  refine lv_aload_n hx hb dX12_reckons_0 rfl (lv_at hl 0 rfl) ?_
  refine lv_iconst (v := 0) hx hb dX12_reckons_1 (by decide) ?_
  refine va_put (D := D) (ci := 12) (v := .int 0) (ty := .int) (C := RX12) (T := TX12) (N := 37) hx hb hT i_X12 tyX12 tyX12_ok nmX12 hown hK hP hD hS 1 rfl rfl 18 (by decide) (hT _ q_206) (fun _ h9 => h9) rfl (by decide +kernel) rfl rfl (Nat.le_of_ble_eq_true rfl) dX12_reckons_2 (fun H locs hP hD hS => ?_)
  have hP : va_P D classes [(a_sign, .inl (cs 0, 2400, .inl a_sign_c)), (a, .inr (12, [.ref a_tape, .int a__taped, .int a__rules, .ref a_sign, .ref a_length, .ref a_clause, .ref a_clauses, .ref a_read, .int a__next, .int a__wrong, .int a__number, .int a__text, .int a__made, .int a__deep, .int a__lines, .ref a_open, .int a__opened, .ref a_stack, .int 0, .ref a_word, .ref a_said, .int a__x, .ref a_worth, .ref a_mate, .ref a_wasSaid, .int a__undone, .int a__boughtNow, .ref a_wayBy, .ref a_wayThen, .int a__walkMost, .int a__walkGoing, .int a__walkSet, .ref a_kept, .long a__drawX, .ref a_images, .ref a_imageX, .ref a_isMade])), (a_stack, .inl (cs 3, 64, .inr (.inl a_stack_c))), (a_word, .inl (cs 3, 13, .inr (.inl a_word_c)))] H := hP
  have hD : va_D A [(a_sign, .inl (cs 0, 2400, .inl a_sign_c)), (a, .inr (12, [.ref a_tape, .int a__taped, .int a__rules, .ref a_sign, .ref a_length, .ref a_clause, .ref a_clauses, .ref a_read, .int a__next, .int a__wrong, .int a__number, .int a__text, .int a__made, .int a__deep, .int a__lines, .ref a_open, .int a__opened, .ref a_stack, .int 0, .ref a_word, .ref a_said, .int a__x, .ref a_worth, .ref a_mate, .ref a_wasSaid, .int a__undone, .int a__boughtNow, .ref a_wayBy, .ref a_wayThen, .int a__walkMost, .int a__walkGoing, .int a__walkSet, .ref a_kept, .long a__drawX, .ref a_images, .ref a_imageX, .ref a_isMade])), (a_stack, .inl (cs 3, 64, .inr (.inl a_stack_c))), (a_word, .inl (cs 3, 13, .inr (.inl a_word_c)))] := hD
  have h111 : IV 0 400 p1 := ⟨by omega, by omega⟩
  have ii112 : 0 ≤ p1.toInt ∧ p1.toInt ≤ 400 := h111
  refine lv_iload_n hx hb dX12_reckons_5 rfl (lv_at hl 2 rfl) ?_
  refine lv_istore (lv' := [(4, .int p1), (0, .ref a), (1, .int p0), (2, .int p1), (3, .int p2)]) hx hb dX12_reckons_6 hl (by decide) rfl (fun ls hl => ?_)
  exact K8 _ p1 ((0 : Int32)) a_stack_c (Nat.le_refl _) (iv_c (by decide)) h111 h111 (by omega) (by omega) (by rw [Nat.sub_self]; rfl) H locs (hP.sub (ws' := [(a_sign, .inl (cs 0, 2400, .inl a_sign_c)), (a, .inr (12, [.ref a_tape, .int a__taped, .int a__rules, .ref a_sign, .ref a_length, .ref a_clause, .ref a_clauses, .ref a_read, .int a__next, .int a__wrong, .int a__number, .int a__text, .int a__made, .int a__deep, .int a__lines, .ref a_open, .int a__opened, .ref a_stack, .int 0, .ref a_word, .ref a_said, .int a__x, .ref a_worth, .ref a_mate, .ref a_wasSaid, .int a__undone, .int a__boughtNow, .ref a_wayBy, .ref a_wayThen, .int a__walkMost, .int a__walkGoing, .int a__walkSet, .ref a_kept, .long a__drawX, .ref a_images, .ref a_imageX, .ref a_isMade])), (a_stack, .inl (cs 3, 64, .inr (.inl a_stack_c))), (a_word, .inl (cs 3, 13, .inr (.inl a_word_c)))]) [0, 1, 2, 3] rfl) (hD.sub (ws' := [(a_sign, .inl (cs 0, 2400, .inl a_sign_c)), (a, .inr (12, [.ref a_tape, .int a__taped, .int a__rules, .ref a_sign, .ref a_length, .ref a_clause, .ref a_clauses, .ref a_read, .int a__next, .int a__wrong, .int a__number, .int a__text, .int a__made, .int a__deep, .int a__lines, .ref a_open, .int a__opened, .ref a_stack, .int 0, .ref a_word, .ref a_said, .int a__x, .ref a_worth, .ref a_mate, .ref a_wasSaid, .int a__undone, .int a__boughtNow, .ref a_wayBy, .ref a_wayThen, .int a__walkMost, .int a__walkGoing, .int a__walkSet, .ref a_kept, .long a__drawX, .ref a_images, .ref a_imageX, .ref a_isMade])), (a_stack, .inl (cs 3, 64, .inr (.inl a_stack_c))), (a_word, .inl (cs 3, 13, .inr (.inl a_word_c)))]) [0, 1, 2, 3] (by decide) rfl) hS ls (lv_sub hl [0, 1, 2, 3, 4] rfl)
