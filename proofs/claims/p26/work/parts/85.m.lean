theorem dX12_trial_0 : decode cX12_trial 0 = .ok (.iload_n 1, 1) := by decide +kernel
theorem dX12_trial_1 : decode cX12_trial 1 = .ok (.iconst (-1), 1) := by decide +kernel
theorem dX12_trial_2 : decode cX12_trial 2 = .ok (.if_icmp .ne 13, 3) := by decide +kernel
theorem dX12_trial_5 : decode cX12_trial 5 = .ok (.aload_n 0, 1) := by decide +kernel
theorem dX12_trial_6 : decode cX12_trial 6 = .ok (.getfield 39, 3) := by decide +kernel
theorem dX12_trial_9 : decode cX12_trial 9 = .ok (.bipush 122, 2) := by decide +kernel
theorem dX12_trial_11 : decode cX12_trial 11 = .ok (.iconst 0, 1) := by decide +kernel
theorem dX12_trial_12 : decode cX12_trial 12 = .ok (.iastore, 1) := by decide +kernel
theorem dX12_trial_13 : decode cX12_trial 13 = .ok (.iconst 0, 1) := by decide +kernel
theorem dX12_trial_14 : decode cX12_trial 14 = .ok (.ireturn, 1) := by decide +kernel
theorem dX12_trial_15 : decode cX12_trial 15 = .ok (.aload_n 0, 1) := by decide +kernel
theorem dX12_trial_16 : decode cX12_trial 16 = .ok (.iload_n 1, 1) := by decide +kernel
theorem dX12_trial_17 : decode cX12_trial 17 = .ok (.invokevirtual 335, 3) := by decide +kernel
theorem dX12_trial_20 : decode cX12_trial 20 = .ok (.ifCond .eq 28, 3) := by decide +kernel
theorem dX12_trial_23 : decode cX12_trial 23 = .ok (.aload_n 0, 1) := by decide +kernel
theorem dX12_trial_24 : decode cX12_trial 24 = .ok (.iload_n 2, 1) := by decide +kernel
theorem dX12_trial_25 : decode cX12_trial 25 = .ok (.invokevirtual 335, 3) := by decide +kernel
theorem dX12_trial_28 : decode cX12_trial 28 = .ok (.ifCond .eq 20, 3) := by decide +kernel
theorem dX12_trial_31 : decode cX12_trial 31 = .ok (.iload_n 1, 1) := by decide +kernel
theorem dX12_trial_32 : decode cX12_trial 32 = .ok (.iload_n 2, 1) := by decide +kernel
theorem dX12_trial_33 : decode cX12_trial 33 = .ok (.if_icmp .eq 15, 3) := by decide +kernel
theorem dX12_trial_36 : decode cX12_trial 36 = .ok (.aload_n 0, 1) := by decide +kernel
theorem dX12_trial_37 : decode cX12_trial 37 = .ok (.getfield 39, 3) := by decide +kernel
theorem dX12_trial_40 : decode cX12_trial 40 = .ok (.bipush 122, 2) := by decide +kernel
theorem dX12_trial_42 : decode cX12_trial 42 = .ok (.iaload, 1) := by decide +kernel
theorem dX12_trial_43 : decode cX12_trial 43 = .ok (.bipush 12, 2) := by decide +kernel
theorem dX12_trial_45 : decode cX12_trial 45 = .ok (.if_icmp .ne 6, 3) := by decide +kernel
theorem dX12_trial_48 : decode cX12_trial 48 = .ok (.bipush (-2), 2) := by decide +kernel
theorem dX12_trial_50 : decode cX12_trial 50 = .ok (.ireturn, 1) := by decide +kernel
theorem dX12_trial_51 : decode cX12_trial 51 = .ok (.bipush 86, 2) := by decide +kernel
theorem dX12_trial_53 : decode cX12_trial 53 = .ok (.iconst 3, 1) := by decide +kernel
theorem dX12_trial_54 : decode cX12_trial 54 = .ok (.aload_n 0, 1) := by decide +kernel
theorem dX12_trial_55 : decode cX12_trial 55 = .ok (.getfield 39, 3) := by decide +kernel
theorem dX12_trial_58 : decode cX12_trial 58 = .ok (.bipush 122, 2) := by decide +kernel
theorem dX12_trial_60 : decode cX12_trial 60 = .ok (.iaload, 1) := by decide +kernel
theorem dX12_trial_61 : decode cX12_trial 61 = .ok (.imul, 1) := by decide +kernel
theorem dX12_trial_62 : decode cX12_trial 62 = .ok (.iadd, 1) := by decide +kernel
theorem dX12_trial_63 : decode cX12_trial 63 = .ok (.istore 4, 2) := by decide +kernel
theorem dX12_trial_65 : decode cX12_trial 65 = .ok (.aload_n 0, 1) := by decide +kernel
theorem dX12_trial_66 : decode cX12_trial 66 = .ok (.getfield 39, 3) := by decide +kernel
theorem dX12_trial_69 : decode cX12_trial 69 = .ok (.iload 4, 2) := by decide +kernel
theorem dX12_trial_71 : decode cX12_trial 71 = .ok (.iload_n 1, 1) := by decide +kernel
theorem dX12_trial_72 : decode cX12_trial 72 = .ok (.iastore, 1) := by decide +kernel
theorem dX12_trial_73 : decode cX12_trial 73 = .ok (.aload_n 0, 1) := by decide +kernel
theorem dX12_trial_74 : decode cX12_trial 74 = .ok (.getfield 39, 3) := by decide +kernel
theorem dX12_trial_77 : decode cX12_trial 77 = .ok (.iload 4, 2) := by decide +kernel
theorem dX12_trial_79 : decode cX12_trial 79 = .ok (.iconst 1, 1) := by decide +kernel
theorem dX12_trial_80 : decode cX12_trial 80 = .ok (.iadd, 1) := by decide +kernel
theorem dX12_trial_81 : decode cX12_trial 81 = .ok (.iload_n 2, 1) := by decide +kernel
theorem dX12_trial_82 : decode cX12_trial 82 = .ok (.iastore, 1) := by decide +kernel
theorem dX12_trial_83 : decode cX12_trial 83 = .ok (.aload_n 0, 1) := by decide +kernel
theorem dX12_trial_84 : decode cX12_trial 84 = .ok (.getfield 39, 3) := by decide +kernel
theorem dX12_trial_87 : decode cX12_trial 87 = .ok (.iload 4, 2) := by decide +kernel
theorem dX12_trial_89 : decode cX12_trial 89 = .ok (.iconst 2, 1) := by decide +kernel
theorem dX12_trial_90 : decode cX12_trial 90 = .ok (.iadd, 1) := by decide +kernel
theorem dX12_trial_91 : decode cX12_trial 91 = .ok (.iload_n 3, 1) := by decide +kernel
theorem dX12_trial_92 : decode cX12_trial 92 = .ok (.ifCond .eq 7, 3) := by decide +kernel
theorem dX12_trial_95 : decode cX12_trial 95 = .ok (.iconst 1, 1) := by decide +kernel
theorem dX12_trial_96 : decode cX12_trial 96 = .ok (.goto 4, 3) := by decide +kernel
theorem dX12_trial_99 : decode cX12_trial 99 = .ok (.iconst 0, 1) := by decide +kernel
theorem dX12_trial_100 : decode cX12_trial 100 = .ok (.iastore, 1) := by decide +kernel
theorem dX12_trial_101 : decode cX12_trial 101 = .ok (.aload_n 0, 1) := by decide +kernel
theorem dX12_trial_102 : decode cX12_trial 102 = .ok (.getfield 39, 3) := by decide +kernel
theorem dX12_trial_105 : decode cX12_trial 105 = .ok (.bipush 122, 2) := by decide +kernel
theorem dX12_trial_107 : decode cX12_trial 107 = .ok (.dup2, 1) := by decide +kernel
theorem dX12_trial_108 : decode cX12_trial 108 = .ok (.iaload, 1) := by decide +kernel
theorem dX12_trial_109 : decode cX12_trial 109 = .ok (.iconst 1, 1) := by decide +kernel
theorem dX12_trial_110 : decode cX12_trial 110 = .ok (.iadd, 1) := by decide +kernel
theorem dX12_trial_111 : decode cX12_trial 111 = .ok (.iastore, 1) := by decide +kernel
theorem dX12_trial_112 : decode cX12_trial 112 = .ok (.aload_n 0, 1) := by decide +kernel
theorem dX12_trial_113 : decode cX12_trial 113 = .ok (.getfield 39, 3) := by decide +kernel
theorem dX12_trial_116 : decode cX12_trial 116 = .ok (.bipush 122, 2) := by decide +kernel
theorem dX12_trial_118 : decode cX12_trial 118 = .ok (.iaload, 1) := by decide +kernel
theorem dX12_trial_119 : decode cX12_trial 119 = .ok (.ireturn, 1) := by decide +kernel
set_option maxHeartbeats 4000000 in
set_option maxRecDepth 100000 in
theorem c_X12_trial (l : Launch) (D : va_G) (cs : Nat → ClassId) (kK kV : Nat → Nat) (a : Nat) (p0 : Int32) (p1 : Int32) (p2 : Int32) (a_said : Nat) (a_said_c : Nat → Int32) (a_tape : Nat) (a__taped : Int32) (a__rules : Int32) (a_sign : Nat) (a_length : Nat) (a_clause : Nat) (a_clauses : Nat) (a_read : Nat) (a__next : Int32) (a__wrong : Int32) (a__number : Int32) (a__text : Int32) (a__made : Int32) (a__deep : Int32) (a__lines : Int32) (a_open : Nat) (a__opened : Int32) (a_stack : Nat) (a__top : Int32) (a_word : Nat) (a__x : Int32) (a_worth : Nat) (a_mate : Nat) (a_wasSaid : Nat) (a__undone : Int32) (a__boughtNow : Int32) (a_wayBy : Nat) (a_wayThen : Nat) (a__walkMost : Int32) (a__walkGoing : Int32) (a__walkSet : Int32) (a_kept : Nat) (a__drawX : Int64) (a_images : Nat) (a_imageX : Nat) (a_isMade : Nat) (h_p2 : IV 0 1 p2) (h_a__taped : IV 0 400 a__taped) (h_a__rules : IV 0 6 a__rules) (h_a__next : IV 0 400 a__next) (h_a__text : IV 0 6 a__text) (h_a__made : IV 0 60 a__made) (h_a__lines : IV 0 40 a__lines) (h_a__opened : IV 0 400 a__opened) (h_a__top : IV 0 64 a__top) (h_a__x : IV 0 2147483647 a__x) (h_a__undone : IV 0 20 a__undone) (hf0 : BS a_said_c 200) (hf1 : TR a_said_c) (hf2 : (a_said_c 3).toInt ≤ 99) (sz : Nat) : Met l yX12_trial (hz_w yX12_trial cX12_trial 5 (some .int)) ({ frames := 1, cells := 0, slots := 0, locals := 21 }) (va_Pc [.ref a, .int p0, .int p1, .int p2] (hz_C D cs kK kV sz [(a_said, .inl (cs 0, 123, .inl a_said_c)), (a, .inr (12, [.ref a_tape, .int a__taped, .int a__rules, .ref a_sign, .ref a_length, .ref a_clause, .ref a_clauses, .ref a_read, .int a__next, .int a__wrong, .int a__number, .int a__text, .int a__made, .int a__deep, .int a__lines, .ref a_open, .int a__opened, .ref a_stack, .int a__top, .ref a_word, .ref a_said, .int a__x, .ref a_worth, .ref a_mate, .ref a_wasSaid, .int a__undone, .int a__boughtNow, .ref a_wayBy, .ref a_wayThen, .int a__walkMost, .int a__walkGoing, .int a__walkSet, .ref a_kept, .long a__drawX, .ref a_images, .ref a_imageX, .ref a_isMade]))])) (va_Qi (fun (r : Int32) (u : (Nat → Int32) × (Nat → Nat → Int32)) => (r = (-2) ∧ IV (-2147483648) 2147483647 p0 ∧ (BS (u.2 0) 200) ∧ (TR (u.2 0)) ∧ (((u.2 0) 3).toInt ≤ 99)) ∨ (r = 0 ∧ IV (-1) (-1) p0 ∧ (BS (u.2 0) 200) ∧ (TR (u.2 0)) ∧ (((u.2 0) 3).toInt ≤ 99)) ∨ (IV 0 11 p0 ∧ IV 0 11 p1 ∧ (BS (u.2 0) 200) ∧ (TR (u.2 0)) ∧ (((u.2 0) 3).toInt ≤ 99))) (fun u t => va_P D classes [(a_said, .inl (cs 0, 123, .inl (u.2 0))), (a, .inr (12, [.ref a_tape, .int a__taped, .int a__rules, .ref a_sign, .ref a_length, .ref a_clause, .ref a_clauses, .ref a_read, .int a__next, .int a__wrong, .int a__number, .int a__text, .int a__made, .int a__deep, .int a__lines, .ref a_open, .int a__opened, .ref a_stack, .int a__top, .ref a_word, .ref a_said, .int a__x, .ref a_worth, .ref a_mate, .ref a_wasSaid, .int a__undone, .int a__boughtNow, .ref a_wayBy, .ref a_wayThen, .int a__walkMost, .int a__walkGoing, .int a__walkSet, .ref a_kept, .long a__drawX, .ref a_images, .ref a_imageX, .ref a_isMade]))] t.heap ∧ va_D (va_A [(a_said, .inl (cs 0, 123, .inl a_said_c)), (a, .inr (12, [.ref a_tape, .int a__taped, .int a__rules, .ref a_sign, .ref a_length, .ref a_clause, .ref a_clauses, .ref a_read, .int a__next, .int a__wrong, .int a__number, .int a__text, .int a__made, .int a__deep, .int a__lines, .ref a_open, .int a__opened, .ref a_stack, .int a__top, .ref a_word, .ref a_said, .int a__x, .ref a_worth, .ref a_mate, .ref a_wasSaid, .int a__undone, .int a__boughtNow, .ref a_wayBy, .ref a_wayThen, .int a__walkMost, .int a__walkGoing, .int a__walkSet, .ref a_kept, .long a__drawX, .ref a_images, .ref a_imageX, .ref a_isMade]))] sz) [(a_said, .inl (cs 0, 123, .inl (u.2 0))), (a, .inr (12, [.ref a_tape, .int a__taped, .int a__rules, .ref a_sign, .ref a_length, .ref a_clause, .ref a_clauses, .ref a_read, .int a__next, .int a__wrong, .int a__number, .int a__text, .int a__made, .int a__deep, .int a__lines, .ref a_open, .int a__opened, .ref a_stack, .int a__top, .ref a_word, .ref a_said, .int a__x, .ref a_worth, .ref a_mate, .ref a_wasSaid, .int a__undone, .int a__boughtNow, .ref a_wayBy, .ref a_wayThen, .int a__walkMost, .int a__walkGoing, .int a__walkSet, .ref a_kept, .long a__drawX, .ref a_images, .ref a_imageX, .ref a_isMade]))]) (va_A [(a_said, .inl (cs 0, 123, .inl a_said_c)), (a, .inr (12, [.ref a_tape, .int a__taped, .int a__rules, .ref a_sign, .ref a_length, .ref a_clause, .ref a_clauses, .ref a_read, .int a__next, .int a__wrong, .int a__number, .int a__text, .int a__made, .int a__deep, .int a__lines, .ref a_open, .int a__opened, .ref a_stack, .int a__top, .ref a_word, .ref a_said, .int a__x, .ref a_worth, .ref a_mate, .ref a_wasSaid, .int a__undone, .int a__boughtNow, .ref a_wayBy, .ref a_wayThen, .int a__walkMost, .int a__walkGoing, .int a__walkSet, .ref a_kept, .long a__drawX, .ref a_images, .ref a_imageX, .ref a_isMade]))] sz)) 0 0 (va_A [(a_said, .inl (cs 0, 123, .inl a_said_c)), (a, .inr (12, [.ref a_tape, .int a__taped, .int a__rules, .ref a_sign, .ref a_length, .ref a_clause, .ref a_clauses, .ref a_read, .int a__next, .int a__wrong, .int a__number, .int a__text, .int a__made, .int a__deep, .int a__lines, .ref a_open, .int a__opened, .ref a_stack, .int a__top, .ref a_word, .ref a_said, .int a__x, .ref a_worth, .ref a_mate, .ref a_wasSaid, .int a__undone, .int a__boughtNow, .ref a_wayBy, .ref a_wayThen, .int a__walkMost, .int a__walkGoing, .int a__walkSet, .ref a_kept, .long a__drawX, .ref a_images, .ref a_imageX, .ref a_isMade]))] sz) := by
  refine Met.ofW (cc := cX12_trial) (maxL := 5) (ret := (some .int)) (by decide) rfl ?_
  intro p e s m args below meth c s₁ B hml hv
  obtain ⟨rfl, hsz, hP, hD0, hE⟩ := hv
  have hx := B.exec
  have hb := B.bytes
  have hr := B.returns
  have hT : ∀ w ∈ TB, w.before _ s = true := fun w h => atoms_spec (ws := hz_w yX12_trial cX12_trial 5 (some .int)) B.pre w (List.mem_cons_of_mem _ h)
  have hown : s.vm.findClass RX12 = some m.cls := findClass_of_methodNamed B.named
  have hlocks := B.notSynchronized
  clear B
  subst hsz
  have hD := hD0.self (sz := s.heap.size)
  generalize hAe : va_A [(a_said, .inl (cs 0, 123, .inl a_said_c)), (a, .inr (12, [.ref a_tape, .int a__taped, .int a__rules, .ref a_sign, .ref a_length, .ref a_clause, .ref a_clauses, .ref a_read, .int a__next, .int a__wrong, .int a__number, .int a__text, .int a__made, .int a__deep, .int a__lines, .ref a_open, .int a__opened, .ref a_stack, .int a__top, .ref a_word, .ref a_said, .int a__x, .ref a_worth, .ref a_mate, .ref a_wasSaid, .int a__undone, .int a__boughtNow, .ref a_wayBy, .ref a_wayThen, .int a__walkMost, .int a__walkGoing, .int a__walkSet, .ref a_kept, .long a__drawX, .ref a_images, .ref a_imageX, .ref a_isMade]))] s.heap.size = A at hD hE ⊢
  have hA : ∀ q : Nat, s.heap.size ≤ q → A q := fun q h => by rw [← hAe]; exact Or.inr h
  clear hAe hD0
  have hS : va_S A s.heap s.heap [] := va_S.rf
  have hK := hE.1
  have hl := lv_entry ([.ref a, .int p0, .int p1, .int p2]) (n := 5) (Nat.le_of_ble_eq_true rfl)
  rw [lg_entry_eq]
  generalize (lg_sl ([.ref a, .int p0, .int p1, .int p2]) ++ List.replicate (5 - (lg_sl ([.ref a, .int p0, .int p1, .int p2])).length) Slot.unset).toArray = ls at hl ⊢
  have hl : lv_has ls 5 [(0, .ref a), (1, .int p0), (2, .int p1), (3, .int p2)] := hl
  obtain ⟨H, eH⟩ : ∃ z, z = s.heap := ⟨_, rfl⟩
  have hP : va_P D classes [(a_said, .inl (cs 0, 123, .inl a_said_c)), (a, .inr (12, [.ref a_tape, .int a__taped, .int a__rules, .ref a_sign, .ref a_length, .ref a_clause, .ref a_clauses, .ref a_read, .int a__next, .int a__wrong, .int a__number, .int a__text, .int a__made, .int a__deep, .int a__lines, .ref a_open, .int a__opened, .ref a_stack, .int a__top, .ref a_word, .ref a_said, .int a__x, .ref a_worth, .ref a_mate, .ref a_wasSaid, .int a__undone, .int a__boughtNow, .ref a_wayBy, .ref a_wayThen, .int a__walkMost, .int a__walkGoing, .int a__walkSet, .ref a_kept, .long a__drawX, .ref a_images, .ref a_imageX, .ref a_isMade]))] H := by rw [eH]; exact hP
  have hS : va_S A s.heap H [] := by rw [eH]; exact hS
  rw [← eH]
  clear eH
  obtain ⟨locs, el⟩ : ∃ z : List Loc, z = [] := ⟨_, rfl⟩
  rw [← el] at hS ⊢
  clear el
  have z0 : (0 : Int32).toInt = 0 := by decide
  have z1 : (1 : Int32).toInt = 1 := by decide
  have zm1 : (-1 : Int32).toInt = -1 := by decide
  have i_a__lines : 0 ≤ a__lines.toInt ∧ a__lines.toInt ≤ 40 := h_a__lines
  have i_a__made : 0 ≤ a__made.toInt ∧ a__made.toInt ≤ 60 := h_a__made
  have i_a__next : 0 ≤ a__next.toInt ∧ a__next.toInt ≤ 400 := h_a__next
  have i_a__opened : 0 ≤ a__opened.toInt ∧ a__opened.toInt ≤ 400 := h_a__opened
  have i_a__rules : 0 ≤ a__rules.toInt ∧ a__rules.toInt ≤ 6 := h_a__rules
  have i_a__taped : 0 ≤ a__taped.toInt ∧ a__taped.toInt ≤ 400 := h_a__taped
  have i_a__text : 0 ≤ a__text.toInt ∧ a__text.toInt ≤ 6 := h_a__text
  have i_a__top : 0 ≤ a__top.toInt ∧ a__top.toInt ≤ 64 := h_a__top
  have i_a__undone : 0 ≤ a__undone.toInt ∧ a__undone.toInt ≤ 20 := h_a__undone
  have i_a__x : 0 ≤ a__x.toInt ∧ a__x.toInt ≤ 2147483647 := h_a__x
  have i_p2 : 0 ≤ p2.toInt ∧ p2.toInt ≤ 1 := h_p2
  refine lv_iload_n hx hb dX12_trial_0 rfl (lv_at hl 1 rfl) ?_
  refine lv_iconst (v := (-1)) hx hb dX12_trial_1 (by decide) ?_
  refine lv_icmp_ne (tgt := 15) hx hb dX12_trial_2 (by decide) (fun c1 => ?_) (fun c1 => ?_)
  · have t2 : p0.toInt ≠ (-1) := lin_ne c1 rfl (by decide)
    refine lv_aload_n hx hb dX12_trial_15 rfl (lv_at hl 0 rfl) ?_
    refine lv_iload_n hx hb dX12_trial_16 rfl (lv_at hl 1 rfl) ?_
    refine va_calli (va_runV (As := [.int p0]) (rest := []) ⟨hx, hb, hml, hown, hT⟩ (c_X12_isHalf l D cs kK kV a p0 a_said a_said_c a_tape a__taped a__rules a_sign a_length a_clause a_clauses a_read a__next a__wrong a__number a__text a__made a__deep a__lines a_open a__opened a_stack a__top a_word a__x a_worth a_mate a_wasSaid a__undone a__boughtNow a_wayBy a_wayThen a__walkMost a__walkGoing a__walkSet a_kept a__drawX a_images a_imageX a_isMade h_a__taped h_a__rules h_a__next h_a__text h_a__made h_a__lines h_a__opened h_a__top h_a__x h_a__undone hf0) (cwV 1 hT (hz_gV q_1148 q_1149 q_1150 q_701 q_1151) rfl rfl rfl (by decide +kernel) ⟨(Nat.le_of_ble_eq_true rfl), (Nat.le_of_ble_eq_true rfl)⟩) ⟨hz_P.blind, va_recv hK hP (ci := 12) (q0 := 1) rfl rfl, hz_P.mk (hP.sub (ws' := [(a_said, .inl (cs 0, 123, .inl a_said_c)), (a, .inr (12, [.ref a_tape, .int a__taped, .int a__rules, .ref a_sign, .ref a_length, .ref a_clause, .ref a_clauses, .ref a_read, .int a__next, .int a__wrong, .int a__number, .int a__text, .int a__made, .int a__deep, .int a__lines, .ref a_open, .int a__opened, .ref a_stack, .int a__top, .ref a_word, .ref a_said, .int a__x, .ref a_worth, .ref a_mate, .ref a_wasSaid, .int a__undone, .int a__boughtNow, .ref a_wayBy, .ref a_wayThen, .int a__walkMost, .int a__walkGoing, .int a__walkSet, .ref a_kept, .long a__drawX, .ref a_images, .ref a_imageX, .ref a_isMade]))]) [0,1] rfl) hE hS⟩ rfl rfl hl.1 rfl (lv_room (Nat.le_of_ble_eq_true rfl)) dX12_trial_17 ⟨(Nat.le_of_ble_eq_true rfl), (Nat.le_of_ble_eq_true rfl)⟩) hS (fun _ _ h => h.elim) (fun _ h => h.elim) (fun r3 u t H1 locs ht hvm hw hB hz1 hk1 hS => ?_)
    have hP := hz_keep hP hk1
    clear hk1 hB hz1
    generalize H1 = H at hP hS ⊢
    rcases hw with ⟨rfl, h4⟩ | ⟨rfl, h5, x6, x7⟩
    · have ii8 : (-2147483648) ≤ p0.toInt ∧ p0.toInt ≤ 2147483647 := h4
      refine lv_if_eq (tgt := 48) hx hb dX12_trial_20 (by decide) (fun _ => ?_) (fun z => absurd (by decide) z)
      refine lv_bipush (v := (-2)) hx hb dX12_trial_48 (by decide) ?_
      refine W.widen (k := 0) (n := 0) (Nat.le_of_ble_eq_true rfl) (Nat.le_of_ble_eq_true rfl) ?_
      exact W.iret (v := (-2)) hx hb hr (fun t ht hW => ⟨⟨(-2), (fun k => match k with | 0 => 0 | _ => 0, fun k => match k with | 0 => a_said_c | _ => fun _ => 0), rfl, (Or.inl (⟨rfl, h4, hf0, hf1, hf2⟩)), by rw [ht]; exact hP.sub [0, 1] rfl, hD.sub [0, 1] (by decide) rfl⟩, hS.F ht⟩) hS.2.2 dX12_trial_50
    · have ii9 : 0 ≤ p0.toInt ∧ p0.toInt ≤ 11 := h5
      refine lv_if_eq (tgt := 48) hx hb dX12_trial_20 (by decide) (fun z => absurd z (by decide)) (fun _ => ?_)
      refine lv_aload_n hx hb dX12_trial_23 rfl (lv_at hl 0 rfl) ?_
      refine lv_iload_n hx hb dX12_trial_24 rfl (lv_at hl 2 rfl) ?_
      refine va_calli (va_runV (As := [.int p1]) (rest := []) ⟨hx, hb, hml, hown, hT⟩ (c_X12_isHalf l D cs kK kV a p1 a_said a_said_c a_tape a__taped a__rules a_sign a_length a_clause a_clauses a_read a__next a__wrong a__number a__text a__made a__deep a__lines a_open a__opened a_stack a__top a_word a__x a_worth a_mate a_wasSaid a__undone a__boughtNow a_wayBy a_wayThen a__walkMost a__walkGoing a__walkSet a_kept a__drawX a_images a_imageX a_isMade h_a__taped h_a__rules h_a__next h_a__text h_a__made h_a__lines h_a__opened h_a__top h_a__x h_a__undone hf0) (cwV 1 hT (hz_gV q_1148 q_1149 q_1150 q_701 q_1151) rfl rfl rfl (by decide +kernel) ⟨(Nat.le_of_ble_eq_true rfl), (Nat.le_of_ble_eq_true rfl)⟩) ⟨hz_P.blind, va_recv hK hP (ci := 12) (q0 := 1) rfl rfl, hz_P.mk (hP.sub (ws' := [(a_said, .inl (cs 0, 123, .inl a_said_c)), (a, .inr (12, [.ref a_tape, .int a__taped, .int a__rules, .ref a_sign, .ref a_length, .ref a_clause, .ref a_clauses, .ref a_read, .int a__next, .int a__wrong, .int a__number, .int a__text, .int a__made, .int a__deep, .int a__lines, .ref a_open, .int a__opened, .ref a_stack, .int a__top, .ref a_word, .ref a_said, .int a__x, .ref a_worth, .ref a_mate, .ref a_wasSaid, .int a__undone, .int a__boughtNow, .ref a_wayBy, .ref a_wayThen, .int a__walkMost, .int a__walkGoing, .int a__walkSet, .ref a_kept, .long a__drawX, .ref a_images, .ref a_imageX, .ref a_isMade]))]) [0,1] rfl) hE hS⟩ rfl rfl hl.1 rfl (lv_room (Nat.le_of_ble_eq_true rfl)) dX12_trial_25 ⟨(Nat.le_of_ble_eq_true rfl), (Nat.le_of_ble_eq_true rfl)⟩) hS (fun _ _ h => h.elim) (fun _ h => h.elim) (fun r10 u t H1 locs ht hvm hw hB hz1 hk1 hS => ?_)
      have hP := hz_keep hP hk1
      clear hk1 hB hz1
      generalize H1 = H at hP hS ⊢
      rcases hw with ⟨rfl, h11⟩ | ⟨rfl, h12, x13, x14⟩
      · have ii15 : (-2147483648) ≤ p1.toInt ∧ p1.toInt ≤ 2147483647 := h11
        refine lv_if_eq (tgt := 48) hx hb dX12_trial_28 (by decide) (fun _ => ?_) (fun z => absurd (by decide) z)
        refine lv_bipush (v := (-2)) hx hb dX12_trial_48 (by decide) ?_
        refine W.widen (k := 0) (n := 0) (Nat.le_of_ble_eq_true rfl) (Nat.le_of_ble_eq_true rfl) ?_
        exact W.iret (v := (-2)) hx hb hr (fun t ht hW => ⟨⟨(-2), (fun k => match k with | 0 => 0 | _ => 0, fun k => match k with | 0 => a_said_c | _ => fun _ => 0), rfl, (Or.inl (⟨rfl, (iv_w h5 (by decide) (by decide)), hf0, hf1, hf2⟩)), by rw [ht]; exact hP.sub [0, 1] rfl, hD.sub [0, 1] (by decide) rfl⟩, hS.F ht⟩) hS.2.2 dX12_trial_50
      · have ii16 : 0 ≤ p1.toInt ∧ p1.toInt ≤ 11 := h12
        refine lv_if_eq (tgt := 48) hx hb dX12_trial_28 (by decide) (fun z => absurd z (by decide)) (fun _ => ?_)
        refine lv_iload_n hx hb dX12_trial_31 rfl (lv_at hl 1 rfl) ?_
        refine lv_iload_n hx hb dX12_trial_32 rfl (lv_at hl 2 rfl) ?_
        refine lv_icmp_eq (tgt := 48) hx hb dX12_trial_33 (by decide) (fun c17 => ?_) (fun c17 => ?_)
        · have t18 : p0.toInt = p1.toInt := lin_eq c17 rfl rfl
          refine lv_bipush (v := (-2)) hx hb dX12_trial_48 (by decide) ?_
          refine W.widen (k := 0) (n := 0) (Nat.le_of_ble_eq_true rfl) (Nat.le_of_ble_eq_true rfl) ?_
          exact W.iret (v := (-2)) hx hb hr (fun t ht hW => ⟨⟨(-2), (fun k => match k with | 0 => 0 | _ => 0, fun k => match k with | 0 => a_said_c | _ => fun _ => 0), rfl, (Or.inl (⟨rfl, (iv_w h5 (by decide) (by decide)), hf0, hf1, hf2⟩)), by rw [ht]; exact hP.sub [0, 1] rfl, hD.sub [0, 1] (by decide) rfl⟩, hS.F ht⟩) hS.2.2 dX12_trial_50
        · have t19 : p0.toInt ≠ p1.toInt := lin_ne c17 rfl rfl
          refine lv_aload_n hx hb dX12_trial_36 rfl (lv_at hl 0 rfl) ?_
          refine va_get (D := D) (ci := 12) (v := .ref a_said) (C := RX12) (T := TX12) (N := 37) hx hb hT i_X12 hown hK hP 1 rfl rfl 20 (by decide) (hT _ q_185) (fun _ h9 => h9) rfl dX12_trial_37 ?_
          refine lv_bipush (v := 122) hx hb dX12_trial_40 (by decide) ?_
          refine va_iald hx hb hK hP 0 0 rfl rfl (iv_vc (by decide)) dX12_trial_42 ?_
          refine lv_topi (fun v20 ev20 => ?_)
          have lv20 : v20.toInt = (a_said_c 122).toInt := by rw [ev20]; rfl
          have h21 : IV 0 12 v20 := (by rw [ev20]; exact hf1.1)
          have ii22 : 0 ≤ v20.toInt ∧ v20.toInt ≤ 12 := h21
          refine lv_bipush (v := 12) hx hb dX12_trial_43 (by decide) ?_
          refine lv_icmp_ne (tgt := 51) hx hb dX12_trial_45 (by decide) (fun c23 => ?_) (fun c23 => ?_)
          · have t24 : v20.toInt ≠ 12 := lin_ne c23 rfl (by decide)
            have h25 : IV 0 11 v20 := iv_neR c23 h21 (by decide)
            have ii26 : 0 ≤ v20.toInt ∧ v20.toInt ≤ 11 := h25
            refine lv_bipush (v := 86) hx hb dX12_trial_51 (by decide) ?_
            refine lv_iconst (v := 3) hx hb dX12_trial_53 (by decide) ?_
            refine lv_aload_n hx hb dX12_trial_54 rfl (lv_at hl 0 rfl) ?_
            refine va_get (D := D) (ci := 12) (v := .ref a_said) (C := RX12) (T := TX12) (N := 37) hx hb hT i_X12 hown hK hP 1 rfl rfl 20 (by decide) (hT _ q_185) (fun _ h9 => h9) rfl dX12_trial_55 ?_
            refine lv_bipush (v := 122) hx hb dX12_trial_58 (by decide) ?_
            refine va_iald hx hb hK hP 0 0 rfl rfl (iv_vc (by decide)) dX12_trial_60 ?_
            refine hz_ev v20 ev20.symm ?_
            refine lv_imul hx hb dX12_trial_61 ?_
            refine lv_topi (fun v27 ev27 => ?_)
            have hv27 : IV 0 33 v27 := iv_mul ev27 (iv_c (a := 3) (b := 3) (by decide)) h25 (by decide) (by decide) (by decide) (by decide)
            have ii28 : 0 ≤ v27.toInt ∧ v27.toInt ≤ 33 := hv27
            have lv27 : v27.toInt = 3 * v20.toInt := lin_mul ev27 (iv_c (a := 3) (b := 3) (by decide)) h25 (by decide) rfl (by decide) (by decide) (by decide) (by decide)
            refine lv_iadd hx hb dX12_trial_62 ?_
            refine lv_topi (fun v29 ev29 => ?_)
            have hv29 : IV 86 119 v29 := iv_add ev29 (iv_c (a := 86) (b := 86) (by decide)) hv27 (by decide) (by decide)
            have ii30 : 86 ≤ v29.toInt ∧ v29.toInt ≤ 119 := hv29
            have lv29 : v29.toInt = 86 + v27.toInt := lin_add ev29 (iv_c (a := 86) (b := 86) (by decide)) hv27 (by decide) rfl (by decide) (by decide)
            refine lv_istore (lv' := [(4, .int v29), (0, .ref a), (1, .int p0), (2, .int p1), (3, .int p2)]) hx hb dX12_trial_63 hl (by decide) rfl (fun ls hl => ?_)
            refine lv_aload_n hx hb dX12_trial_65 rfl (lv_at hl 1 rfl) ?_
            refine va_get (D := D) (ci := 12) (v := .ref a_said) (C := RX12) (T := TX12) (N := 37) hx hb hT i_X12 hown hK hP 1 rfl rfl 20 (by decide) (hT _ q_185) (fun _ h9 => h9) rfl dX12_trial_66 ?_
            refine lv_iload hx hb dX12_trial_69 (lv_at hl 0 rfl) ?_
            refine lv_iload_n hx hb dX12_trial_71 rfl (lv_at hl 2 rfl) ?_
            refine va_iast hx hb hK hP hD hS 0 0 rfl rfl (iv_v hv29 (by decide) (by decide)) dX12_trial_72 (fun H locs hP hD hS => ?_)
            have hP : va_P D classes [(a_said, .inl (cs 0, 123, .inl (upd a_said_c (Int32.toNatClampNeg v29) p0))), (a, .inr (12, [.ref a_tape, .int a__taped, .int a__rules, .ref a_sign, .ref a_length, .ref a_clause, .ref a_clauses, .ref a_read, .int a__next, .int a__wrong, .int a__number, .int a__text, .int a__made, .int a__deep, .int a__lines, .ref a_open, .int a__opened, .ref a_stack, .int a__top, .ref a_word, .ref a_said, .int a__x, .ref a_worth, .ref a_mate, .ref a_wasSaid, .int a__undone, .int a__boughtNow, .ref a_wayBy, .ref a_wayThen, .int a__walkMost, .int a__walkGoing, .int a__walkSet, .ref a_kept, .long a__drawX, .ref a_images, .ref a_imageX, .ref a_isMade]))] H := hP
            have hD : va_D A [(a_said, .inl (cs 0, 123, .inl (upd a_said_c (Int32.toNatClampNeg v29) p0))), (a, .inr (12, [.ref a_tape, .int a__taped, .int a__rules, .ref a_sign, .ref a_length, .ref a_clause, .ref a_clauses, .ref a_read, .int a__next, .int a__wrong, .int a__number, .int a__text, .int a__made, .int a__deep, .int a__lines, .ref a_open, .int a__opened, .ref a_stack, .int a__top, .ref a_word, .ref a_said, .int a__x, .ref a_worth, .ref a_mate, .ref a_wasSaid, .int a__undone, .int a__boughtNow, .ref a_wayBy, .ref a_wayThen, .int a__walkMost, .int a__walkGoing, .int a__walkSet, .ref a_kept, .long a__drawX, .ref a_images, .ref a_imageX, .ref a_isMade]))] := hD
            obtain ⟨f31, uf31⟩ : ∃ z, z = upd a_said_c (Int32.toNatClampNeg v29) p0 := ⟨_, rfl⟩
            rw [← uf31] at hP hD
            have wf31 : (f31 (Int32.toNatClampNeg v29)).toInt = p0.toInt := lin_us uf31 rfl
            have kk32 : (f31 0).toInt = (a_said_c 0).toInt := congrArg Int32.toInt (by rw [uf31, pk_un (show 0 ≠ Int32.toNatClampNeg v29 from by (have q : Int32.toNatClampNeg v29 = v29.toInt.toNat := rfl); omega)])
            have kk33 : (f31 1).toInt = (a_said_c 1).toInt := congrArg Int32.toInt (by rw [uf31, pk_un (show 1 ≠ Int32.toNatClampNeg v29 from by (have q : Int32.toNatClampNeg v29 = v29.toInt.toNat := rfl); omega)])
            have kk34 : (f31 2).toInt = (a_said_c 2).toInt := congrArg Int32.toInt (by rw [uf31, pk_un (show 2 ≠ Int32.toNatClampNeg v29 from by (have q : Int32.toNatClampNeg v29 = v29.toInt.toNat := rfl); omega)])
            have kk35 : (f31 3).toInt = (a_said_c 3).toInt := congrArg Int32.toInt (by rw [uf31, pk_un (show 3 ≠ Int32.toNatClampNeg v29 from by (have q : Int32.toNatClampNeg v29 = v29.toInt.toNat := rfl); omega)])
            have fb36 : BS f31 200 := (bs_upd hf0 uf31 (show Int32.toNatClampNeg v29 ≠ 0 ∧ Int32.toNatClampNeg v29 ≠ 1 ∧ Int32.toNatClampNeg v29 ≠ 2 ∧ Int32.toNatClampNeg v29 ≠ 3 ∧ Int32.toNatClampNeg v29 ≠ 4 ∧ Int32.toNatClampNeg v29 ≠ 71 ∧ Int32.toNatClampNeg v29 ≠ 75 ∧ Int32.toNatClampNeg v29 ≠ 79 ∧ Int32.toNatClampNeg v29 ≠ 83 from by (have q : Int32.toNatClampNeg v29 = v29.toInt.toNat := rfl); omega))
            have fa37 : TR f31 := (tr_a hf1 uf31 ⟨by omega, by omega⟩)
            refine lv_aload_n hx hb dX12_trial_73 rfl (lv_at hl 1 rfl) ?_
            refine va_get (D := D) (ci := 12) (v := .ref a_said) (C := RX12) (T := TX12) (N := 37) hx hb hT i_X12 hown hK hP 1 rfl rfl 20 (by decide) (hT _ q_185) (fun _ h9 => h9) rfl dX12_trial_74 ?_
            refine lv_iload hx hb dX12_trial_77 (lv_at hl 0 rfl) ?_
            refine lv_iconst (v := 1) hx hb dX12_trial_79 (by decide) ?_
            refine lv_iadd hx hb dX12_trial_80 ?_
            refine lv_topi (fun v38 ev38 => ?_)
            have hv38 : IV 87 120 v38 := iv_add ev38 hv29 (iv_c (a := 1) (b := 1) (by decide)) (by decide) (by decide)
            have ii39 : 87 ≤ v38.toInt ∧ v38.toInt ≤ 120 := hv38
            have dv38 : v38.toInt = v29.toInt + 1 := iv_addE ev38 hv29 (iv_c (a := 1) (b := 1) (by decide)) (by decide) (by decide) (by decide)
            have lv38 : v38.toInt = v29.toInt + 1 := lin_add ev38 hv29 (iv_c (a := 1) (b := 1) (by decide)) rfl (by decide) (by decide) (by decide)
            refine lv_iload_n hx hb dX12_trial_81 rfl (lv_at hl 3 rfl) ?_
            refine va_iast hx hb hK hP hD hS 0 0 rfl rfl (iv_v hv38 (by decide) (by decide)) dX12_trial_82 (fun H locs hP hD hS => ?_)
            have hP : va_P D classes [(a_said, .inl (cs 0, 123, .inl (upd f31 (Int32.toNatClampNeg v38) p1))), (a, .inr (12, [.ref a_tape, .int a__taped, .int a__rules, .ref a_sign, .ref a_length, .ref a_clause, .ref a_clauses, .ref a_read, .int a__next, .int a__wrong, .int a__number, .int a__text, .int a__made, .int a__deep, .int a__lines, .ref a_open, .int a__opened, .ref a_stack, .int a__top, .ref a_word, .ref a_said, .int a__x, .ref a_worth, .ref a_mate, .ref a_wasSaid, .int a__undone, .int a__boughtNow, .ref a_wayBy, .ref a_wayThen, .int a__walkMost, .int a__walkGoing, .int a__walkSet, .ref a_kept, .long a__drawX, .ref a_images, .ref a_imageX, .ref a_isMade]))] H := hP
            have hD : va_D A [(a_said, .inl (cs 0, 123, .inl (upd f31 (Int32.toNatClampNeg v38) p1))), (a, .inr (12, [.ref a_tape, .int a__taped, .int a__rules, .ref a_sign, .ref a_length, .ref a_clause, .ref a_clauses, .ref a_read, .int a__next, .int a__wrong, .int a__number, .int a__text, .int a__made, .int a__deep, .int a__lines, .ref a_open, .int a__opened, .ref a_stack, .int a__top, .ref a_word, .ref a_said, .int a__x, .ref a_worth, .ref a_mate, .ref a_wasSaid, .int a__undone, .int a__boughtNow, .ref a_wayBy, .ref a_wayThen, .int a__walkMost, .int a__walkGoing, .int a__walkSet, .ref a_kept, .long a__drawX, .ref a_images, .ref a_imageX, .ref a_isMade]))] := hD
            obtain ⟨f40, uf40⟩ : ∃ z, z = upd f31 (Int32.toNatClampNeg v38) p1 := ⟨_, rfl⟩
            rw [← uf40] at hP hD
            have wf40 : (f40 (Int32.toNatClampNeg v38)).toInt = p1.toInt := lin_us uf40 rfl
            have kk41 : (f40 0).toInt = (f31 0).toInt := congrArg Int32.toInt (by rw [uf40, pk_un (show 0 ≠ Int32.toNatClampNeg v38 from by (have q : Int32.toNatClampNeg v38 = v38.toInt.toNat := rfl); omega)])
            have kk42 : (f40 1).toInt = (f31 1).toInt := congrArg Int32.toInt (by rw [uf40, pk_un (show 1 ≠ Int32.toNatClampNeg v38 from by (have q : Int32.toNatClampNeg v38 = v38.toInt.toNat := rfl); omega)])
            have kk43 : (f40 2).toInt = (f31 2).toInt := congrArg Int32.toInt (by rw [uf40, pk_un (show 2 ≠ Int32.toNatClampNeg v38 from by (have q : Int32.toNatClampNeg v38 = v38.toInt.toNat := rfl); omega)])
            have kk44 : (f40 3).toInt = (f31 3).toInt := congrArg Int32.toInt (by rw [uf40, pk_un (show 3 ≠ Int32.toNatClampNeg v38 from by (have q : Int32.toNatClampNeg v38 = v38.toInt.toNat := rfl); omega)])
            have fb45 : BS f40 200 := (bs_upd fb36 uf40 (show Int32.toNatClampNeg v38 ≠ 0 ∧ Int32.toNatClampNeg v38 ≠ 1 ∧ Int32.toNatClampNeg v38 ≠ 2 ∧ Int32.toNatClampNeg v38 ≠ 3 ∧ Int32.toNatClampNeg v38 ≠ 4 ∧ Int32.toNatClampNeg v38 ≠ 71 ∧ Int32.toNatClampNeg v38 ≠ 75 ∧ Int32.toNatClampNeg v38 ≠ 79 ∧ Int32.toNatClampNeg v38 ≠ 83 from by (have q : Int32.toNatClampNeg v38 = v38.toInt.toNat := rfl); omega))
            have fa46 : TR f40 := (tr_a fa37 uf40 ⟨by omega, by omega⟩)
            refine lv_aload_n hx hb dX12_trial_83 rfl (lv_at hl 1 rfl) ?_
            refine va_get (D := D) (ci := 12) (v := .ref a_said) (C := RX12) (T := TX12) (N := 37) hx hb hT i_X12 hown hK hP 1 rfl rfl 20 (by decide) (hT _ q_185) (fun _ h9 => h9) rfl dX12_trial_84 ?_
            refine lv_iload hx hb dX12_trial_87 (lv_at hl 0 rfl) ?_
            refine lv_iconst (v := 2) hx hb dX12_trial_89 (by decide) ?_
            refine lv_iadd hx hb dX12_trial_90 ?_
            refine lv_topi (fun v47 ev47 => ?_)
            have hv47 : IV 88 121 v47 := iv_add ev47 hv29 (iv_c (a := 2) (b := 2) (by decide)) (by decide) (by decide)
            have ii48 : 88 ≤ v47.toInt ∧ v47.toInt ≤ 121 := hv47
            have dv47 : v47.toInt = v29.toInt + 2 := iv_addE ev47 hv29 (iv_c (a := 2) (b := 2) (by decide)) (by decide) (by decide) (by decide)
            have lv47 : v47.toInt = v29.toInt + 2 := lin_add ev47 hv29 (iv_c (a := 2) (b := 2) (by decide)) rfl (by decide) (by decide) (by decide)
            refine lv_iload_n hx hb dX12_trial_91 rfl (lv_at hl 4 rfl) ?_
            refine lv_if_eq (tgt := 99) hx hb dX12_trial_92 (by decide) (fun c49 => ?_) (fun c49 => ?_)
            · have t50 : p2.toInt = 0 := lin_eq c49 rfl (by decide)
              have h51 : IV 0 0 p2 := iv_eq1 c49 h_p2 (iv_c (a := 0) (b := 0) (by decide)) (by decide) (by decide)
              have ii52 : 0 ≤ p2.toInt ∧ p2.toInt ≤ 0 := h51
              refine lv_iconst (v := 0) hx hb dX12_trial_99 (by decide) ?_
              refine va_iast hx hb hK hP hD hS 0 0 rfl rfl (iv_v hv47 (by decide) (by decide)) dX12_trial_100 (fun H locs hP hD hS => ?_)
              have hP : va_P D classes [(a_said, .inl (cs 0, 123, .inl (upd f40 (Int32.toNatClampNeg v47) (0 : Int32)))), (a, .inr (12, [.ref a_tape, .int a__taped, .int a__rules, .ref a_sign, .ref a_length, .ref a_clause, .ref a_clauses, .ref a_read, .int a__next, .int a__wrong, .int a__number, .int a__text, .int a__made, .int a__deep, .int a__lines, .ref a_open, .int a__opened, .ref a_stack, .int a__top, .ref a_word, .ref a_said, .int a__x, .ref a_worth, .ref a_mate, .ref a_wasSaid, .int a__undone, .int a__boughtNow, .ref a_wayBy, .ref a_wayThen, .int a__walkMost, .int a__walkGoing, .int a__walkSet, .ref a_kept, .long a__drawX, .ref a_images, .ref a_imageX, .ref a_isMade]))] H := hP
              have hD : va_D A [(a_said, .inl (cs 0, 123, .inl (upd f40 (Int32.toNatClampNeg v47) (0 : Int32)))), (a, .inr (12, [.ref a_tape, .int a__taped, .int a__rules, .ref a_sign, .ref a_length, .ref a_clause, .ref a_clauses, .ref a_read, .int a__next, .int a__wrong, .int a__number, .int a__text, .int a__made, .int a__deep, .int a__lines, .ref a_open, .int a__opened, .ref a_stack, .int a__top, .ref a_word, .ref a_said, .int a__x, .ref a_worth, .ref a_mate, .ref a_wasSaid, .int a__undone, .int a__boughtNow, .ref a_wayBy, .ref a_wayThen, .int a__walkMost, .int a__walkGoing, .int a__walkSet, .ref a_kept, .long a__drawX, .ref a_images, .ref a_imageX, .ref a_isMade]))] := hD
              obtain ⟨f53, uf53⟩ : ∃ z, z = upd f40 (Int32.toNatClampNeg v47) (0 : Int32) := ⟨_, rfl⟩
              rw [← uf53] at hP hD
              have wf53 : (f53 (Int32.toNatClampNeg v47)).toInt = 0 := lin_us uf53 (by decide)
              have kk54 : (f53 0).toInt = (f40 0).toInt := congrArg Int32.toInt (by rw [uf53, pk_un (show 0 ≠ Int32.toNatClampNeg v47 from by (have q : Int32.toNatClampNeg v47 = v47.toInt.toNat := rfl); omega)])
              have kk55 : (f53 1).toInt = (f40 1).toInt := congrArg Int32.toInt (by rw [uf53, pk_un (show 1 ≠ Int32.toNatClampNeg v47 from by (have q : Int32.toNatClampNeg v47 = v47.toInt.toNat := rfl); omega)])
              have kk56 : (f53 2).toInt = (f40 2).toInt := congrArg Int32.toInt (by rw [uf53, pk_un (show 2 ≠ Int32.toNatClampNeg v47 from by (have q : Int32.toNatClampNeg v47 = v47.toInt.toNat := rfl); omega)])
              have kk57 : (f53 3).toInt = (f40 3).toInt := congrArg Int32.toInt (by rw [uf53, pk_un (show 3 ≠ Int32.toNatClampNeg v47 from by (have q : Int32.toNatClampNeg v47 = v47.toInt.toNat := rfl); omega)])
              have fb58 : BS f53 200 := (bs_upd fb45 uf53 (show Int32.toNatClampNeg v47 ≠ 0 ∧ Int32.toNatClampNeg v47 ≠ 1 ∧ Int32.toNatClampNeg v47 ≠ 2 ∧ Int32.toNatClampNeg v47 ≠ 3 ∧ Int32.toNatClampNeg v47 ≠ 4 ∧ Int32.toNatClampNeg v47 ≠ 71 ∧ Int32.toNatClampNeg v47 ≠ 75 ∧ Int32.toNatClampNeg v47 ≠ 79 ∧ Int32.toNatClampNeg v47 ≠ 83 from by (have q : Int32.toNatClampNeg v47 = v47.toInt.toNat := rfl); omega))
              have fa59 : TR f53 := (tr_a fa46 uf53 (by decide))
              have k122 : (f53 122).toInt = (a_said_c 122).toInt := congrArg Int32.toInt (by rw [uf53, pk_un (show 122 ≠ Int32.toNatClampNeg v47 from by (have q : Int32.toNatClampNeg v47 = v47.toInt.toNat := rfl; omega)), uf40, pk_un (show 122 ≠ Int32.toNatClampNeg v38 from by (have q : Int32.toNatClampNeg v38 = v38.toInt.toNat := rfl; omega)), uf31, pk_un (show 122 ≠ Int32.toNatClampNeg v29 from by (have q : Int32.toNatClampNeg v29 = v29.toInt.toNat := rfl; omega))])
              refine lv_aload_n hx hb dX12_trial_101 rfl (lv_at hl 1 rfl) ?_
              refine va_get (D := D) (ci := 12) (v := .ref a_said) (C := RX12) (T := TX12) (N := 37) hx hb hT i_X12 hown hK hP 1 rfl rfl 20 (by decide) (hT _ q_185) (fun _ h9 => h9) rfl dX12_trial_102 ?_
              refine lv_bipush (v := 122) hx hb dX12_trial_105 (by decide) ?_
              refine lv_dup2_11 hx hb dX12_trial_107 rfl rfl ?_
              refine va_iald hx hb hK hP 0 0 rfl rfl (iv_vc (by decide)) dX12_trial_108 ?_
              refine lv_topi (fun v60 ev60 => ?_)
              have lv60 : v60.toInt = (f53 122).toInt := by rw [ev60]; rfl
              have h61 : IV 0 11 v60 := ⟨by omega, by omega⟩
              have ii62 : 0 ≤ v60.toInt ∧ v60.toInt ≤ 11 := h61
              refine lv_iconst (v := 1) hx hb dX12_trial_109 (by decide) ?_
              refine lv_iadd hx hb dX12_trial_110 ?_
              refine lv_topi (fun v63 ev63 => ?_)
              have hv63 : IV 1 12 v63 := iv_add ev63 h61 (iv_c (a := 1) (b := 1) (by decide)) (by decide) (by decide)
              have ii64 : 1 ≤ v63.toInt ∧ v63.toInt ≤ 12 := hv63
              have dv63 : v63.toInt = v60.toInt + 1 := iv_addE ev63 h61 (iv_c (a := 1) (b := 1) (by decide)) (by decide) (by decide) (by decide)
              have lv63 : v63.toInt = v60.toInt + 1 := lin_add ev63 h61 (iv_c (a := 1) (b := 1) (by decide)) rfl (by decide) (by decide) (by decide)
              refine va_iast hx hb hK hP hD hS 0 0 rfl rfl (iv_vc (by decide)) dX12_trial_111 (fun H locs hP hD hS => ?_)
              have hP : va_P D classes [(a_said, .inl (cs 0, 123, .inl (upd f53 (Int32.toNatClampNeg (122 : Int32)) v63))), (a, .inr (12, [.ref a_tape, .int a__taped, .int a__rules, .ref a_sign, .ref a_length, .ref a_clause, .ref a_clauses, .ref a_read, .int a__next, .int a__wrong, .int a__number, .int a__text, .int a__made, .int a__deep, .int a__lines, .ref a_open, .int a__opened, .ref a_stack, .int a__top, .ref a_word, .ref a_said, .int a__x, .ref a_worth, .ref a_mate, .ref a_wasSaid, .int a__undone, .int a__boughtNow, .ref a_wayBy, .ref a_wayThen, .int a__walkMost, .int a__walkGoing, .int a__walkSet, .ref a_kept, .long a__drawX, .ref a_images, .ref a_imageX, .ref a_isMade]))] H := hP
              have hD : va_D A [(a_said, .inl (cs 0, 123, .inl (upd f53 (Int32.toNatClampNeg (122 : Int32)) v63))), (a, .inr (12, [.ref a_tape, .int a__taped, .int a__rules, .ref a_sign, .ref a_length, .ref a_clause, .ref a_clauses, .ref a_read, .int a__next, .int a__wrong, .int a__number, .int a__text, .int a__made, .int a__deep, .int a__lines, .ref a_open, .int a__opened, .ref a_stack, .int a__top, .ref a_word, .ref a_said, .int a__x, .ref a_worth, .ref a_mate, .ref a_wasSaid, .int a__undone, .int a__boughtNow, .ref a_wayBy, .ref a_wayThen, .int a__walkMost, .int a__walkGoing, .int a__walkSet, .ref a_kept, .long a__drawX, .ref a_images, .ref a_imageX, .ref a_isMade]))] := hD
              obtain ⟨f65, uf65⟩ : ∃ z, z = upd f53 (Int32.toNatClampNeg (122 : Int32)) v63 := ⟨_, rfl⟩
              rw [← uf65] at hP hD
              have uf65 : f65 = upd f53 122 v63 := uf65
              have wf65 : (f65 122).toInt = v63.toInt := lin_us uf65 rfl
              have kk66 : (f65 0).toInt = (f53 0).toInt := congrArg Int32.toInt (by rw [uf65, pk_un (by decide)])
              have kk67 : (f65 1).toInt = (f53 1).toInt := congrArg Int32.toInt (by rw [uf65, pk_un (by decide)])
              have kk68 : (f65 2).toInt = (f53 2).toInt := congrArg Int32.toInt (by rw [uf65, pk_un (by decide)])
              have kk69 : (f65 3).toInt = (f53 3).toInt := congrArg Int32.toInt (by rw [uf65, pk_un (by decide)])
              have fb70 : BS f65 200 := (bs_upd fb58 uf65 (by decide))
              have fa71 : TR f65 := (tr_n fa59 uf65 ⟨by omega, by omega⟩)
              refine lv_aload_n hx hb dX12_trial_112 rfl (lv_at hl 1 rfl) ?_
              refine va_get (D := D) (ci := 12) (v := .ref a_said) (C := RX12) (T := TX12) (N := 37) hx hb hT i_X12 hown hK hP 1 rfl rfl 20 (by decide) (hT _ q_185) (fun _ h9 => h9) rfl dX12_trial_113 ?_
              refine lv_bipush (v := 122) hx hb dX12_trial_116 (by decide) ?_
              refine va_iald hx hb hK hP 0 0 rfl rfl (iv_vc (by decide)) dX12_trial_118 ?_
              refine lv_topi (fun v72 ev72 => ?_)
              have lv72 : v72.toInt = (f65 122).toInt := by rw [ev72]; rfl
              refine W.widen (k := 0) (n := 0) (Nat.le_of_ble_eq_true rfl) (Nat.le_of_ble_eq_true rfl) ?_
              have g73 : (f65 3).toInt ≤ 99 := (by omega)
              exact W.iret (v := v72) hx hb hr (fun t ht hW => ⟨⟨v72, (fun k => match k with | 0 => 0 | _ => 0, fun k => match k with | 0 => f65 | _ => fun _ => 0), rfl, (Or.inr (Or.inr ((⟨h5, h12, fb70, fa71, g73⟩)))), by rw [ht]; exact hP.sub [0, 1] rfl, hD.sub [0, 1] (by decide) rfl⟩, hS.F ht⟩) hS.2.2 dX12_trial_119
            · have t74 : p2.toInt ≠ 0 := lin_ne c49 rfl (by decide)
              have h75 : IV 1 1 p2 := iv_neL c49 h_p2 (by decide)
              have ii76 : 1 ≤ p2.toInt ∧ p2.toInt ≤ 1 := h75
              refine lv_iconst (v := 1) hx hb dX12_trial_95 (by decide) ?_
              refine lv_goto (tgt := 100) hx hb dX12_trial_96 (by decide) ?_
              refine va_iast hx hb hK hP hD hS 0 0 rfl rfl (iv_v hv47 (by decide) (by decide)) dX12_trial_100 (fun H locs hP hD hS => ?_)
              have hP : va_P D classes [(a_said, .inl (cs 0, 123, .inl (upd f40 (Int32.toNatClampNeg v47) (1 : Int32)))), (a, .inr (12, [.ref a_tape, .int a__taped, .int a__rules, .ref a_sign, .ref a_length, .ref a_clause, .ref a_clauses, .ref a_read, .int a__next, .int a__wrong, .int a__number, .int a__text, .int a__made, .int a__deep, .int a__lines, .ref a_open, .int a__opened, .ref a_stack, .int a__top, .ref a_word, .ref a_said, .int a__x, .ref a_worth, .ref a_mate, .ref a_wasSaid, .int a__undone, .int a__boughtNow, .ref a_wayBy, .ref a_wayThen, .int a__walkMost, .int a__walkGoing, .int a__walkSet, .ref a_kept, .long a__drawX, .ref a_images, .ref a_imageX, .ref a_isMade]))] H := hP
              have hD : va_D A [(a_said, .inl (cs 0, 123, .inl (upd f40 (Int32.toNatClampNeg v47) (1 : Int32)))), (a, .inr (12, [.ref a_tape, .int a__taped, .int a__rules, .ref a_sign, .ref a_length, .ref a_clause, .ref a_clauses, .ref a_read, .int a__next, .int a__wrong, .int a__number, .int a__text, .int a__made, .int a__deep, .int a__lines, .ref a_open, .int a__opened, .ref a_stack, .int a__top, .ref a_word, .ref a_said, .int a__x, .ref a_worth, .ref a_mate, .ref a_wasSaid, .int a__undone, .int a__boughtNow, .ref a_wayBy, .ref a_wayThen, .int a__walkMost, .int a__walkGoing, .int a__walkSet, .ref a_kept, .long a__drawX, .ref a_images, .ref a_imageX, .ref a_isMade]))] := hD
              obtain ⟨f77, uf77⟩ : ∃ z, z = upd f40 (Int32.toNatClampNeg v47) (1 : Int32) := ⟨_, rfl⟩
              rw [← uf77] at hP hD
              have wf77 : (f77 (Int32.toNatClampNeg v47)).toInt = 1 := lin_us uf77 (by decide)
              have kk78 : (f77 0).toInt = (f40 0).toInt := congrArg Int32.toInt (by rw [uf77, pk_un (show 0 ≠ Int32.toNatClampNeg v47 from by (have q : Int32.toNatClampNeg v47 = v47.toInt.toNat := rfl); omega)])
              have kk79 : (f77 1).toInt = (f40 1).toInt := congrArg Int32.toInt (by rw [uf77, pk_un (show 1 ≠ Int32.toNatClampNeg v47 from by (have q : Int32.toNatClampNeg v47 = v47.toInt.toNat := rfl); omega)])
              have kk80 : (f77 2).toInt = (f40 2).toInt := congrArg Int32.toInt (by rw [uf77, pk_un (show 2 ≠ Int32.toNatClampNeg v47 from by (have q : Int32.toNatClampNeg v47 = v47.toInt.toNat := rfl); omega)])
              have kk81 : (f77 3).toInt = (f40 3).toInt := congrArg Int32.toInt (by rw [uf77, pk_un (show 3 ≠ Int32.toNatClampNeg v47 from by (have q : Int32.toNatClampNeg v47 = v47.toInt.toNat := rfl); omega)])
              have fb82 : BS f77 200 := (bs_upd fb45 uf77 (show Int32.toNatClampNeg v47 ≠ 0 ∧ Int32.toNatClampNeg v47 ≠ 1 ∧ Int32.toNatClampNeg v47 ≠ 2 ∧ Int32.toNatClampNeg v47 ≠ 3 ∧ Int32.toNatClampNeg v47 ≠ 4 ∧ Int32.toNatClampNeg v47 ≠ 71 ∧ Int32.toNatClampNeg v47 ≠ 75 ∧ Int32.toNatClampNeg v47 ≠ 79 ∧ Int32.toNatClampNeg v47 ≠ 83 from by (have q : Int32.toNatClampNeg v47 = v47.toInt.toNat := rfl); omega))
              have fa83 : TR f77 := (tr_a fa46 uf77 (by decide))
              have k122 : (f77 122).toInt = (a_said_c 122).toInt := congrArg Int32.toInt (by rw [uf77, pk_un (show 122 ≠ Int32.toNatClampNeg v47 from by (have q : Int32.toNatClampNeg v47 = v47.toInt.toNat := rfl; omega)), uf40, pk_un (show 122 ≠ Int32.toNatClampNeg v38 from by (have q : Int32.toNatClampNeg v38 = v38.toInt.toNat := rfl; omega)), uf31, pk_un (show 122 ≠ Int32.toNatClampNeg v29 from by (have q : Int32.toNatClampNeg v29 = v29.toInt.toNat := rfl; omega))])
              refine lv_aload_n hx hb dX12_trial_101 rfl (lv_at hl 1 rfl) ?_
              refine va_get (D := D) (ci := 12) (v := .ref a_said) (C := RX12) (T := TX12) (N := 37) hx hb hT i_X12 hown hK hP 1 rfl rfl 20 (by decide) (hT _ q_185) (fun _ h9 => h9) rfl dX12_trial_102 ?_
              refine lv_bipush (v := 122) hx hb dX12_trial_105 (by decide) ?_
              refine lv_dup2_11 hx hb dX12_trial_107 rfl rfl ?_
              refine va_iald hx hb hK hP 0 0 rfl rfl (iv_vc (by decide)) dX12_trial_108 ?_
              refine lv_topi (fun v84 ev84 => ?_)
              have lv84 : v84.toInt = (f77 122).toInt := by rw [ev84]; rfl
              have h85 : IV 0 11 v84 := ⟨by omega, by omega⟩
              have ii86 : 0 ≤ v84.toInt ∧ v84.toInt ≤ 11 := h85
              refine lv_iconst (v := 1) hx hb dX12_trial_109 (by decide) ?_
              refine lv_iadd hx hb dX12_trial_110 ?_
              refine lv_topi (fun v87 ev87 => ?_)
              have hv87 : IV 1 12 v87 := iv_add ev87 h85 (iv_c (a := 1) (b := 1) (by decide)) (by decide) (by decide)
              have ii88 : 1 ≤ v87.toInt ∧ v87.toInt ≤ 12 := hv87
              have dv87 : v87.toInt = v84.toInt + 1 := iv_addE ev87 h85 (iv_c (a := 1) (b := 1) (by decide)) (by decide) (by decide) (by decide)
              have lv87 : v87.toInt = v84.toInt + 1 := lin_add ev87 h85 (iv_c (a := 1) (b := 1) (by decide)) rfl (by decide) (by decide) (by decide)
              refine va_iast hx hb hK hP hD hS 0 0 rfl rfl (iv_vc (by decide)) dX12_trial_111 (fun H locs hP hD hS => ?_)
              have hP : va_P D classes [(a_said, .inl (cs 0, 123, .inl (upd f77 (Int32.toNatClampNeg (122 : Int32)) v87))), (a, .inr (12, [.ref a_tape, .int a__taped, .int a__rules, .ref a_sign, .ref a_length, .ref a_clause, .ref a_clauses, .ref a_read, .int a__next, .int a__wrong, .int a__number, .int a__text, .int a__made, .int a__deep, .int a__lines, .ref a_open, .int a__opened, .ref a_stack, .int a__top, .ref a_word, .ref a_said, .int a__x, .ref a_worth, .ref a_mate, .ref a_wasSaid, .int a__undone, .int a__boughtNow, .ref a_wayBy, .ref a_wayThen, .int a__walkMost, .int a__walkGoing, .int a__walkSet, .ref a_kept, .long a__drawX, .ref a_images, .ref a_imageX, .ref a_isMade]))] H := hP
              have hD : va_D A [(a_said, .inl (cs 0, 123, .inl (upd f77 (Int32.toNatClampNeg (122 : Int32)) v87))), (a, .inr (12, [.ref a_tape, .int a__taped, .int a__rules, .ref a_sign, .ref a_length, .ref a_clause, .ref a_clauses, .ref a_read, .int a__next, .int a__wrong, .int a__number, .int a__text, .int a__made, .int a__deep, .int a__lines, .ref a_open, .int a__opened, .ref a_stack, .int a__top, .ref a_word, .ref a_said, .int a__x, .ref a_worth, .ref a_mate, .ref a_wasSaid, .int a__undone, .int a__boughtNow, .ref a_wayBy, .ref a_wayThen, .int a__walkMost, .int a__walkGoing, .int a__walkSet, .ref a_kept, .long a__drawX, .ref a_images, .ref a_imageX, .ref a_isMade]))] := hD
              obtain ⟨f89, uf89⟩ : ∃ z, z = upd f77 (Int32.toNatClampNeg (122 : Int32)) v87 := ⟨_, rfl⟩
              rw [← uf89] at hP hD
              have uf89 : f89 = upd f77 122 v87 := uf89
              have wf89 : (f89 122).toInt = v87.toInt := lin_us uf89 rfl
              have kk90 : (f89 0).toInt = (f77 0).toInt := congrArg Int32.toInt (by rw [uf89, pk_un (by decide)])
              have kk91 : (f89 1).toInt = (f77 1).toInt := congrArg Int32.toInt (by rw [uf89, pk_un (by decide)])
              have kk92 : (f89 2).toInt = (f77 2).toInt := congrArg Int32.toInt (by rw [uf89, pk_un (by decide)])
              have kk93 : (f89 3).toInt = (f77 3).toInt := congrArg Int32.toInt (by rw [uf89, pk_un (by decide)])
              have fb94 : BS f89 200 := (bs_upd fb82 uf89 (by decide))
              have fa95 : TR f89 := (tr_n fa83 uf89 ⟨by omega, by omega⟩)
              refine lv_aload_n hx hb dX12_trial_112 rfl (lv_at hl 1 rfl) ?_
              refine va_get (D := D) (ci := 12) (v := .ref a_said) (C := RX12) (T := TX12) (N := 37) hx hb hT i_X12 hown hK hP 1 rfl rfl 20 (by decide) (hT _ q_185) (fun _ h9 => h9) rfl dX12_trial_113 ?_
              refine lv_bipush (v := 122) hx hb dX12_trial_116 (by decide) ?_
              refine va_iald hx hb hK hP 0 0 rfl rfl (iv_vc (by decide)) dX12_trial_118 ?_
              refine lv_topi (fun v96 ev96 => ?_)
              have lv96 : v96.toInt = (f89 122).toInt := by rw [ev96]; rfl
              refine W.widen (k := 0) (n := 0) (Nat.le_of_ble_eq_true rfl) (Nat.le_of_ble_eq_true rfl) ?_
              have g97 : (f89 3).toInt ≤ 99 := (by omega)
              exact W.iret (v := v96) hx hb hr (fun t ht hW => ⟨⟨v96, (fun k => match k with | 0 => 0 | _ => 0, fun k => match k with | 0 => f89 | _ => fun _ => 0), rfl, (Or.inr (Or.inr ((⟨h5, h12, fb94, fa95, g97⟩)))), by rw [ht]; exact hP.sub [0, 1] rfl, hD.sub [0, 1] (by decide) rfl⟩, hS.F ht⟩) hS.2.2 dX12_trial_119
          · have t98 : v20.toInt = 12 := lin_eqN c23 rfl (by decide)
            have h99 : IV 12 12 v20 := iv_eq1 c23 h21 (iv_c (a := 12) (b := 12) (by decide)) (by decide) (by decide)
            have ii100 : 12 ≤ v20.toInt ∧ v20.toInt ≤ 12 := h99
            refine lv_bipush (v := (-2)) hx hb dX12_trial_48 (by decide) ?_
            refine W.widen (k := 0) (n := 0) (Nat.le_of_ble_eq_true rfl) (Nat.le_of_ble_eq_true rfl) ?_
            exact W.iret (v := (-2)) hx hb hr (fun t ht hW => ⟨⟨(-2), (fun k => match k with | 0 => 0 | _ => 0, fun k => match k with | 0 => a_said_c | _ => fun _ => 0), rfl, (Or.inl (⟨rfl, (iv_w h5 (by decide) (by decide)), hf0, hf1, hf2⟩)), by rw [ht]; exact hP.sub [0, 1] rfl, hD.sub [0, 1] (by decide) rfl⟩, hS.F ht⟩) hS.2.2 dX12_trial_50
  · have t101 : p0.toInt = (-1) := lin_eqN c1 rfl (by decide)
    have h102 : IV (-1) (-1) p0 := iv_eq1 c1 iv_top (iv_c (a := (-1)) (b := (-1)) (by decide)) (by decide) (by decide)
    have ii103 : (-1) ≤ p0.toInt ∧ p0.toInt ≤ (-1) := h102
    refine lv_aload_n hx hb dX12_trial_5 rfl (lv_at hl 0 rfl) ?_
    refine va_get (D := D) (ci := 12) (v := .ref a_said) (C := RX12) (T := TX12) (N := 37) hx hb hT i_X12 hown hK hP 1 rfl rfl 20 (by decide) (hT _ q_185) (fun _ h9 => h9) rfl dX12_trial_6 ?_
    refine lv_bipush (v := 122) hx hb dX12_trial_9 (by decide) ?_
    refine lv_iconst (v := 0) hx hb dX12_trial_11 (by decide) ?_
    refine va_iast hx hb hK hP hD hS 0 0 rfl rfl (iv_vc (by decide)) dX12_trial_12 (fun H locs hP hD hS => ?_)
    have hP : va_P D classes [(a_said, .inl (cs 0, 123, .inl (upd a_said_c (Int32.toNatClampNeg (122 : Int32)) (0 : Int32)))), (a, .inr (12, [.ref a_tape, .int a__taped, .int a__rules, .ref a_sign, .ref a_length, .ref a_clause, .ref a_clauses, .ref a_read, .int a__next, .int a__wrong, .int a__number, .int a__text, .int a__made, .int a__deep, .int a__lines, .ref a_open, .int a__opened, .ref a_stack, .int a__top, .ref a_word, .ref a_said, .int a__x, .ref a_worth, .ref a_mate, .ref a_wasSaid, .int a__undone, .int a__boughtNow, .ref a_wayBy, .ref a_wayThen, .int a__walkMost, .int a__walkGoing, .int a__walkSet, .ref a_kept, .long a__drawX, .ref a_images, .ref a_imageX, .ref a_isMade]))] H := hP
    have hD : va_D A [(a_said, .inl (cs 0, 123, .inl (upd a_said_c (Int32.toNatClampNeg (122 : Int32)) (0 : Int32)))), (a, .inr (12, [.ref a_tape, .int a__taped, .int a__rules, .ref a_sign, .ref a_length, .ref a_clause, .ref a_clauses, .ref a_read, .int a__next, .int a__wrong, .int a__number, .int a__text, .int a__made, .int a__deep, .int a__lines, .ref a_open, .int a__opened, .ref a_stack, .int a__top, .ref a_word, .ref a_said, .int a__x, .ref a_worth, .ref a_mate, .ref a_wasSaid, .int a__undone, .int a__boughtNow, .ref a_wayBy, .ref a_wayThen, .int a__walkMost, .int a__walkGoing, .int a__walkSet, .ref a_kept, .long a__drawX, .ref a_images, .ref a_imageX, .ref a_isMade]))] := hD
    obtain ⟨f104, uf104⟩ : ∃ z, z = upd a_said_c (Int32.toNatClampNeg (122 : Int32)) (0 : Int32) := ⟨_, rfl⟩
    rw [← uf104] at hP hD
    have uf104 : f104 = upd a_said_c 122 (0 : Int32) := uf104
    have wf104 : (f104 122).toInt = 0 := lin_us uf104 (by decide)
    have kk105 : (f104 0).toInt = (a_said_c 0).toInt := congrArg Int32.toInt (by rw [uf104, pk_un (by decide)])
    have kk106 : (f104 1).toInt = (a_said_c 1).toInt := congrArg Int32.toInt (by rw [uf104, pk_un (by decide)])
    have kk107 : (f104 2).toInt = (a_said_c 2).toInt := congrArg Int32.toInt (by rw [uf104, pk_un (by decide)])
    have kk108 : (f104 3).toInt = (a_said_c 3).toInt := congrArg Int32.toInt (by rw [uf104, pk_un (by decide)])
    have fb109 : BS f104 200 := (bs_upd hf0 uf104 (by decide))
    have fa110 : TR f104 := (tr_n hf1 uf104 ⟨by decide, by decide⟩)
    refine lv_iconst (v := 0) hx hb dX12_trial_13 (by decide) ?_
    refine W.widen (k := 0) (n := 0) (Nat.le_of_ble_eq_true rfl) (Nat.le_of_ble_eq_true rfl) ?_
    have g111 : (f104 3).toInt ≤ 99 := (by omega)
    exact W.iret (v := 0) hx hb hr (fun t ht hW => ⟨⟨0, (fun k => match k with | 0 => 0 | _ => 0, fun k => match k with | 0 => f104 | _ => fun _ => 0), rfl, (Or.inr (Or.inl (⟨rfl, h102, fb109, fa110, g111⟩))), by rw [ht]; exact hP.sub [0, 1] rfl, hD.sub [0, 1] (by decide) rfl⟩, hS.F ht⟩) hS.2.2 dX12_trial_14
theorem dX12_isTried_0 : decode cX12_isTried 0 = .ok (.iconst 0, 1) := by decide +kernel
theorem dX12_isTried_1 : decode cX12_isTried 1 = .ok (.istore_n 2, 1) := by decide +kernel
theorem dX12_isTried_2 : decode cX12_isTried 2 = .ok (.iload_n 2, 1) := by decide +kernel
theorem dX12_isTried_3 : decode cX12_isTried 3 = .ok (.aload_n 0, 1) := by decide +kernel
theorem dX12_isTried_4 : decode cX12_isTried 4 = .ok (.getfield 39, 3) := by decide +kernel
theorem dX12_isTried_7 : decode cX12_isTried 7 = .ok (.bipush 122, 2) := by decide +kernel
theorem dX12_isTried_9 : decode cX12_isTried 9 = .ok (.iaload, 1) := by decide +kernel
theorem dX12_isTried_10 : decode cX12_isTried 10 = .ok (.if_icmp .ge 100, 3) := by decide +kernel
theorem dX12_isTried_13 : decode cX12_isTried 13 = .ok (.aload_n 0, 1) := by decide +kernel
theorem dX12_isTried_14 : decode cX12_isTried 14 = .ok (.getfield 39, 3) := by decide +kernel
theorem dX12_isTried_17 : decode cX12_isTried 17 = .ok (.bipush 86, 2) := by decide +kernel
theorem dX12_isTried_19 : decode cX12_isTried 19 = .ok (.iconst 3, 1) := by decide +kernel
theorem dX12_isTried_20 : decode cX12_isTried 20 = .ok (.iload_n 2, 1) := by decide +kernel
theorem dX12_isTried_21 : decode cX12_isTried 21 = .ok (.imul, 1) := by decide +kernel
theorem dX12_isTried_22 : decode cX12_isTried 22 = .ok (.iadd, 1) := by decide +kernel
theorem dX12_isTried_23 : decode cX12_isTried 23 = .ok (.iaload, 1) := by decide +kernel
theorem dX12_isTried_24 : decode cX12_isTried 24 = .ok (.istore_n 3, 1) := by decide +kernel
theorem dX12_isTried_25 : decode cX12_isTried 25 = .ok (.aload_n 0, 1) := by decide +kernel
theorem dX12_isTried_26 : decode cX12_isTried 26 = .ok (.getfield 39, 3) := by decide +kernel
theorem dX12_isTried_29 : decode cX12_isTried 29 = .ok (.bipush 86, 2) := by decide +kernel
theorem dX12_isTried_31 : decode cX12_isTried 31 = .ok (.iconst 3, 1) := by decide +kernel
theorem dX12_isTried_32 : decode cX12_isTried 32 = .ok (.iload_n 2, 1) := by decide +kernel
theorem dX12_isTried_33 : decode cX12_isTried 33 = .ok (.imul, 1) := by decide +kernel
theorem dX12_isTried_34 : decode cX12_isTried 34 = .ok (.iadd, 1) := by decide +kernel
theorem dX12_isTried_35 : decode cX12_isTried 35 = .ok (.iconst 1, 1) := by decide +kernel
theorem dX12_isTried_36 : decode cX12_isTried 36 = .ok (.iadd, 1) := by decide +kernel
theorem dX12_isTried_37 : decode cX12_isTried 37 = .ok (.iaload, 1) := by decide +kernel
theorem dX12_isTried_38 : decode cX12_isTried 38 = .ok (.istore 4, 2) := by decide +kernel
theorem dX12_isTried_40 : decode cX12_isTried 40 = .ok (.iload_n 1, 1) := by decide +kernel
theorem dX12_isTried_41 : decode cX12_isTried 41 = .ok (.iload_n 3, 1) := by decide +kernel
theorem dX12_isTried_42 : decode cX12_isTried 42 = .ok (.invokestatic 215, 3) := by decide +kernel
theorem dX12_isTried_45 : decode cX12_isTried 45 = .ok (.ifCond .ne 23, 3) := by decide +kernel
theorem dX12_isTried_48 : decode cX12_isTried 48 = .ok (.iload_n 1, 1) := by decide +kernel
theorem dX12_isTried_49 : decode cX12_isTried 49 = .ok (.iload 4, 2) := by decide +kernel
theorem dX12_isTried_51 : decode cX12_isTried 51 = .ok (.invokestatic 215, 3) := by decide +kernel
theorem dX12_isTried_54 : decode cX12_isTried 54 = .ok (.ifCond .ne 14, 3) := by decide +kernel
theorem dX12_isTried_57 : decode cX12_isTried 57 = .ok (.aload_n 0, 1) := by decide +kernel
theorem dX12_isTried_58 : decode cX12_isTried 58 = .ok (.iload_n 3, 1) := by decide +kernel
theorem dX12_isTried_59 : decode cX12_isTried 59 = .ok (.iload 4, 2) := by decide +kernel
theorem dX12_isTried_61 : decode cX12_isTried 61 = .ok (.invokevirtual 311, 3) := by decide +kernel
theorem dX12_isTried_64 : decode cX12_isTried 64 = .ok (.iconst 2, 1) := by decide +kernel
theorem dX12_isTried_65 : decode cX12_isTried 65 = .ok (.if_icmp .ne 7, 3) := by decide +kernel
theorem dX12_isTried_68 : decode cX12_isTried 68 = .ok (.iconst 1, 1) := by decide +kernel
theorem dX12_isTried_69 : decode cX12_isTried 69 = .ok (.goto 4, 3) := by decide +kernel
theorem dX12_isTried_72 : decode cX12_isTried 72 = .ok (.iconst 0, 1) := by decide +kernel
theorem dX12_isTried_73 : decode cX12_isTried 73 = .ok (.istore 5, 2) := by decide +kernel
theorem dX12_isTried_75 : decode cX12_isTried 75 = .ok (.iload 5, 2) := by decide +kernel
theorem dX12_isTried_77 : decode cX12_isTried 77 = .ok (.aload_n 0, 1) := by decide +kernel
theorem dX12_isTried_78 : decode cX12_isTried 78 = .ok (.getfield 39, 3) := by decide +kernel
theorem dX12_isTried_81 : decode cX12_isTried 81 = .ok (.bipush 86, 2) := by decide +kernel
theorem dX12_isTried_83 : decode cX12_isTried 83 = .ok (.iconst 3, 1) := by decide +kernel
theorem dX12_isTried_84 : decode cX12_isTried 84 = .ok (.iload_n 2, 1) := by decide +kernel
theorem dX12_isTried_85 : decode cX12_isTried 85 = .ok (.imul, 1) := by decide +kernel
theorem dX12_isTried_86 : decode cX12_isTried 86 = .ok (.iadd, 1) := by decide +kernel
theorem dX12_isTried_87 : decode cX12_isTried 87 = .ok (.iconst 2, 1) := by decide +kernel
theorem dX12_isTried_88 : decode cX12_isTried 88 = .ok (.iadd, 1) := by decide +kernel
theorem dX12_isTried_89 : decode cX12_isTried 89 = .ok (.iaload, 1) := by decide +kernel
theorem dX12_isTried_90 : decode cX12_isTried 90 = .ok (.iconst 1, 1) := by decide +kernel
theorem dX12_isTried_91 : decode cX12_isTried 91 = .ok (.if_icmp .ne 7, 3) := by decide +kernel
theorem dX12_isTried_94 : decode cX12_isTried 94 = .ok (.iconst 1, 1) := by decide +kernel
theorem dX12_isTried_95 : decode cX12_isTried 95 = .ok (.goto 4, 3) := by decide +kernel
theorem dX12_isTried_98 : decode cX12_isTried 98 = .ok (.iconst 0, 1) := by decide +kernel
theorem dX12_isTried_99 : decode cX12_isTried 99 = .ok (.if_icmp .eq 5, 3) := by decide +kernel
theorem dX12_isTried_102 : decode cX12_isTried 102 = .ok (.iconst 0, 1) := by decide +kernel
theorem dX12_isTried_103 : decode cX12_isTried 103 = .ok (.ireturn, 1) := by decide +kernel
theorem dX12_isTried_104 : decode cX12_isTried 104 = .ok (.iinc 2 1, 3) := by decide +kernel
theorem dX12_isTried_107 : decode cX12_isTried 107 = .ok (.goto (-105), 3) := by decide +kernel
theorem dX12_isTried_110 : decode cX12_isTried 110 = .ok (.iconst 1, 1) := by decide +kernel
theorem dX12_isTried_111 : decode cX12_isTried 111 = .ok (.ireturn, 1) := by decide +kernel
set_option maxHeartbeats 4000000 in
set_option maxRecDepth 100000 in
theorem c_X12_isTried (l : Launch) (D : va_G) (cs : Nat → ClassId) (kK kV : Nat → Nat) (a : Nat) (p0 : Int32) (a_said : Nat) (a_said_c : Nat → Int32) (a_tape : Nat) (a__taped : Int32) (a__rules : Int32) (a_sign : Nat) (a_length : Nat) (a_clause : Nat) (a_clauses : Nat) (a_read : Nat) (a__next : Int32) (a__wrong : Int32) (a__number : Int32) (a__text : Int32) (a__made : Int32) (a__deep : Int32) (a__lines : Int32) (a_open : Nat) (a__opened : Int32) (a_stack : Nat) (a__top : Int32) (a_word : Nat) (a__x : Int32) (a_worth : Nat) (a_mate : Nat) (a_wasSaid : Nat) (a__undone : Int32) (a__boughtNow : Int32) (a_wayBy : Nat) (a_wayThen : Nat) (a__walkMost : Int32) (a__walkGoing : Int32) (a__walkSet : Int32) (a_kept : Nat) (a__drawX : Int64) (a_images : Nat) (a_imageX : Nat) (a_isMade : Nat) (h_a__taped : IV 0 400 a__taped) (h_a__rules : IV 0 6 a__rules) (h_a__next : IV 0 400 a__next) (h_a__text : IV 0 6 a__text) (h_a__made : IV 0 60 a__made) (h_a__lines : IV 0 40 a__lines) (h_a__opened : IV 0 400 a__opened) (h_a__top : IV 0 64 a__top) (h_a__x : IV 0 2147483647 a__x) (h_a__undone : IV 0 20 a__undone) (hf0 : BS a_said_c 200) (hf1 : TR a_said_c) : Met l yX12_isTried (hz_w yX12_isTried cX12_isTried 6 (some .boolean)) ({ frames := 2, cells := 0, slots := 0, locals := 45 }) (va_Pc [.ref a, .int p0] (hz_P D cs kK kV [(a_said, .inl (cs 0, 123, .inl a_said_c)), (a, .inr (12, [.ref a_tape, .int a__taped, .int a__rules, .ref a_sign, .ref a_length, .ref a_clause, .ref a_clauses, .ref a_read, .int a__next, .int a__wrong, .int a__number, .int a__text, .int a__made, .int a__deep, .int a__lines, .ref a_open, .int a__opened, .ref a_stack, .int a__top, .ref a_word, .ref a_said, .int a__x, .ref a_worth, .ref a_mate, .ref a_wasSaid, .int a__undone, .int a__boughtNow, .ref a_wayBy, .ref a_wayThen, .int a__walkMost, .int a__walkGoing, .int a__walkSet, .ref a_kept, .long a__drawX, .ref a_images, .ref a_imageX, .ref a_isMade]))])) (va_Qi (fun (r : Int32) (_ : Unit) => (r = 0) ∨ (r = 1)) (fun _ t => True) (fun _ => False)) 0 0 (fun _ => False) := by
  refine Met.ofW (cc := cX12_isTried) (maxL := 6) (ret := (some .boolean)) (by decide) rfl ?_
  intro p e s m args below meth c s₁ B hml hv
  obtain ⟨rfl, hP, hE⟩ := hv
  have hx := B.exec
  have hb := B.bytes
  have hr := B.returns
  have hT : ∀ w ∈ TB, w.before _ s = true := fun w h => atoms_spec (ws := hz_w yX12_isTried cX12_isTried 6 (some .boolean)) B.pre w (List.mem_cons_of_mem _ h)
  have hown : s.vm.findClass RX12 = some m.cls := findClass_of_methodNamed B.named
  have hlocks := B.notSynchronized
  clear B
  have hS : va_S (fun _ => False) s.heap s.heap [] := va_S.rf
  have hK := hE.1
  have hl := lv_entry ([.ref a, .int p0]) (n := 6) (Nat.le_of_ble_eq_true rfl)
  rw [lg_entry_eq]
  generalize (lg_sl ([.ref a, .int p0]) ++ List.replicate (6 - (lg_sl ([.ref a, .int p0])).length) Slot.unset).toArray = ls at hl ⊢
  have hl : lv_has ls 6 [(0, .ref a), (1, .int p0)] := hl
  obtain ⟨H, eH⟩ : ∃ z, z = s.heap := ⟨_, rfl⟩
  have hP : va_P D classes [(a_said, .inl (cs 0, 123, .inl a_said_c)), (a, .inr (12, [.ref a_tape, .int a__taped, .int a__rules, .ref a_sign, .ref a_length, .ref a_clause, .ref a_clauses, .ref a_read, .int a__next, .int a__wrong, .int a__number, .int a__text, .int a__made, .int a__deep, .int a__lines, .ref a_open, .int a__opened, .ref a_stack, .int a__top, .ref a_word, .ref a_said, .int a__x, .ref a_worth, .ref a_mate, .ref a_wasSaid, .int a__undone, .int a__boughtNow, .ref a_wayBy, .ref a_wayThen, .int a__walkMost, .int a__walkGoing, .int a__walkSet, .ref a_kept, .long a__drawX, .ref a_images, .ref a_imageX, .ref a_isMade]))] H := by rw [eH]; exact hP
  have hS : va_S (fun _ => False) s.heap H [] := by rw [eH]; exact hS
  rw [← eH]
  clear eH
  obtain ⟨locs, el⟩ : ∃ z : List Loc, z = [] := ⟨_, rfl⟩
  rw [← el] at hS ⊢
  clear el
  have z0 : (0 : Int32).toInt = 0 := by decide
  have z1 : (1 : Int32).toInt = 1 := by decide
  have zm1 : (-1 : Int32).toInt = -1 := by decide
  have i_a__lines : 0 ≤ a__lines.toInt ∧ a__lines.toInt ≤ 40 := h_a__lines
  have i_a__made : 0 ≤ a__made.toInt ∧ a__made.toInt ≤ 60 := h_a__made
  have i_a__next : 0 ≤ a__next.toInt ∧ a__next.toInt ≤ 400 := h_a__next
  have i_a__opened : 0 ≤ a__opened.toInt ∧ a__opened.toInt ≤ 400 := h_a__opened
  have i_a__rules : 0 ≤ a__rules.toInt ∧ a__rules.toInt ≤ 6 := h_a__rules
  have i_a__taped : 0 ≤ a__taped.toInt ∧ a__taped.toInt ≤ 400 := h_a__taped
  have i_a__text : 0 ≤ a__text.toInt ∧ a__text.toInt ≤ 6 := h_a__text
  have i_a__top : 0 ≤ a__top.toInt ∧ a__top.toInt ≤ 64 := h_a__top
  have i_a__undone : 0 ≤ a__undone.toInt ∧ a__undone.toInt ≤ 20 := h_a__undone
  have i_a__x : 0 ≤ a__x.toInt ∧ a__x.toInt ≤ 2147483647 := h_a__x
  have K2 : ∀ (n : Nat) (k2_L_2 : Int32), (13 - k2_L_2.toInt).toNat ≤ n → IV 0 12 k2_L_2 → ∀ (H : Heap) (locs : List Loc), va_P D classes [(a_said, .inl (cs 0, 123, .inl a_said_c)), (a, .inr (12, [.ref a_tape, .int a__taped, .int a__rules, .ref a_sign, .ref a_length, .ref a_clause, .ref a_clauses, .ref a_read, .int a__next, .int a__wrong, .int a__number, .int a__text, .int a__made, .int a__deep, .int a__lines, .ref a_open, .int a__opened, .ref a_stack, .int a__top, .ref a_word, .ref a_said, .int a__x, .ref a_worth, .ref a_mate, .ref a_wasSaid, .int a__undone, .int a__boughtNow, .ref a_wayBy, .ref a_wayThen, .int a__walkMost, .int a__walkGoing, .int a__walkSet, .ref a_kept, .long a__drawX, .ref a_images, .ref a_imageX, .ref a_isMade]))] H → va_S (fun _ => False) s.heap H locs → ∀ ls : Array Slot, lv_has ls 6 [(2, .int k2_L_2), (0, .ref a), (1, .int p0)] → W p l e (headSpec (hz_w yX12_isTried cX12_isTried 6 (some .boolean)) ({ frames := 2, cells := 0, slots := 0, locals := 45 })).room s m [.ref a, .int p0].toArray below meth c H locs 0 0 (MQ below (va_Qi (fun (r : Int32) (_ : Unit) => (r = 0) ∨ (r = 1)) (fun _ t => True) (fun _ => False)) [.ref a, .int p0].toArray s 0 0 (fun _ => False)) (F0 m 2 ls []) := by
    intro n
    induction n with
    | zero =>
      intro k2_L_2 hn q2_10 H locs hP hS ls hl
      have i_a__lines : 0 ≤ a__lines.toInt ∧ a__lines.toInt ≤ 40 := h_a__lines
      have i_a__made : 0 ≤ a__made.toInt ∧ a__made.toInt ≤ 60 := h_a__made
      have i_a__next : 0 ≤ a__next.toInt ∧ a__next.toInt ≤ 400 := h_a__next
      have i_a__opened : 0 ≤ a__opened.toInt ∧ a__opened.toInt ≤ 400 := h_a__opened
      have i_a__rules : 0 ≤ a__rules.toInt ∧ a__rules.toInt ≤ 6 := h_a__rules
      have i_a__taped : 0 ≤ a__taped.toInt ∧ a__taped.toInt ≤ 400 := h_a__taped
      have i_a__text : 0 ≤ a__text.toInt ∧ a__text.toInt ≤ 6 := h_a__text
      have i_a__top : 0 ≤ a__top.toInt ∧ a__top.toInt ≤ 64 := h_a__top
      have i_a__undone : 0 ≤ a__undone.toInt ∧ a__undone.toInt ≤ 20 := h_a__undone
      have i_a__x : 0 ≤ a__x.toInt ∧ a__x.toInt ≤ 2147483647 := h_a__x
      have i_k2_L_2 : 0 ≤ k2_L_2.toInt ∧ k2_L_2.toInt ≤ 12 := q2_10
      exact absurd hn (by omega)
    | succ n ih2 =>
      intro k2_L_2 hn q2_10 H locs hP hS ls hl
      have i_a__lines : 0 ≤ a__lines.toInt ∧ a__lines.toInt ≤ 40 := h_a__lines
      have i_a__made : 0 ≤ a__made.toInt ∧ a__made.toInt ≤ 60 := h_a__made
      have i_a__next : 0 ≤ a__next.toInt ∧ a__next.toInt ≤ 400 := h_a__next
      have i_a__opened : 0 ≤ a__opened.toInt ∧ a__opened.toInt ≤ 400 := h_a__opened
      have i_a__rules : 0 ≤ a__rules.toInt ∧ a__rules.toInt ≤ 6 := h_a__rules
      have i_a__taped : 0 ≤ a__taped.toInt ∧ a__taped.toInt ≤ 400 := h_a__taped
      have i_a__text : 0 ≤ a__text.toInt ∧ a__text.toInt ≤ 6 := h_a__text
      have i_a__top : 0 ≤ a__top.toInt ∧ a__top.toInt ≤ 64 := h_a__top
      have i_a__undone : 0 ≤ a__undone.toInt ∧ a__undone.toInt ≤ 20 := h_a__undone
      have i_a__x : 0 ≤ a__x.toInt ∧ a__x.toInt ≤ 2147483647 := h_a__x
      have i_k2_L_2 : 0 ≤ k2_L_2.toInt ∧ k2_L_2.toInt ≤ 12 := q2_10
      refine lv_iload_n hx hb dX12_isTried_2 rfl (lv_at hl 0 rfl) ?_
      refine lv_aload_n hx hb dX12_isTried_3 rfl (lv_at hl 1 rfl) ?_
      refine va_get (D := D) (ci := 12) (v := .ref a_said) (C := RX12) (T := TX12) (N := 37) hx hb hT i_X12 hown hK hP 1 rfl rfl 20 (by decide) (hT _ q_185) (fun _ h9 => h9) rfl dX12_isTried_4 ?_
      refine lv_bipush (v := 122) hx hb dX12_isTried_7 (by decide) ?_
      refine va_iald hx hb hK hP 0 0 rfl rfl (iv_vc (by decide)) dX12_isTried_9 ?_
      refine lv_topi (fun v1 ev1 => ?_)
      have lv1 : v1.toInt = (a_said_c 122).toInt := by rw [ev1]; rfl
      have h2 : IV 0 12 v1 := (by rw [ev1]; exact hf1.1)
      have ii3 : 0 ≤ v1.toInt ∧ v1.toInt ≤ 12 := h2
      refine lv_icmp_ge (tgt := 110) hx hb dX12_isTried_10 (by decide) (fun c4 => ?_) (fun c4 => ?_)
      · have t5 : k2_L_2.toInt ≥ v1.toInt := lin_ge c4 rfl rfl
        refine lv_iconst (v := 1) hx hb dX12_isTried_110 (by decide) ?_
        exact W.zret (v := 1) hx hb hr rfl (fun t ht hW => ⟨⟨1, (), rfl, (Or.inr ((rfl))), trivial⟩, hS.F ht⟩) hS.2.2 dX12_isTried_111
      · have t6 : k2_L_2.toInt < v1.toInt := lin_geN c4 rfl rfl
        have h7 : IV 0 11 k2_L_2 := iv_lt1 (Int32.not_le.mp c4) q2_10 h2 (by decide)
        have ii8 : 0 ≤ k2_L_2.toInt ∧ k2_L_2.toInt ≤ 11 := h7
        have h9 : IV 1 12 v1 := iv_lt2 (Int32.not_le.mp c4) q2_10 h2 (by decide)
        have ii10 : 1 ≤ v1.toInt ∧ v1.toInt ≤ 12 := h9
        refine lv_aload_n hx hb dX12_isTried_13 rfl (lv_at hl 1 rfl) ?_
        refine va_get (D := D) (ci := 12) (v := .ref a_said) (C := RX12) (T := TX12) (N := 37) hx hb hT i_X12 hown hK hP 1 rfl rfl 20 (by decide) (hT _ q_185) (fun _ h9 => h9) rfl dX12_isTried_14 ?_
        refine lv_bipush (v := 86) hx hb dX12_isTried_17 (by decide) ?_
        refine lv_iconst (v := 3) hx hb dX12_isTried_19 (by decide) ?_
        refine lv_iload_n hx hb dX12_isTried_20 rfl (lv_at hl 0 rfl) ?_
        refine lv_imul hx hb dX12_isTried_21 ?_
        refine lv_topi (fun v11 ev11 => ?_)
        have hv11 : IV 0 33 v11 := iv_mul ev11 (iv_c (a := 3) (b := 3) (by decide)) h7 (by decide) (by decide) (by decide) (by decide)
        have ii12 : 0 ≤ v11.toInt ∧ v11.toInt ≤ 33 := hv11
        have lv11 : v11.toInt = 3 * k2_L_2.toInt := lin_mul ev11 (iv_c (a := 3) (b := 3) (by decide)) h7 (by decide) rfl (by decide) (by decide) (by decide) (by decide)
        refine lv_iadd hx hb dX12_isTried_22 ?_
        refine lv_topi (fun v13 ev13 => ?_)
        have hv13 : IV 86 119 v13 := iv_add ev13 (iv_c (a := 86) (b := 86) (by decide)) hv11 (by decide) (by decide)
        have ii14 : 86 ≤ v13.toInt ∧ v13.toInt ≤ 119 := hv13
        have lv13 : v13.toInt = 86 + v11.toInt := lin_add ev13 (iv_c (a := 86) (b := 86) (by decide)) hv11 (by decide) rfl (by decide) (by decide)
        refine va_iald hx hb hK hP 0 0 rfl rfl (iv_v hv13 (by decide) (by decide)) dX12_isTried_23 ?_
        refine lv_topi (fun v15 ev15 => ?_)
        have lv15 : v15.toInt = (a_said_c (Int32.toNatClampNeg v13)).toInt := by rw [ev15]
        have h16 : IV 0 11 v15 := (by have q := (hf1.2 k2_L_2.toInt.toNat (by omega)).1; rw [(show v15 = a_said_c (86 + 3 * k2_L_2.toInt.toNat) from (by rw [ev15]; show a_said_c (v13.toInt.toNat) = _; congr 1; omega))]; exact q)
        have ii17 : 0 ≤ v15.toInt ∧ v15.toInt ≤ 11 := h16
        refine lv_istore_n (lv' := [(3, .int v15), (2, .int k2_L_2), (0, .ref a), (1, .int p0)]) hx hb dX12_isTried_24 rfl hl (by decide) rfl (fun ls hl => ?_)
        refine lv_aload_n hx hb dX12_isTried_25 rfl (lv_at hl 2 rfl) ?_
        refine va_get (D := D) (ci := 12) (v := .ref a_said) (C := RX12) (T := TX12) (N := 37) hx hb hT i_X12 hown hK hP 1 rfl rfl 20 (by decide) (hT _ q_185) (fun _ h9 => h9) rfl dX12_isTried_26 ?_
        refine lv_bipush (v := 86) hx hb dX12_isTried_29 (by decide) ?_
        refine lv_iconst (v := 3) hx hb dX12_isTried_31 (by decide) ?_
        refine lv_iload_n hx hb dX12_isTried_32 rfl (lv_at hl 1 rfl) ?_
        refine lv_imul hx hb dX12_isTried_33 ?_
        refine lv_topi (fun v18 ev18 => ?_)
        have hv18 : IV 0 33 v18 := iv_mul ev18 (iv_c (a := 3) (b := 3) (by decide)) h7 (by decide) (by decide) (by decide) (by decide)
        have ii19 : 0 ≤ v18.toInt ∧ v18.toInt ≤ 33 := hv18
        have lv18 : v18.toInt = 3 * k2_L_2.toInt := lin_mul ev18 (iv_c (a := 3) (b := 3) (by decide)) h7 (by decide) rfl (by decide) (by decide) (by decide) (by decide)
        refine lv_iadd hx hb dX12_isTried_34 ?_
        refine lv_topi (fun v20 ev20 => ?_)
        have hv20 : IV 86 119 v20 := iv_add ev20 (iv_c (a := 86) (b := 86) (by decide)) hv18 (by decide) (by decide)
        have ii21 : 86 ≤ v20.toInt ∧ v20.toInt ≤ 119 := hv20
        have lv20 : v20.toInt = 86 + v18.toInt := lin_add ev20 (iv_c (a := 86) (b := 86) (by decide)) hv18 (by decide) rfl (by decide) (by decide)
        refine lv_iconst (v := 1) hx hb dX12_isTried_35 (by decide) ?_
        refine lv_iadd hx hb dX12_isTried_36 ?_
        refine lv_topi (fun v22 ev22 => ?_)
        have hv22 : IV 87 120 v22 := iv_add ev22 hv20 (iv_c (a := 1) (b := 1) (by decide)) (by decide) (by decide)
        have ii23 : 87 ≤ v22.toInt ∧ v22.toInt ≤ 120 := hv22
        have dv22 : v22.toInt = v20.toInt + 1 := iv_addE ev22 hv20 (iv_c (a := 1) (b := 1) (by decide)) (by decide) (by decide) (by decide)
        have lv22 : v22.toInt = v20.toInt + 1 := lin_add ev22 hv20 (iv_c (a := 1) (b := 1) (by decide)) rfl (by decide) (by decide) (by decide)
        refine va_iald hx hb hK hP 0 0 rfl rfl (iv_v hv22 (by decide) (by decide)) dX12_isTried_37 ?_
        refine lv_topi (fun v24 ev24 => ?_)
        have lv24 : v24.toInt = (a_said_c (Int32.toNatClampNeg v22)).toInt := by rw [ev24]
        have h25 : IV 0 11 v24 := (by have q := (hf1.2 k2_L_2.toInt.toNat (by omega)).2; rw [(show v24 = a_said_c (87 + 3 * k2_L_2.toInt.toNat) from (by rw [ev24]; show a_said_c (v22.toInt.toNat) = _; congr 1; omega))]; exact q)
        have ii26 : 0 ≤ v24.toInt ∧ v24.toInt ≤ 11 := h25
        refine lv_istore (lv' := [(4, .int v24), (3, .int v15), (2, .int k2_L_2), (0, .ref a), (1, .int p0)]) hx hb dX12_isTried_38 hl (by decide) rfl (fun ls hl => ?_)
        refine lv_iload_n hx hb dX12_isTried_40 rfl (lv_at hl 4 rfl) ?_
        refine lv_iload_n hx hb dX12_isTried_41 rfl (lv_at hl 1 rfl) ?_
        refine va_calli (va_runS (As := [.int p0, .int v15]) (rest := []) ⟨hx, hb, hml, hown, hT⟩ (c_X12_isOf l D cs kK kV p0 v15) (va_cwS 2 hT (hz_gS q_1034 q_1035 q_701 q_1036) rfl rfl rfl (by decide +kernel) ⟨(Nat.le_of_ble_eq_true rfl), (Nat.le_of_ble_eq_true rfl)⟩) ⟨hz_P.blind, hz_P.mk (hP.sub (ws' := []) [] rfl) hE hS⟩ rfl rfl hl.1 rfl (lv_room (Nat.le_of_ble_eq_true rfl)) dX12_isTried_42 ⟨(Nat.le_of_ble_eq_true rfl), (Nat.le_of_ble_eq_true rfl)⟩) hS (fun _ _ h => h.elim) (fun _ h => h.elim) (fun r27 u t H1 locs ht hvm hw hB hz1 hk1 hS => ?_)
        have hP := hz_keep hP hk1
        clear hk1 hB hz1
        generalize H1 = H at hP hS ⊢
        rcases hw with ⟨rfl, x28⟩ | ⟨rfl, x29⟩
        · refine lv_if_ne (tgt := 68) hx hb dX12_isTried_45 (by decide) (fun z => absurd (by decide) z) (fun _ => ?_)
          refine lv_iload_n hx hb dX12_isTried_48 rfl (lv_at hl 4 rfl) ?_
          refine lv_iload hx hb dX12_isTried_49 (lv_at hl 0 rfl) ?_
          refine va_calli (va_runS (As := [.int p0, .int v24]) (rest := []) ⟨hx, hb, hml, hown, hT⟩ (c_X12_isOf l D cs kK kV p0 v24) (va_cwS 2 hT (hz_gS q_1034 q_1035 q_701 q_1036) rfl rfl rfl (by decide +kernel) ⟨(Nat.le_of_ble_eq_true rfl), (Nat.le_of_ble_eq_true rfl)⟩) ⟨hz_P.blind, hz_P.mk (hP.sub (ws' := []) [] rfl) hE hS⟩ rfl rfl hl.1 rfl (lv_room (Nat.le_of_ble_eq_true rfl)) dX12_isTried_51 ⟨(Nat.le_of_ble_eq_true rfl), (Nat.le_of_ble_eq_true rfl)⟩) hS (fun _ _ h => h.elim) (fun _ h => h.elim) (fun r30 u t H1 locs ht hvm hw hB hz1 hk1 hS => ?_)
          have hP := hz_keep hP hk1
          clear hk1 hB hz1
          generalize H1 = H at hP hS ⊢
          rcases hw with ⟨rfl, x31⟩ | ⟨rfl, x32⟩
          · refine lv_if_ne (tgt := 68) hx hb dX12_isTried_54 (by decide) (fun z => absurd (by decide) z) (fun _ => ?_)
            refine lv_aload_n hx hb dX12_isTried_57 rfl (lv_at hl 3 rfl) ?_
            refine lv_iload_n hx hb dX12_isTried_58 rfl (lv_at hl 1 rfl) ?_
            refine lv_iload hx hb dX12_isTried_59 (lv_at hl 0 rfl) ?_
            refine va_calli (va_runV (As := [.int v15, .int v24]) (rest := []) ⟨hx, hb, hml, hown, hT⟩ (c_X12_fitTold l D cs kK kV a v15 v24 a_tape a__taped a__rules a_sign a_length a_clause a_clauses a_read a__next a__wrong a__number a__text a__made a__deep a__lines a_open a__opened a_stack a__top a_word a_said a__x a_worth a_mate a_wasSaid a__undone a__boughtNow a_wayBy a_wayThen a__walkMost a__walkGoing a__walkSet a_kept a__drawX a_images a_imageX a_isMade a_said_c h16 h25 h_a__taped h_a__rules h_a__next h_a__text h_a__made h_a__lines h_a__opened h_a__top h_a__x h_a__undone) (cwV 2 hT (hz_gV q_1116 q_1117 q_1118 q_701 q_1119) rfl rfl rfl (by decide +kernel) ⟨(Nat.le_of_ble_eq_true rfl), (Nat.le_of_ble_eq_true rfl)⟩) ⟨hz_P.blind, va_recv hK hP (ci := 12) (q0 := 1) rfl rfl, hz_P.mk (hP.sub (ws' := [(a, .inr (12, [.ref a_tape, .int a__taped, .int a__rules, .ref a_sign, .ref a_length, .ref a_clause, .ref a_clauses, .ref a_read, .int a__next, .int a__wrong, .int a__number, .int a__text, .int a__made, .int a__deep, .int a__lines, .ref a_open, .int a__opened, .ref a_stack, .int a__top, .ref a_word, .ref a_said, .int a__x, .ref a_worth, .ref a_mate, .ref a_wasSaid, .int a__undone, .int a__boughtNow, .ref a_wayBy, .ref a_wayThen, .int a__walkMost, .int a__walkGoing, .int a__walkSet, .ref a_kept, .long a__drawX, .ref a_images, .ref a_imageX, .ref a_isMade])), (a_said, .inl (cs 0, 123, .inl a_said_c))]) [1,0] rfl) hE hS⟩ rfl rfl hl.1 rfl (lv_room (Nat.le_of_ble_eq_true rfl)) dX12_isTried_61 ⟨(Nat.le_of_ble_eq_true rfl), (Nat.le_of_ble_eq_true rfl)⟩) hS (fun _ _ h => h.elim) (fun _ h => h.elim) (fun r33 u t H1 locs ht hvm hw hB hz1 hk1 hS => ?_)
            have hP := hz_keep hP hk1
            clear hk1 hB hz1
            generalize H1 = H at hP hS ⊢
            rcases hw with rfl | rfl | rfl
            · refine lv_iconst (v := 2) hx hb dX12_isTried_64 (by decide) ?_
              refine lv_icmp_ne (tgt := 72) hx hb dX12_isTried_65 (by decide) (fun _ => ?_) (fun z => absurd z (by decide))
              refine lv_iconst (v := 0) hx hb dX12_isTried_72 (by decide) ?_
              refine lv_istore (lv' := [(5, .int 0), (4, .int v24), (3, .int v15), (2, .int k2_L_2), (0, .ref a), (1, .int p0)]) hx hb dX12_isTried_73 hl (by decide) rfl (fun ls hl => ?_)
              refine lv_iload hx hb dX12_isTried_75 (lv_at hl 0 rfl) ?_
              refine lv_aload_n hx hb dX12_isTried_77 rfl (lv_at hl 4 rfl) ?_
              refine va_get (D := D) (ci := 12) (v := .ref a_said) (C := RX12) (T := TX12) (N := 37) hx hb hT i_X12 hown hK hP 1 rfl rfl 20 (by decide) (hT _ q_185) (fun _ h9 => h9) rfl dX12_isTried_78 ?_
              refine lv_bipush (v := 86) hx hb dX12_isTried_81 (by decide) ?_
              refine lv_iconst (v := 3) hx hb dX12_isTried_83 (by decide) ?_
              refine lv_iload_n hx hb dX12_isTried_84 rfl (lv_at hl 3 rfl) ?_
              refine lv_imul hx hb dX12_isTried_85 ?_
              refine lv_topi (fun v34 ev34 => ?_)
              have hv34 : IV 0 33 v34 := iv_mul ev34 (iv_c (a := 3) (b := 3) (by decide)) h7 (by decide) (by decide) (by decide) (by decide)
              have ii35 : 0 ≤ v34.toInt ∧ v34.toInt ≤ 33 := hv34
              have lv34 : v34.toInt = 3 * k2_L_2.toInt := lin_mul ev34 (iv_c (a := 3) (b := 3) (by decide)) h7 (by decide) rfl (by decide) (by decide) (by decide) (by decide)
              refine lv_iadd hx hb dX12_isTried_86 ?_
              refine lv_topi (fun v36 ev36 => ?_)
              have hv36 : IV 86 119 v36 := iv_add ev36 (iv_c (a := 86) (b := 86) (by decide)) hv34 (by decide) (by decide)
              have ii37 : 86 ≤ v36.toInt ∧ v36.toInt ≤ 119 := hv36
              have lv36 : v36.toInt = 86 + v34.toInt := lin_add ev36 (iv_c (a := 86) (b := 86) (by decide)) hv34 (by decide) rfl (by decide) (by decide)
              refine lv_iconst (v := 2) hx hb dX12_isTried_87 (by decide) ?_
              refine lv_iadd hx hb dX12_isTried_88 ?_
              refine lv_topi (fun v38 ev38 => ?_)
              have hv38 : IV 88 121 v38 := iv_add ev38 hv36 (iv_c (a := 2) (b := 2) (by decide)) (by decide) (by decide)
              have ii39 : 88 ≤ v38.toInt ∧ v38.toInt ≤ 121 := hv38
              have dv38 : v38.toInt = v36.toInt + 2 := iv_addE ev38 hv36 (iv_c (a := 2) (b := 2) (by decide)) (by decide) (by decide) (by decide)
              have lv38 : v38.toInt = v36.toInt + 2 := lin_add ev38 hv36 (iv_c (a := 2) (b := 2) (by decide)) rfl (by decide) (by decide) (by decide)
              refine va_iald hx hb hK hP 0 0 rfl rfl (iv_v hv38 (by decide) (by decide)) dX12_isTried_89 ?_
              refine lv_topi (fun v40 ev40 => ?_)
              have lv40 : v40.toInt = (a_said_c (Int32.toNatClampNeg v38)).toInt := by rw [ev40]
              refine lv_iconst (v := 1) hx hb dX12_isTried_90 (by decide) ?_
              refine lv_icmp_ne (tgt := 98) hx hb dX12_isTried_91 (by decide) (fun c41 => ?_) (fun c41 => ?_)
              · have t42 : v40.toInt ≠ 1 := lin_ne c41 rfl (by decide)
                refine lv_iconst (v := 0) hx hb dX12_isTried_98 (by decide) ?_
                refine lv_icmp_eq (tgt := 104) hx hb dX12_isTried_99 (by decide) (fun _ => ?_) (fun z => absurd (by decide) z)
                obtain ⟨v43, ev43⟩ : ∃ z : Int32, z = k2_L_2 + 1 := ⟨_, rfl⟩
                have hv43 : IV 1 12 v43 := iv_add ev43 h7 (iv_c (a := 1) (b := 1) (by decide)) (by decide) (by decide)
                have dv43 : v43.toInt = k2_L_2.toInt + 1 := iv_addE ev43 h7 (iv_c (a := 1) (b := 1) (by decide)) (by decide) (by decide) (by decide)
                refine lv_iinc (v := v43) (lv' := [(2, .int v43), (5, .int 0), (4, .int v24), (3, .int v15), (0, .ref a), (1, .int p0)]) hx hb dX12_isTried_104 hl (k := 3) rfl (by rw [ev43]; rfl) (by decide) rfl (fun ls hl => ?_)
                refine lv_goto (tgt := 2) hx hb dX12_isTried_107 (by decide) ?_
                exact ih2 v43 (by have h9 := hn; omega) (iv_w hv43 (by decide) (by decide)) H locs (hP.sub (ws' := [(a_said, .inl (cs 0, 123, .inl a_said_c)), (a, .inr (12, [.ref a_tape, .int a__taped, .int a__rules, .ref a_sign, .ref a_length, .ref a_clause, .ref a_clauses, .ref a_read, .int a__next, .int a__wrong, .int a__number, .int a__text, .int a__made, .int a__deep, .int a__lines, .ref a_open, .int a__opened, .ref a_stack, .int a__top, .ref a_word, .ref a_said, .int a__x, .ref a_worth, .ref a_mate, .ref a_wasSaid, .int a__undone, .int a__boughtNow, .ref a_wayBy, .ref a_wayThen, .int a__walkMost, .int a__walkGoing, .int a__walkSet, .ref a_kept, .long a__drawX, .ref a_images, .ref a_imageX, .ref a_isMade]))]) [0, 1] rfl) hS ls (lv_sub hl [0, 4, 5] rfl)
              · have t44 : v40.toInt = 1 := lin_eqN c41 rfl (by decide)
                have h45 : IV 1 1 v40 := iv_eq1 c41 iv_top (iv_c (a := 1) (b := 1) (by decide)) (by decide) (by decide)
                have ii46 : 1 ≤ v40.toInt ∧ v40.toInt ≤ 1 := h45
                refine lv_iconst (v := 1) hx hb dX12_isTried_94 (by decide) ?_
                refine lv_goto (tgt := 99) hx hb dX12_isTried_95 (by decide) ?_
                refine lv_icmp_eq (tgt := 104) hx hb dX12_isTried_99 (by decide) (fun z => absurd z (by decide)) (fun _ => ?_)
                refine lv_iconst (v := 0) hx hb dX12_isTried_102 (by decide) ?_
                exact W.zret (v := 0) hx hb hr rfl (fun t ht hW => ⟨⟨0, (), rfl, (Or.inl (rfl)), trivial⟩, hS.F ht⟩) hS.2.2 dX12_isTried_103
            · refine lv_iconst (v := 2) hx hb dX12_isTried_64 (by decide) ?_
              refine lv_icmp_ne (tgt := 72) hx hb dX12_isTried_65 (by decide) (fun _ => ?_) (fun z => absurd z (by decide))
              refine lv_iconst (v := 0) hx hb dX12_isTried_72 (by decide) ?_
              refine lv_istore (lv' := [(5, .int 0), (4, .int v24), (3, .int v15), (2, .int k2_L_2), (0, .ref a), (1, .int p0)]) hx hb dX12_isTried_73 hl (by decide) rfl (fun ls hl => ?_)
              refine lv_iload hx hb dX12_isTried_75 (lv_at hl 0 rfl) ?_
              refine lv_aload_n hx hb dX12_isTried_77 rfl (lv_at hl 4 rfl) ?_
              refine va_get (D := D) (ci := 12) (v := .ref a_said) (C := RX12) (T := TX12) (N := 37) hx hb hT i_X12 hown hK hP 1 rfl rfl 20 (by decide) (hT _ q_185) (fun _ h9 => h9) rfl dX12_isTried_78 ?_
              refine lv_bipush (v := 86) hx hb dX12_isTried_81 (by decide) ?_
              refine lv_iconst (v := 3) hx hb dX12_isTried_83 (by decide) ?_
              refine lv_iload_n hx hb dX12_isTried_84 rfl (lv_at hl 3 rfl) ?_
              refine lv_imul hx hb dX12_isTried_85 ?_
              refine lv_topi (fun v47 ev47 => ?_)
              have hv47 : IV 0 33 v47 := iv_mul ev47 (iv_c (a := 3) (b := 3) (by decide)) h7 (by decide) (by decide) (by decide) (by decide)
              have ii48 : 0 ≤ v47.toInt ∧ v47.toInt ≤ 33 := hv47
              have lv47 : v47.toInt = 3 * k2_L_2.toInt := lin_mul ev47 (iv_c (a := 3) (b := 3) (by decide)) h7 (by decide) rfl (by decide) (by decide) (by decide) (by decide)
              refine lv_iadd hx hb dX12_isTried_86 ?_
              refine lv_topi (fun v49 ev49 => ?_)
              have hv49 : IV 86 119 v49 := iv_add ev49 (iv_c (a := 86) (b := 86) (by decide)) hv47 (by decide) (by decide)
              have ii50 : 86 ≤ v49.toInt ∧ v49.toInt ≤ 119 := hv49
              have lv49 : v49.toInt = 86 + v47.toInt := lin_add ev49 (iv_c (a := 86) (b := 86) (by decide)) hv47 (by decide) rfl (by decide) (by decide)
              refine lv_iconst (v := 2) hx hb dX12_isTried_87 (by decide) ?_
              refine lv_iadd hx hb dX12_isTried_88 ?_
              refine lv_topi (fun v51 ev51 => ?_)
              have hv51 : IV 88 121 v51 := iv_add ev51 hv49 (iv_c (a := 2) (b := 2) (by decide)) (by decide) (by decide)
              have ii52 : 88 ≤ v51.toInt ∧ v51.toInt ≤ 121 := hv51
              have dv51 : v51.toInt = v49.toInt + 2 := iv_addE ev51 hv49 (iv_c (a := 2) (b := 2) (by decide)) (by decide) (by decide) (by decide)
              have lv51 : v51.toInt = v49.toInt + 2 := lin_add ev51 hv49 (iv_c (a := 2) (b := 2) (by decide)) rfl (by decide) (by decide) (by decide)
              refine va_iald hx hb hK hP 0 0 rfl rfl (iv_v hv51 (by decide) (by decide)) dX12_isTried_89 ?_
              refine lv_topi (fun v53 ev53 => ?_)
              have lv53 : v53.toInt = (a_said_c (Int32.toNatClampNeg v51)).toInt := by rw [ev53]
              refine lv_iconst (v := 1) hx hb dX12_isTried_90 (by decide) ?_
              refine lv_icmp_ne (tgt := 98) hx hb dX12_isTried_91 (by decide) (fun c54 => ?_) (fun c54 => ?_)
              · have t55 : v53.toInt ≠ 1 := lin_ne c54 rfl (by decide)
                refine lv_iconst (v := 0) hx hb dX12_isTried_98 (by decide) ?_
                refine lv_icmp_eq (tgt := 104) hx hb dX12_isTried_99 (by decide) (fun _ => ?_) (fun z => absurd (by decide) z)
                obtain ⟨v56, ev56⟩ : ∃ z : Int32, z = k2_L_2 + 1 := ⟨_, rfl⟩
                have hv56 : IV 1 12 v56 := iv_add ev56 h7 (iv_c (a := 1) (b := 1) (by decide)) (by decide) (by decide)
                have dv56 : v56.toInt = k2_L_2.toInt + 1 := iv_addE ev56 h7 (iv_c (a := 1) (b := 1) (by decide)) (by decide) (by decide) (by decide)
                refine lv_iinc (v := v56) (lv' := [(2, .int v56), (5, .int 0), (4, .int v24), (3, .int v15), (0, .ref a), (1, .int p0)]) hx hb dX12_isTried_104 hl (k := 3) rfl (by rw [ev56]; rfl) (by decide) rfl (fun ls hl => ?_)
                refine lv_goto (tgt := 2) hx hb dX12_isTried_107 (by decide) ?_
                exact ih2 v56 (by have h9 := hn; omega) (iv_w hv56 (by decide) (by decide)) H locs (hP.sub (ws' := [(a_said, .inl (cs 0, 123, .inl a_said_c)), (a, .inr (12, [.ref a_tape, .int a__taped, .int a__rules, .ref a_sign, .ref a_length, .ref a_clause, .ref a_clauses, .ref a_read, .int a__next, .int a__wrong, .int a__number, .int a__text, .int a__made, .int a__deep, .int a__lines, .ref a_open, .int a__opened, .ref a_stack, .int a__top, .ref a_word, .ref a_said, .int a__x, .ref a_worth, .ref a_mate, .ref a_wasSaid, .int a__undone, .int a__boughtNow, .ref a_wayBy, .ref a_wayThen, .int a__walkMost, .int a__walkGoing, .int a__walkSet, .ref a_kept, .long a__drawX, .ref a_images, .ref a_imageX, .ref a_isMade]))]) [0, 1] rfl) hS ls (lv_sub hl [0, 4, 5] rfl)
              · have t57 : v53.toInt = 1 := lin_eqN c54 rfl (by decide)
                have h58 : IV 1 1 v53 := iv_eq1 c54 iv_top (iv_c (a := 1) (b := 1) (by decide)) (by decide) (by decide)
                have ii59 : 1 ≤ v53.toInt ∧ v53.toInt ≤ 1 := h58
                refine lv_iconst (v := 1) hx hb dX12_isTried_94 (by decide) ?_
                refine lv_goto (tgt := 99) hx hb dX12_isTried_95 (by decide) ?_
                refine lv_icmp_eq (tgt := 104) hx hb dX12_isTried_99 (by decide) (fun z => absurd z (by decide)) (fun _ => ?_)
                refine lv_iconst (v := 0) hx hb dX12_isTried_102 (by decide) ?_
                exact W.zret (v := 0) hx hb hr rfl (fun t ht hW => ⟨⟨0, (), rfl, (Or.inl (rfl)), trivial⟩, hS.F ht⟩) hS.2.2 dX12_isTried_103
            · refine lv_iconst (v := 2) hx hb dX12_isTried_64 (by decide) ?_
              refine lv_icmp_ne (tgt := 72) hx hb dX12_isTried_65 (by decide) (fun z => absurd (by decide) z) (fun _ => ?_)
              refine lv_iconst (v := 1) hx hb dX12_isTried_68 (by decide) ?_
              refine lv_goto (tgt := 73) hx hb dX12_isTried_69 (by decide) ?_
              refine lv_istore (lv' := [(5, .int 1), (4, .int v24), (3, .int v15), (2, .int k2_L_2), (0, .ref a), (1, .int p0)]) hx hb dX12_isTried_73 hl (by decide) rfl (fun ls hl => ?_)
              refine lv_iload hx hb dX12_isTried_75 (lv_at hl 0 rfl) ?_
              refine lv_aload_n hx hb dX12_isTried_77 rfl (lv_at hl 4 rfl) ?_
              refine va_get (D := D) (ci := 12) (v := .ref a_said) (C := RX12) (T := TX12) (N := 37) hx hb hT i_X12 hown hK hP 1 rfl rfl 20 (by decide) (hT _ q_185) (fun _ h9 => h9) rfl dX12_isTried_78 ?_
              refine lv_bipush (v := 86) hx hb dX12_isTried_81 (by decide) ?_
              refine lv_iconst (v := 3) hx hb dX12_isTried_83 (by decide) ?_
              refine lv_iload_n hx hb dX12_isTried_84 rfl (lv_at hl 3 rfl) ?_
              refine lv_imul hx hb dX12_isTried_85 ?_
              refine lv_topi (fun v60 ev60 => ?_)
              have hv60 : IV 0 33 v60 := iv_mul ev60 (iv_c (a := 3) (b := 3) (by decide)) h7 (by decide) (by decide) (by decide) (by decide)
              have ii61 : 0 ≤ v60.toInt ∧ v60.toInt ≤ 33 := hv60
              have lv60 : v60.toInt = 3 * k2_L_2.toInt := lin_mul ev60 (iv_c (a := 3) (b := 3) (by decide)) h7 (by decide) rfl (by decide) (by decide) (by decide) (by decide)
              refine lv_iadd hx hb dX12_isTried_86 ?_
              refine lv_topi (fun v62 ev62 => ?_)
              have hv62 : IV 86 119 v62 := iv_add ev62 (iv_c (a := 86) (b := 86) (by decide)) hv60 (by decide) (by decide)
              have ii63 : 86 ≤ v62.toInt ∧ v62.toInt ≤ 119 := hv62
              have lv62 : v62.toInt = 86 + v60.toInt := lin_add ev62 (iv_c (a := 86) (b := 86) (by decide)) hv60 (by decide) rfl (by decide) (by decide)
              refine lv_iconst (v := 2) hx hb dX12_isTried_87 (by decide) ?_
              refine lv_iadd hx hb dX12_isTried_88 ?_
              refine lv_topi (fun v64 ev64 => ?_)
              have hv64 : IV 88 121 v64 := iv_add ev64 hv62 (iv_c (a := 2) (b := 2) (by decide)) (by decide) (by decide)
              have ii65 : 88 ≤ v64.toInt ∧ v64.toInt ≤ 121 := hv64
              have dv64 : v64.toInt = v62.toInt + 2 := iv_addE ev64 hv62 (iv_c (a := 2) (b := 2) (by decide)) (by decide) (by decide) (by decide)
              have lv64 : v64.toInt = v62.toInt + 2 := lin_add ev64 hv62 (iv_c (a := 2) (b := 2) (by decide)) rfl (by decide) (by decide) (by decide)
              refine va_iald hx hb hK hP 0 0 rfl rfl (iv_v hv64 (by decide) (by decide)) dX12_isTried_89 ?_
              refine lv_topi (fun v66 ev66 => ?_)
              have lv66 : v66.toInt = (a_said_c (Int32.toNatClampNeg v64)).toInt := by rw [ev66]
              refine lv_iconst (v := 1) hx hb dX12_isTried_90 (by decide) ?_
              refine lv_icmp_ne (tgt := 98) hx hb dX12_isTried_91 (by decide) (fun c67 => ?_) (fun c67 => ?_)
              · have t68 : v66.toInt ≠ 1 := lin_ne c67 rfl (by decide)
                refine lv_iconst (v := 0) hx hb dX12_isTried_98 (by decide) ?_
                refine lv_icmp_eq (tgt := 104) hx hb dX12_isTried_99 (by decide) (fun z => absurd z (by decide)) (fun _ => ?_)
                refine lv_iconst (v := 0) hx hb dX12_isTried_102 (by decide) ?_
                exact W.zret (v := 0) hx hb hr rfl (fun t ht hW => ⟨⟨0, (), rfl, (Or.inl (rfl)), trivial⟩, hS.F ht⟩) hS.2.2 dX12_isTried_103
              · have t69 : v66.toInt = 1 := lin_eqN c67 rfl (by decide)
                have h70 : IV 1 1 v66 := iv_eq1 c67 iv_top (iv_c (a := 1) (b := 1) (by decide)) (by decide) (by decide)
                have ii71 : 1 ≤ v66.toInt ∧ v66.toInt ≤ 1 := h70
                refine lv_iconst (v := 1) hx hb dX12_isTried_94 (by decide) ?_
                refine lv_goto (tgt := 99) hx hb dX12_isTried_95 (by decide) ?_
                refine lv_icmp_eq (tgt := 104) hx hb dX12_isTried_99 (by decide) (fun _ => ?_) (fun z => absurd (by decide) z)
                obtain ⟨v72, ev72⟩ : ∃ z : Int32, z = k2_L_2 + 1 := ⟨_, rfl⟩
                have hv72 : IV 1 12 v72 := iv_add ev72 h7 (iv_c (a := 1) (b := 1) (by decide)) (by decide) (by decide)
                have dv72 : v72.toInt = k2_L_2.toInt + 1 := iv_addE ev72 h7 (iv_c (a := 1) (b := 1) (by decide)) (by decide) (by decide) (by decide)
                refine lv_iinc (v := v72) (lv' := [(2, .int v72), (5, .int 1), (4, .int v24), (3, .int v15), (0, .ref a), (1, .int p0)]) hx hb dX12_isTried_104 hl (k := 3) rfl (by rw [ev72]; rfl) (by decide) rfl (fun ls hl => ?_)
                refine lv_goto (tgt := 2) hx hb dX12_isTried_107 (by decide) ?_
                exact ih2 v72 (by have h9 := hn; omega) (iv_w hv72 (by decide) (by decide)) H locs (hP.sub (ws' := [(a_said, .inl (cs 0, 123, .inl a_said_c)), (a, .inr (12, [.ref a_tape, .int a__taped, .int a__rules, .ref a_sign, .ref a_length, .ref a_clause, .ref a_clauses, .ref a_read, .int a__next, .int a__wrong, .int a__number, .int a__text, .int a__made, .int a__deep, .int a__lines, .ref a_open, .int a__opened, .ref a_stack, .int a__top, .ref a_word, .ref a_said, .int a__x, .ref a_worth, .ref a_mate, .ref a_wasSaid, .int a__undone, .int a__boughtNow, .ref a_wayBy, .ref a_wayThen, .int a__walkMost, .int a__walkGoing, .int a__walkSet, .ref a_kept, .long a__drawX, .ref a_images, .ref a_imageX, .ref a_isMade]))]) [0, 1] rfl) hS ls (lv_sub hl [0, 4, 5] rfl)
          · refine lv_if_ne (tgt := 68) hx hb dX12_isTried_54 (by decide) (fun _ => ?_) (fun z => absurd z (by decide))
            refine lv_iconst (v := 1) hx hb dX12_isTried_68 (by decide) ?_
            refine lv_goto (tgt := 73) hx hb dX12_isTried_69 (by decide) ?_
            refine lv_istore (lv' := [(5, .int 1), (4, .int v24), (3, .int v15), (2, .int k2_L_2), (0, .ref a), (1, .int p0)]) hx hb dX12_isTried_73 hl (by decide) rfl (fun ls hl => ?_)
            refine lv_iload hx hb dX12_isTried_75 (lv_at hl 0 rfl) ?_
            refine lv_aload_n hx hb dX12_isTried_77 rfl (lv_at hl 4 rfl) ?_
            refine va_get (D := D) (ci := 12) (v := .ref a_said) (C := RX12) (T := TX12) (N := 37) hx hb hT i_X12 hown hK hP 1 rfl rfl 20 (by decide) (hT _ q_185) (fun _ h9 => h9) rfl dX12_isTried_78 ?_
            refine lv_bipush (v := 86) hx hb dX12_isTried_81 (by decide) ?_
            refine lv_iconst (v := 3) hx hb dX12_isTried_83 (by decide) ?_
            refine lv_iload_n hx hb dX12_isTried_84 rfl (lv_at hl 3 rfl) ?_
            refine lv_imul hx hb dX12_isTried_85 ?_
            refine lv_topi (fun v73 ev73 => ?_)
            have hv73 : IV 0 33 v73 := iv_mul ev73 (iv_c (a := 3) (b := 3) (by decide)) h7 (by decide) (by decide) (by decide) (by decide)
            have ii74 : 0 ≤ v73.toInt ∧ v73.toInt ≤ 33 := hv73
            have lv73 : v73.toInt = 3 * k2_L_2.toInt := lin_mul ev73 (iv_c (a := 3) (b := 3) (by decide)) h7 (by decide) rfl (by decide) (by decide) (by decide) (by decide)
            refine lv_iadd hx hb dX12_isTried_86 ?_
            refine lv_topi (fun v75 ev75 => ?_)
            have hv75 : IV 86 119 v75 := iv_add ev75 (iv_c (a := 86) (b := 86) (by decide)) hv73 (by decide) (by decide)
            have ii76 : 86 ≤ v75.toInt ∧ v75.toInt ≤ 119 := hv75
            have lv75 : v75.toInt = 86 + v73.toInt := lin_add ev75 (iv_c (a := 86) (b := 86) (by decide)) hv73 (by decide) rfl (by decide) (by decide)
            refine lv_iconst (v := 2) hx hb dX12_isTried_87 (by decide) ?_
            refine lv_iadd hx hb dX12_isTried_88 ?_
            refine lv_topi (fun v77 ev77 => ?_)
            have hv77 : IV 88 121 v77 := iv_add ev77 hv75 (iv_c (a := 2) (b := 2) (by decide)) (by decide) (by decide)
            have ii78 : 88 ≤ v77.toInt ∧ v77.toInt ≤ 121 := hv77
            have dv77 : v77.toInt = v75.toInt + 2 := iv_addE ev77 hv75 (iv_c (a := 2) (b := 2) (by decide)) (by decide) (by decide) (by decide)
            have lv77 : v77.toInt = v75.toInt + 2 := lin_add ev77 hv75 (iv_c (a := 2) (b := 2) (by decide)) rfl (by decide) (by decide) (by decide)
            refine va_iald hx hb hK hP 0 0 rfl rfl (iv_v hv77 (by decide) (by decide)) dX12_isTried_89 ?_
            refine lv_topi (fun v79 ev79 => ?_)
            have lv79 : v79.toInt = (a_said_c (Int32.toNatClampNeg v77)).toInt := by rw [ev79]
            refine lv_iconst (v := 1) hx hb dX12_isTried_90 (by decide) ?_
            refine lv_icmp_ne (tgt := 98) hx hb dX12_isTried_91 (by decide) (fun c80 => ?_) (fun c80 => ?_)
            · have t81 : v79.toInt ≠ 1 := lin_ne c80 rfl (by decide)
              refine lv_iconst (v := 0) hx hb dX12_isTried_98 (by decide) ?_
              refine lv_icmp_eq (tgt := 104) hx hb dX12_isTried_99 (by decide) (fun z => absurd z (by decide)) (fun _ => ?_)
              refine lv_iconst (v := 0) hx hb dX12_isTried_102 (by decide) ?_
              exact W.zret (v := 0) hx hb hr rfl (fun t ht hW => ⟨⟨0, (), rfl, (Or.inl (rfl)), trivial⟩, hS.F ht⟩) hS.2.2 dX12_isTried_103
            · have t82 : v79.toInt = 1 := lin_eqN c80 rfl (by decide)
              have h83 : IV 1 1 v79 := iv_eq1 c80 iv_top (iv_c (a := 1) (b := 1) (by decide)) (by decide) (by decide)
              have ii84 : 1 ≤ v79.toInt ∧ v79.toInt ≤ 1 := h83
              refine lv_iconst (v := 1) hx hb dX12_isTried_94 (by decide) ?_
              refine lv_goto (tgt := 99) hx hb dX12_isTried_95 (by decide) ?_
              refine lv_icmp_eq (tgt := 104) hx hb dX12_isTried_99 (by decide) (fun _ => ?_) (fun z => absurd (by decide) z)
              obtain ⟨v85, ev85⟩ : ∃ z : Int32, z = k2_L_2 + 1 := ⟨_, rfl⟩
              have hv85 : IV 1 12 v85 := iv_add ev85 h7 (iv_c (a := 1) (b := 1) (by decide)) (by decide) (by decide)
              have dv85 : v85.toInt = k2_L_2.toInt + 1 := iv_addE ev85 h7 (iv_c (a := 1) (b := 1) (by decide)) (by decide) (by decide) (by decide)
              refine lv_iinc (v := v85) (lv' := [(2, .int v85), (5, .int 1), (4, .int v24), (3, .int v15), (0, .ref a), (1, .int p0)]) hx hb dX12_isTried_104 hl (k := 3) rfl (by rw [ev85]; rfl) (by decide) rfl (fun ls hl => ?_)
              refine lv_goto (tgt := 2) hx hb dX12_isTried_107 (by decide) ?_
              exact ih2 v85 (by have h9 := hn; omega) (iv_w hv85 (by decide) (by decide)) H locs (hP.sub (ws' := [(a_said, .inl (cs 0, 123, .inl a_said_c)), (a, .inr (12, [.ref a_tape, .int a__taped, .int a__rules, .ref a_sign, .ref a_length, .ref a_clause, .ref a_clauses, .ref a_read, .int a__next, .int a__wrong, .int a__number, .int a__text, .int a__made, .int a__deep, .int a__lines, .ref a_open, .int a__opened, .ref a_stack, .int a__top, .ref a_word, .ref a_said, .int a__x, .ref a_worth, .ref a_mate, .ref a_wasSaid, .int a__undone, .int a__boughtNow, .ref a_wayBy, .ref a_wayThen, .int a__walkMost, .int a__walkGoing, .int a__walkSet, .ref a_kept, .long a__drawX, .ref a_images, .ref a_imageX, .ref a_isMade]))]) [0, 1] rfl) hS ls (lv_sub hl [0, 4, 5] rfl)
        · refine lv_if_ne (tgt := 68) hx hb dX12_isTried_45 (by decide) (fun _ => ?_) (fun z => absurd z (by decide))
          refine lv_iconst (v := 1) hx hb dX12_isTried_68 (by decide) ?_
          refine lv_goto (tgt := 73) hx hb dX12_isTried_69 (by decide) ?_
          refine lv_istore (lv' := [(5, .int 1), (4, .int v24), (3, .int v15), (2, .int k2_L_2), (0, .ref a), (1, .int p0)]) hx hb dX12_isTried_73 hl (by decide) rfl (fun ls hl => ?_)
          refine lv_iload hx hb dX12_isTried_75 (lv_at hl 0 rfl) ?_
          refine lv_aload_n hx hb dX12_isTried_77 rfl (lv_at hl 4 rfl) ?_
          refine va_get (D := D) (ci := 12) (v := .ref a_said) (C := RX12) (T := TX12) (N := 37) hx hb hT i_X12 hown hK hP 1 rfl rfl 20 (by decide) (hT _ q_185) (fun _ h9 => h9) rfl dX12_isTried_78 ?_
          refine lv_bipush (v := 86) hx hb dX12_isTried_81 (by decide) ?_
          refine lv_iconst (v := 3) hx hb dX12_isTried_83 (by decide) ?_
          refine lv_iload_n hx hb dX12_isTried_84 rfl (lv_at hl 3 rfl) ?_
          refine lv_imul hx hb dX12_isTried_85 ?_
          refine lv_topi (fun v86 ev86 => ?_)
          have hv86 : IV 0 33 v86 := iv_mul ev86 (iv_c (a := 3) (b := 3) (by decide)) h7 (by decide) (by decide) (by decide) (by decide)
          have ii87 : 0 ≤ v86.toInt ∧ v86.toInt ≤ 33 := hv86
          have lv86 : v86.toInt = 3 * k2_L_2.toInt := lin_mul ev86 (iv_c (a := 3) (b := 3) (by decide)) h7 (by decide) rfl (by decide) (by decide) (by decide) (by decide)
          refine lv_iadd hx hb dX12_isTried_86 ?_
          refine lv_topi (fun v88 ev88 => ?_)
          have hv88 : IV 86 119 v88 := iv_add ev88 (iv_c (a := 86) (b := 86) (by decide)) hv86 (by decide) (by decide)
          have ii89 : 86 ≤ v88.toInt ∧ v88.toInt ≤ 119 := hv88
          have lv88 : v88.toInt = 86 + v86.toInt := lin_add ev88 (iv_c (a := 86) (b := 86) (by decide)) hv86 (by decide) rfl (by decide) (by decide)
          refine lv_iconst (v := 2) hx hb dX12_isTried_87 (by decide) ?_
          refine lv_iadd hx hb dX12_isTried_88 ?_
          refine lv_topi (fun v90 ev90 => ?_)
          have hv90 : IV 88 121 v90 := iv_add ev90 hv88 (iv_c (a := 2) (b := 2) (by decide)) (by decide) (by decide)
          have ii91 : 88 ≤ v90.toInt ∧ v90.toInt ≤ 121 := hv90
          have dv90 : v90.toInt = v88.toInt + 2 := iv_addE ev90 hv88 (iv_c (a := 2) (b := 2) (by decide)) (by decide) (by decide) (by decide)
          have lv90 : v90.toInt = v88.toInt + 2 := lin_add ev90 hv88 (iv_c (a := 2) (b := 2) (by decide)) rfl (by decide) (by decide) (by decide)
          refine va_iald hx hb hK hP 0 0 rfl rfl (iv_v hv90 (by decide) (by decide)) dX12_isTried_89 ?_
          refine lv_topi (fun v92 ev92 => ?_)
          have lv92 : v92.toInt = (a_said_c (Int32.toNatClampNeg v90)).toInt := by rw [ev92]
          refine lv_iconst (v := 1) hx hb dX12_isTried_90 (by decide) ?_
          refine lv_icmp_ne (tgt := 98) hx hb dX12_isTried_91 (by decide) (fun c93 => ?_) (fun c93 => ?_)
          · have t94 : v92.toInt ≠ 1 := lin_ne c93 rfl (by decide)
            refine lv_iconst (v := 0) hx hb dX12_isTried_98 (by decide) ?_
            refine lv_icmp_eq (tgt := 104) hx hb dX12_isTried_99 (by decide) (fun z => absurd z (by decide)) (fun _ => ?_)
            refine lv_iconst (v := 0) hx hb dX12_isTried_102 (by decide) ?_
            exact W.zret (v := 0) hx hb hr rfl (fun t ht hW => ⟨⟨0, (), rfl, (Or.inl (rfl)), trivial⟩, hS.F ht⟩) hS.2.2 dX12_isTried_103
          · have t95 : v92.toInt = 1 := lin_eqN c93 rfl (by decide)
            have h96 : IV 1 1 v92 := iv_eq1 c93 iv_top (iv_c (a := 1) (b := 1) (by decide)) (by decide) (by decide)
            have ii97 : 1 ≤ v92.toInt ∧ v92.toInt ≤ 1 := h96
            refine lv_iconst (v := 1) hx hb dX12_isTried_94 (by decide) ?_
            refine lv_goto (tgt := 99) hx hb dX12_isTried_95 (by decide) ?_
            refine lv_icmp_eq (tgt := 104) hx hb dX12_isTried_99 (by decide) (fun _ => ?_) (fun z => absurd (by decide) z)
            obtain ⟨v98, ev98⟩ : ∃ z : Int32, z = k2_L_2 + 1 := ⟨_, rfl⟩
            have hv98 : IV 1 12 v98 := iv_add ev98 h7 (iv_c (a := 1) (b := 1) (by decide)) (by decide) (by decide)
            have dv98 : v98.toInt = k2_L_2.toInt + 1 := iv_addE ev98 h7 (iv_c (a := 1) (b := 1) (by decide)) (by decide) (by decide) (by decide)
            refine lv_iinc (v := v98) (lv' := [(2, .int v98), (5, .int 1), (4, .int v24), (3, .int v15), (0, .ref a), (1, .int p0)]) hx hb dX12_isTried_104 hl (k := 3) rfl (by rw [ev98]; rfl) (by decide) rfl (fun ls hl => ?_)
            refine lv_goto (tgt := 2) hx hb dX12_isTried_107 (by decide) ?_
            exact ih2 v98 (by have h9 := hn; omega) (iv_w hv98 (by decide) (by decide)) H locs (hP.sub (ws' := [(a_said, .inl (cs 0, 123, .inl a_said_c)), (a, .inr (12, [.ref a_tape, .int a__taped, .int a__rules, .ref a_sign, .ref a_length, .ref a_clause, .ref a_clauses, .ref a_read, .int a__next, .int a__wrong, .int a__number, .int a__text, .int a__made, .int a__deep, .int a__lines, .ref a_open, .int a__opened, .ref a_stack, .int a__top, .ref a_word, .ref a_said, .int a__x, .ref a_worth, .ref a_mate, .ref a_wasSaid, .int a__undone, .int a__boughtNow, .ref a_wayBy, .ref a_wayThen, .int a__walkMost, .int a__walkGoing, .int a__walkSet, .ref a_kept, .long a__drawX, .ref a_images, .ref a_imageX, .ref a_isMade]))]) [0, 1] rfl) hS ls (lv_sub hl [0, 4, 5] rfl)
  refine lv_iconst (v := 0) hx hb dX12_isTried_0 (by decide) ?_
  refine lv_istore_n (lv' := [(2, .int 0), (0, .ref a), (1, .int p0)]) hx hb dX12_isTried_1 rfl hl (by decide) rfl (fun ls hl => ?_)
  exact K2 _ ((0 : Int32)) (Nat.le_refl _) (iv_c (by decide)) H locs (hP.sub (ws' := [(a_said, .inl (cs 0, 123, .inl a_said_c)), (a, .inr (12, [.ref a_tape, .int a__taped, .int a__rules, .ref a_sign, .ref a_length, .ref a_clause, .ref a_clauses, .ref a_read, .int a__next, .int a__wrong, .int a__number, .int a__text, .int a__made, .int a__deep, .int a__lines, .ref a_open, .int a__opened, .ref a_stack, .int a__top, .ref a_word, .ref a_said, .int a__x, .ref a_worth, .ref a_mate, .ref a_wasSaid, .int a__undone, .int a__boughtNow, .ref a_wayBy, .ref a_wayThen, .int a__walkMost, .int a__walkGoing, .int a__walkSet, .ref a_kept, .long a__drawX, .ref a_images, .ref a_imageX, .ref a_isMade]))]) [0, 1] rfl) hS ls (lv_sub hl [0, 1, 2] rfl)
theorem dX12_forgers_0 : decode cX12_forgers 0 = .ok (.aload_n 0, 1) := by decide +kernel
theorem dX12_forgers_1 : decode cX12_forgers 1 = .ok (.invokevirtual 329, 3) := by decide +kernel
theorem dX12_forgers_4 : decode cX12_forgers 4 = .ok (.ifCond .eq 13, 3) := by decide +kernel
theorem dX12_forgers_7 : decode cX12_forgers 7 = .ok (.iload_n 1, 1) := by decide +kernel
theorem dX12_forgers_8 : decode cX12_forgers 8 = .ok (.i2l, 1) := by decide +kernel
theorem dX12_forgers_9 : decode cX12_forgers 9 = .ok (.lconst 0, 1) := by decide +kernel
theorem dX12_forgers_10 : decode cX12_forgers 10 = .ok (.lconst 1, 1) := by decide +kernel
theorem dX12_forgers_11 : decode cX12_forgers 11 = .ok (.invokestatic 109, 3) := by decide +kernel
theorem dX12_forgers_14 : decode cX12_forgers 14 = .ok (.ifCond .ne 5, 3) := by decide +kernel
theorem dX12_forgers_17 : decode cX12_forgers 17 = .ok (.iconst (-1), 1) := by decide +kernel
theorem dX12_forgers_18 : decode cX12_forgers 18 = .ok (.ireturn, 1) := by decide +kernel
theorem dX12_forgers_19 : decode cX12_forgers 19 = .ok (.bipush (-2), 2) := by decide +kernel
theorem dX12_forgers_21 : decode cX12_forgers 21 = .ok (.istore_n 2, 1) := by decide +kernel
theorem dX12_forgers_22 : decode cX12_forgers 22 = .ok (.iconst 0, 1) := by decide +kernel
theorem dX12_forgers_23 : decode cX12_forgers 23 = .ok (.istore_n 3, 1) := by decide +kernel
theorem dX12_forgers_24 : decode cX12_forgers 24 = .ok (.iconst 0, 1) := by decide +kernel
theorem dX12_forgers_25 : decode cX12_forgers 25 = .ok (.istore 4, 2) := by decide +kernel
theorem dX12_forgers_27 : decode cX12_forgers 27 = .ok (.iload 4, 2) := by decide +kernel
theorem dX12_forgers_29 : decode cX12_forgers 29 = .ok (.iconst 1, 1) := by decide +kernel
theorem dX12_forgers_30 : decode cX12_forgers 30 = .ok (.aload_n 0, 1) := by decide +kernel
theorem dX12_forgers_31 : decode cX12_forgers 31 = .ok (.getfield 39, 3) := by decide +kernel
theorem dX12_forgers_34 : decode cX12_forgers 34 = .ok (.iconst 1, 1) := by decide +kernel
theorem dX12_forgers_35 : decode cX12_forgers 35 = .ok (.iaload, 1) := by decide +kernel
theorem dX12_forgers_36 : decode cX12_forgers 36 = .ok (.ishl, 1) := by decide +kernel
theorem dX12_forgers_37 : decode cX12_forgers 37 = .ok (.if_icmp .ge 63, 3) := by decide +kernel
theorem dX12_forgers_40 : decode cX12_forgers 40 = .ok (.iload_n 2, 1) := by decide +kernel
theorem dX12_forgers_41 : decode cX12_forgers 41 = .ok (.ifCond .lt 15, 3) := by decide +kernel
theorem dX12_forgers_44 : decode cX12_forgers 44 = .ok (.iload 4, 2) := by decide +kernel
theorem dX12_forgers_46 : decode cX12_forgers 46 = .ok (.invokestatic 374, 3) := by decide +kernel
theorem dX12_forgers_49 : decode cX12_forgers 49 = .ok (.iload_n 2, 1) := by decide +kernel
theorem dX12_forgers_50 : decode cX12_forgers 50 = .ok (.invokestatic 374, 3) := by decide +kernel
theorem dX12_forgers_53 : decode cX12_forgers 53 = .ok (.if_icmp .gt 41, 3) := by decide +kernel
theorem dX12_forgers_56 : decode cX12_forgers 56 = .ok (.aload_n 0, 1) := by decide +kernel
theorem dX12_forgers_57 : decode cX12_forgers 57 = .ok (.iload 4, 2) := by decide +kernel
theorem dX12_forgers_59 : decode cX12_forgers 59 = .ok (.invokevirtual 476, 3) := by decide +kernel
theorem dX12_forgers_62 : decode cX12_forgers 62 = .ok (.ifCond .ne 6, 3) := by decide +kernel
theorem dX12_forgers_65 : decode cX12_forgers 65 = .ok (.goto 29, 3) := by decide +kernel
theorem dX12_forgers_68 : decode cX12_forgers 68 = .ok (.iload_n 2, 1) := by decide +kernel
theorem dX12_forgers_69 : decode cX12_forgers 69 = .ok (.ifCond .lt 15, 3) := by decide +kernel
theorem dX12_forgers_72 : decode cX12_forgers 72 = .ok (.iload 4, 2) := by decide +kernel
theorem dX12_forgers_74 : decode cX12_forgers 74 = .ok (.invokestatic 374, 3) := by decide +kernel
theorem dX12_forgers_77 : decode cX12_forgers 77 = .ok (.iload_n 2, 1) := by decide +kernel
theorem dX12_forgers_78 : decode cX12_forgers 78 = .ok (.invokestatic 374, 3) := by decide +kernel
theorem dX12_forgers_81 : decode cX12_forgers 81 = .ok (.if_icmp .ge 8, 3) := by decide +kernel
theorem dX12_forgers_84 : decode cX12_forgers 84 = .ok (.iload 4, 2) := by decide +kernel
theorem dX12_forgers_86 : decode cX12_forgers 86 = .ok (.istore_n 2, 1) := by decide +kernel
theorem dX12_forgers_87 : decode cX12_forgers 87 = .ok (.iconst 0, 1) := by decide +kernel
theorem dX12_forgers_88 : decode cX12_forgers 88 = .ok (.istore_n 3, 1) := by decide +kernel
theorem dX12_forgers_89 : decode cX12_forgers 89 = .ok (.iload_n 3, 1) := by decide +kernel
theorem dX12_forgers_90 : decode cX12_forgers 90 = .ok (.iload 4, 2) := by decide +kernel
theorem dX12_forgers_92 : decode cX12_forgers 92 = .ok (.ior, 1) := by decide +kernel
theorem dX12_forgers_93 : decode cX12_forgers 93 = .ok (.istore_n 3, 1) := by decide +kernel
theorem dX12_forgers_94 : decode cX12_forgers 94 = .ok (.iinc 4 1, 3) := by decide +kernel
theorem dX12_forgers_97 : decode cX12_forgers 97 = .ok (.goto (-70), 3) := by decide +kernel
theorem dX12_forgers_100 : decode cX12_forgers 100 = .ok (.iload_n 1, 1) := by decide +kernel
theorem dX12_forgers_101 : decode cX12_forgers 101 = .ok (.ifCond .ne 7, 3) := by decide +kernel
theorem dX12_forgers_104 : decode cX12_forgers 104 = .ok (.iload_n 2, 1) := by decide +kernel
theorem dX12_forgers_105 : decode cX12_forgers 105 = .ok (.goto 25, 3) := by decide +kernel
theorem dX12_forgers_108 : decode cX12_forgers 108 = .ok (.iload_n 2, 1) := by decide +kernel
theorem dX12_forgers_109 : decode cX12_forgers 109 = .ok (.ifCond .ge 7, 3) := by decide +kernel
theorem dX12_forgers_112 : decode cX12_forgers 112 = .ok (.iconst 0, 1) := by decide +kernel
theorem dX12_forgers_113 : decode cX12_forgers 113 = .ok (.goto 17, 3) := by decide +kernel
theorem dX12_forgers_116 : decode cX12_forgers 116 = .ok (.iconst 1, 1) := by decide +kernel
theorem dX12_forgers_117 : decode cX12_forgers 117 = .ok (.aload_n 0, 1) := by decide +kernel
theorem dX12_forgers_118 : decode cX12_forgers 118 = .ok (.getfield 39, 3) := by decide +kernel
theorem dX12_forgers_121 : decode cX12_forgers 121 = .ok (.iconst 1, 1) := by decide +kernel
theorem dX12_forgers_122 : decode cX12_forgers 122 = .ok (.iaload, 1) := by decide +kernel
theorem dX12_forgers_123 : decode cX12_forgers 123 = .ok (.ishl, 1) := by decide +kernel
theorem dX12_forgers_124 : decode cX12_forgers 124 = .ok (.iconst 1, 1) := by decide +kernel
theorem dX12_forgers_125 : decode cX12_forgers 125 = .ok (.isub, 1) := by decide +kernel
theorem dX12_forgers_126 : decode cX12_forgers 126 = .ok (.iload_n 3, 1) := by decide +kernel
theorem dX12_forgers_127 : decode cX12_forgers 127 = .ok (.iconst (-1), 1) := by decide +kernel
theorem dX12_forgers_128 : decode cX12_forgers 128 = .ok (.ixor, 1) := by decide +kernel
theorem dX12_forgers_129 : decode cX12_forgers 129 = .ok (.iand, 1) := by decide +kernel
theorem dX12_forgers_130 : decode cX12_forgers 130 = .ok (.ireturn, 1) := by decide +kernel
set_option maxHeartbeats 4000000 in
set_option maxRecDepth 100000 in
theorem c_X12_forgers (l : Launch) (D : va_G) (cs : Nat → ClassId) (kK kV : Nat → Nat) (a : Nat) (p0 : Int32) (a_said : Nat) (a_said_c : Nat → Int32) (a_tape : Nat) (a__taped : Int32) (a__rules : Int32) (a_sign : Nat) (a_length : Nat) (a_clause : Nat) (a_clauses : Nat) (a_read : Nat) (a__next : Int32) (a__wrong : Int32) (a__number : Int32) (a__text : Int32) (a__made : Int32) (a__deep : Int32) (a__lines : Int32) (a_open : Nat) (a__opened : Int32) (a_stack : Nat) (a__top : Int32) (a_word : Nat) (a__x : Int32) (a_worth : Nat) (a_mate : Nat) (a_wasSaid : Nat) (a__undone : Int32) (a__boughtNow : Int32) (a_wayBy : Nat) (a_wayThen : Nat) (a__walkMost : Int32) (a__walkGoing : Int32) (a__walkSet : Int32) (a_kept : Nat) (a__drawX : Int64) (a_images : Nat) (a_imageX : Nat) (a_isMade : Nat) (h_a__taped : IV 0 400 a__taped) (h_a__rules : IV 0 6 a__rules) (h_a__next : IV 0 400 a__next) (h_a__text : IV 0 6 a__text) (h_a__made : IV 0 60 a__made) (h_a__lines : IV 0 40 a__lines) (h_a__opened : IV 0 400 a__opened) (h_a__top : IV 0 64 a__top) (h_a__x : IV 0 2147483647 a__x) (h_a__undone : IV 0 20 a__undone) (hf0 : BS a_said_c 200) (hf1 : TR a_said_c) : Met l yX12_forgers (hz_w yX12_forgers cX12_forgers 5 (some .int)) ({ frames := 3, cells := 0, slots := 0, locals := 70 }) (va_Pc [.ref a, .int p0] (hz_P D cs kK kV [(a_said, .inl (cs 0, 123, .inl a_said_c)), (a, .inr (12, [.ref a_tape, .int a__taped, .int a__rules, .ref a_sign, .ref a_length, .ref a_clause, .ref a_clauses, .ref a_read, .int a__next, .int a__wrong, .int a__number, .int a__text, .int a__made, .int a__deep, .int a__lines, .ref a_open, .int a__opened, .ref a_stack, .int a__top, .ref a_word, .ref a_said, .int a__x, .ref a_worth, .ref a_mate, .ref a_wasSaid, .int a__undone, .int a__boughtNow, .ref a_wayBy, .ref a_wayThen, .int a__walkMost, .int a__walkGoing, .int a__walkSet, .ref a_kept, .long a__drawX, .ref a_images, .ref a_imageX, .ref a_isMade]))])) (va_Qi (fun (r : Int32) (_ : Unit) => (r = (-1)) ∨ (r = 0 ∧ IV 1 1 p0) ∨ (IV (-2) 4095 r ∧ IV 0 1 p0)) (fun _ t => True) (fun _ => False)) 0 0 (fun _ => False) := by
  refine Met.ofW (cc := cX12_forgers) (maxL := 5) (ret := (some .int)) (by decide) rfl ?_
  intro p e s m args below meth c s₁ B hml hv
  obtain ⟨rfl, hP, hE⟩ := hv
  have hx := B.exec
  have hb := B.bytes
  have hr := B.returns
  have hT : ∀ w ∈ TB, w.before _ s = true := fun w h => atoms_spec (ws := hz_w yX12_forgers cX12_forgers 5 (some .int)) B.pre w (List.mem_cons_of_mem _ h)
  have hown : s.vm.findClass RX12 = some m.cls := findClass_of_methodNamed B.named
  have hlocks := B.notSynchronized
  clear B
  have hS : va_S (fun _ => False) s.heap s.heap [] := va_S.rf
  have hK := hE.1
  have hl := lv_entry ([.ref a, .int p0]) (n := 5) (Nat.le_of_ble_eq_true rfl)
  rw [lg_entry_eq]
  generalize (lg_sl ([.ref a, .int p0]) ++ List.replicate (5 - (lg_sl ([.ref a, .int p0])).length) Slot.unset).toArray = ls at hl ⊢
  have hl : lv_has ls 5 [(0, .ref a), (1, .int p0)] := hl
  obtain ⟨H, eH⟩ : ∃ z, z = s.heap := ⟨_, rfl⟩
  have hP : va_P D classes [(a_said, .inl (cs 0, 123, .inl a_said_c)), (a, .inr (12, [.ref a_tape, .int a__taped, .int a__rules, .ref a_sign, .ref a_length, .ref a_clause, .ref a_clauses, .ref a_read, .int a__next, .int a__wrong, .int a__number, .int a__text, .int a__made, .int a__deep, .int a__lines, .ref a_open, .int a__opened, .ref a_stack, .int a__top, .ref a_word, .ref a_said, .int a__x, .ref a_worth, .ref a_mate, .ref a_wasSaid, .int a__undone, .int a__boughtNow, .ref a_wayBy, .ref a_wayThen, .int a__walkMost, .int a__walkGoing, .int a__walkSet, .ref a_kept, .long a__drawX, .ref a_images, .ref a_imageX, .ref a_isMade]))] H := by rw [eH]; exact hP
  have hS : va_S (fun _ => False) s.heap H [] := by rw [eH]; exact hS
  rw [← eH]
  clear eH
  obtain ⟨locs, el⟩ : ∃ z : List Loc, z = [] := ⟨_, rfl⟩
  rw [← el] at hS ⊢
  clear el
  have z0 : (0 : Int32).toInt = 0 := by decide
  have z1 : (1 : Int32).toInt = 1 := by decide
  have zm1 : (-1 : Int32).toInt = -1 := by decide
  have i_a__lines : 0 ≤ a__lines.toInt ∧ a__lines.toInt ≤ 40 := h_a__lines
  have i_a__made : 0 ≤ a__made.toInt ∧ a__made.toInt ≤ 60 := h_a__made
  have i_a__next : 0 ≤ a__next.toInt ∧ a__next.toInt ≤ 400 := h_a__next
  have i_a__opened : 0 ≤ a__opened.toInt ∧ a__opened.toInt ≤ 400 := h_a__opened
  have i_a__rules : 0 ≤ a__rules.toInt ∧ a__rules.toInt ≤ 6 := h_a__rules
  have i_a__taped : 0 ≤ a__taped.toInt ∧ a__taped.toInt ≤ 400 := h_a__taped
  have i_a__text : 0 ≤ a__text.toInt ∧ a__text.toInt ≤ 6 := h_a__text
  have i_a__top : 0 ≤ a__top.toInt ∧ a__top.toInt ≤ 64 := h_a__top
  have i_a__undone : 0 ≤ a__undone.toInt ∧ a__undone.toInt ≤ 20 := h_a__undone
  have i_a__x : 0 ≤ a__x.toInt ∧ a__x.toInt ≤ 2147483647 := h_a__x
  have K27 : ∀ (n : Nat) (k27_L_4 : Int32) (k27_L_3 : Int32) (k27_L_2 : Int32), (4096 - k27_L_4.toInt + 1).toNat ≤ n → IV (-2) 4095 k27_L_2 → IV 0 4095 k27_L_3 → IV 0 4096 k27_L_4 → IV 0 1 p0 → ∀ (H : Heap) (locs : List Loc), va_P D classes [(a_said, .inl (cs 0, 123, .inl a_said_c)), (a, .inr (12, [.ref a_tape, .int a__taped, .int a__rules, .ref a_sign, .ref a_length, .ref a_clause, .ref a_clauses, .ref a_read, .int a__next, .int a__wrong, .int a__number, .int a__text, .int a__made, .int a__deep, .int a__lines, .ref a_open, .int a__opened, .ref a_stack, .int a__top, .ref a_word, .ref a_said, .int a__x, .ref a_worth, .ref a_mate, .ref a_wasSaid, .int a__undone, .int a__boughtNow, .ref a_wayBy, .ref a_wayThen, .int a__walkMost, .int a__walkGoing, .int a__walkSet, .ref a_kept, .long a__drawX, .ref a_images, .ref a_imageX, .ref a_isMade]))] H → va_S (fun _ => False) s.heap H locs → ∀ ls : Array Slot, lv_has ls 5 [(4, .int k27_L_4), (3, .int k27_L_3), (2, .int k27_L_2), (0, .ref a), (1, .int p0)] → W p l e (headSpec (hz_w yX12_forgers cX12_forgers 5 (some .int)) ({ frames := 3, cells := 0, slots := 0, locals := 70 })).room s m [.ref a, .int p0].toArray below meth c H locs 0 0 (MQ below (va_Qi (fun (r : Int32) (_ : Unit) => (r = (-1)) ∨ (r = 0 ∧ IV 1 1 p0) ∨ (IV (-2) 4095 r ∧ IV 0 1 p0)) (fun _ t => True) (fun _ => False)) [.ref a, .int p0].toArray s 0 0 (fun _ => False)) (F0 m 27 ls []) := by
    intro n
    induction n with
    | zero =>
      intro k27_L_4 k27_L_3 k27_L_2 hn q27_10 q27_11 q27_12 q27_13 H locs hP hS ls hl
      exact absurd hn (by unfold IV at q27_12; omega)
    | succ n ih27 =>
      intro k27_L_4 k27_L_3 k27_L_2 hn q27_10 q27_11 q27_12 q27_13 H locs hP hS ls hl
      have i_a__lines : 0 ≤ a__lines.toInt ∧ a__lines.toInt ≤ 40 := h_a__lines
      have i_a__made : 0 ≤ a__made.toInt ∧ a__made.toInt ≤ 60 := h_a__made
      have i_a__next : 0 ≤ a__next.toInt ∧ a__next.toInt ≤ 400 := h_a__next
      have i_a__opened : 0 ≤ a__opened.toInt ∧ a__opened.toInt ≤ 400 := h_a__opened
      have i_a__rules : 0 ≤ a__rules.toInt ∧ a__rules.toInt ≤ 6 := h_a__rules
      have i_a__taped : 0 ≤ a__taped.toInt ∧ a__taped.toInt ≤ 400 := h_a__taped
      have i_a__text : 0 ≤ a__text.toInt ∧ a__text.toInt ≤ 6 := h_a__text
      have i_a__top : 0 ≤ a__top.toInt ∧ a__top.toInt ≤ 64 := h_a__top
      have i_a__undone : 0 ≤ a__undone.toInt ∧ a__undone.toInt ≤ 20 := h_a__undone
      have i_a__x : 0 ≤ a__x.toInt ∧ a__x.toInt ≤ 2147483647 := h_a__x
      have i_k27_L_2 : (-2) ≤ k27_L_2.toInt ∧ k27_L_2.toInt ≤ 4095 := q27_10
      have i_k27_L_3 : 0 ≤ k27_L_3.toInt ∧ k27_L_3.toInt ≤ 4095 := q27_11
      have i_k27_L_4 : 0 ≤ k27_L_4.toInt ∧ k27_L_4.toInt ≤ 4096 := q27_12
      have i_p0 : 0 ≤ p0.toInt ∧ p0.toInt ≤ 1 := q27_13
      refine lv_iload hx hb dX12_forgers_27 (lv_at hl 0 rfl) ?_
      refine lv_iconst (v := 1) hx hb dX12_forgers_29 (by decide) ?_
      refine lv_aload_n hx hb dX12_forgers_30 rfl (lv_at hl 3 rfl) ?_
      refine va_get (D := D) (ci := 12) (v := .ref a_said) (C := RX12) (T := TX12) (N := 37) hx hb hT i_X12 hown hK hP 1 rfl rfl 20 (by decide) (hT _ q_185) (fun _ h9 => h9) rfl dX12_forgers_31 ?_
      refine lv_iconst (v := 1) hx hb dX12_forgers_34 (by decide) ?_
      refine va_iald hx hb hK hP 0 0 rfl rfl (iv_vc (by decide)) dX12_forgers_35 ?_
      refine lv_topi (fun v1 ev1 => ?_)
      have h2 : IV 0 12 v1 := (by rw [ev1]; exact bs_i1 hf0)
      have ii3 : 0 ≤ v1.toInt ∧ v1.toInt ≤ 12 := h2
      have lv1 : v1.toInt = (a_said_c 1).toInt := by rw [ev1]; rfl
      refine lv_ishl hx hb dX12_forgers_36 ?_
      refine lv_topi (fun v4 ev4 => ?_)
      have hv4 : IV 1 4096 v4 := iv_shl1 ev4 h2 (by decide) (by decide) (by decide)
      have ii5 : 1 ≤ v4.toInt ∧ v4.toInt ≤ 4096 := hv4
      refine lv_icmp_ge (tgt := 100) hx hb dX12_forgers_37 (by decide) (fun c6 => ?_) (fun c6 => ?_)
      · have t7 : k27_L_4.toInt ≥ v4.toInt := lin_ge c6 rfl rfl
        have h8 : IV 1 4096 k27_L_4 := iv_le2 c6 hv4 q27_12 (by decide)
        have ii9 : 1 ≤ k27_L_4.toInt ∧ k27_L_4.toInt ≤ 4096 := h8
        refine lv_iload_n hx hb dX12_forgers_100 rfl (lv_at hl 4 rfl) ?_
        refine lv_if_ne (tgt := 108) hx hb dX12_forgers_101 (by decide) (fun c10 => ?_) (fun c10 => ?_)
        · have t11 : p0.toInt ≠ 0 := lin_ne c10 rfl (by decide)
          have h12 : IV 1 1 p0 := iv_neL c10 q27_13 (by decide)
          have ii13 : 1 ≤ p0.toInt ∧ p0.toInt ≤ 1 := h12
          refine lv_iload_n hx hb dX12_forgers_108 rfl (lv_at hl 2 rfl) ?_
          refine lv_if_ge (tgt := 116) hx hb dX12_forgers_109 (by decide) (fun c14 => ?_) (fun c14 => ?_)
          · have t15 : k27_L_2.toInt ≥ 0 := lin_ge c14 rfl (by decide)
            have h16 : IV 0 4095 k27_L_2 := iv_le2 c14 (iv_c (a := 0) (b := 0) (by decide)) q27_10 (by decide)
            have ii17 : 0 ≤ k27_L_2.toInt ∧ k27_L_2.toInt ≤ 4095 := h16
            refine lv_iconst (v := 1) hx hb dX12_forgers_116 (by decide) ?_
            refine lv_aload_n hx hb dX12_forgers_117 rfl (lv_at hl 3 rfl) ?_
            refine va_get (D := D) (ci := 12) (v := .ref a_said) (C := RX12) (T := TX12) (N := 37) hx hb hT i_X12 hown hK hP 1 rfl rfl 20 (by decide) (hT _ q_185) (fun _ h9 => h9) rfl dX12_forgers_118 ?_
            refine lv_iconst (v := 1) hx hb dX12_forgers_121 (by decide) ?_
            refine va_iald hx hb hK hP 0 0 rfl rfl (iv_vc (by decide)) dX12_forgers_122 ?_
            refine hz_ev v1 ev1.symm ?_
            refine lv_ishl hx hb dX12_forgers_123 ?_
            refine lv_topi (fun v18 ev18 => ?_)
            have hv18 : IV 1 4096 v18 := iv_shl1 ev18 h2 (by decide) (by decide) (by decide)
            have ii19 : 1 ≤ v18.toInt ∧ v18.toInt ≤ 4096 := hv18
            refine lv_iconst (v := 1) hx hb dX12_forgers_124 (by decide) ?_
            refine lv_isub hx hb dX12_forgers_125 ?_
            refine lv_topi (fun v20 ev20 => ?_)
            have hv20 : IV 0 4095 v20 := iv_sub ev20 hv18 (iv_c (a := 1) (b := 1) (by decide)) (by decide) (by decide)
            have ii21 : 0 ≤ v20.toInt ∧ v20.toInt ≤ 4095 := hv20
            have dv20 : v20.toInt = v18.toInt + (-1) := iv_subE ev20 hv18 (iv_c (a := 1) (b := 1) (by decide)) (by decide) (by decide) (by decide)
            have lv20 : v20.toInt = v18.toInt - 1 := lin_sub ev20 hv18 (iv_c (a := 1) (b := 1) (by decide)) rfl (by decide) (by decide) (by decide)
            refine lv_iload_n hx hb dX12_forgers_126 rfl (lv_at hl 1 rfl) ?_
            refine lv_iconst (v := (-1)) hx hb dX12_forgers_127 (by decide) ?_
            refine lv_ixor hx hb dX12_forgers_128 ?_
            refine lv_topi (fun v22 ev22 => ?_)
            refine lv_iand hx hb dX12_forgers_129 ?_
            refine lv_topi (fun v23 ev23 => ?_)
            have hv23 : IV 0 4095 v23 := iv_and1 ev23 hv20
            have ii24 : 0 ≤ v23.toInt ∧ v23.toInt ≤ 4095 := hv23
            exact W.iret (v := v23) hx hb hr (fun t ht hW => ⟨⟨v23, (), rfl, (Or.inr (Or.inr ((⟨(iv_w hv23 (by decide) (by decide)), (iv_w h12 (by decide) (by decide))⟩)))), trivial⟩, hS.F ht⟩) hS.2.2 dX12_forgers_130
          · have t25 : k27_L_2.toInt < 0 := lin_geN c14 rfl (by decide)
            have h26 : IV (-2) (-1) k27_L_2 := iv_lt1 (Int32.not_le.mp c14) q27_10 (iv_c (a := 0) (b := 0) (by decide)) (by decide)
            have ii27 : (-2) ≤ k27_L_2.toInt ∧ k27_L_2.toInt ≤ (-1) := h26
            refine lv_iconst (v := 0) hx hb dX12_forgers_112 (by decide) ?_
            refine lv_goto (tgt := 130) hx hb dX12_forgers_113 (by decide) ?_
            exact W.iret (v := 0) hx hb hr (fun t ht hW => ⟨⟨0, (), rfl, (Or.inr (Or.inl (⟨rfl, h12⟩))), trivial⟩, hS.F ht⟩) hS.2.2 dX12_forgers_130
        · have t28 : p0.toInt = 0 := lin_eqN c10 rfl (by decide)
          have h29 : IV 0 0 p0 := iv_eq1 c10 q27_13 (iv_c (a := 0) (b := 0) (by decide)) (by decide) (by decide)
          have ii30 : 0 ≤ p0.toInt ∧ p0.toInt ≤ 0 := h29
          refine lv_iload_n hx hb dX12_forgers_104 rfl (lv_at hl 2 rfl) ?_
          refine lv_goto (tgt := 130) hx hb dX12_forgers_105 (by decide) ?_
          exact W.iret (v := k27_L_2) hx hb hr (fun t ht hW => ⟨⟨k27_L_2, (), rfl, (Or.inr (Or.inr ((⟨q27_10, (iv_w h29 (by decide) (by decide))⟩)))), trivial⟩, hS.F ht⟩) hS.2.2 dX12_forgers_130
      · have t31 : k27_L_4.toInt < v4.toInt := lin_geN c6 rfl rfl
        have h32 : IV 0 4095 k27_L_4 := iv_lt1 (Int32.not_le.mp c6) q27_12 hv4 (by decide)
        have ii33 : 0 ≤ k27_L_4.toInt ∧ k27_L_4.toInt ≤ 4095 := h32
        refine lv_iload_n hx hb dX12_forgers_40 rfl (lv_at hl 2 rfl) ?_
        refine lv_if_lt (tgt := 56) hx hb dX12_forgers_41 (by decide) (fun c34 => ?_) (fun c34 => ?_)
        · have t35 : k27_L_2.toInt < 0 := lin_lt c34 rfl (by decide)
          have h36 : IV (-2) (-1) k27_L_2 := iv_lt1 c34 q27_10 (iv_c (a := 0) (b := 0) (by decide)) (by decide)
          have ii37 : (-2) ≤ k27_L_2.toInt ∧ k27_L_2.toInt ≤ (-1) := h36
          refine lv_aload_n hx hb dX12_forgers_56 rfl (lv_at hl 3 rfl) ?_
          refine lv_iload hx hb dX12_forgers_57 (lv_at hl 0 rfl) ?_
          refine va_calli (va_runV (As := [.int k27_L_4]) (rest := []) ⟨hx, hb, hml, hown, hT⟩ (c_X12_isTried l D cs kK kV a k27_L_4 a_said a_said_c a_tape a__taped a__rules a_sign a_length a_clause a_clauses a_read a__next a__wrong a__number a__text a__made a__deep a__lines a_open a__opened a_stack a__top a_word a__x a_worth a_mate a_wasSaid a__undone a__boughtNow a_wayBy a_wayThen a__walkMost a__walkGoing a__walkSet a_kept a__drawX a_images a_imageX a_isMade h_a__taped h_a__rules h_a__next h_a__text h_a__made h_a__lines h_a__opened h_a__top h_a__x h_a__undone hf0 hf1) (cwV 1 hT (hz_gV q_1297 q_1298 q_1299 q_701 q_1300) rfl rfl rfl (by decide +kernel) ⟨(Nat.le_of_ble_eq_true rfl), (Nat.le_of_ble_eq_true rfl)⟩) ⟨hz_P.blind, va_recv hK hP (ci := 12) (q0 := 1) rfl rfl, hz_P.mk (hP.sub (ws' := [(a_said, .inl (cs 0, 123, .inl a_said_c)), (a, .inr (12, [.ref a_tape, .int a__taped, .int a__rules, .ref a_sign, .ref a_length, .ref a_clause, .ref a_clauses, .ref a_read, .int a__next, .int a__wrong, .int a__number, .int a__text, .int a__made, .int a__deep, .int a__lines, .ref a_open, .int a__opened, .ref a_stack, .int a__top, .ref a_word, .ref a_said, .int a__x, .ref a_worth, .ref a_mate, .ref a_wasSaid, .int a__undone, .int a__boughtNow, .ref a_wayBy, .ref a_wayThen, .int a__walkMost, .int a__walkGoing, .int a__walkSet, .ref a_kept, .long a__drawX, .ref a_images, .ref a_imageX, .ref a_isMade]))]) [0,1] rfl) hE hS⟩ rfl rfl hl.1 rfl (lv_room (Nat.le_of_ble_eq_true rfl)) dX12_forgers_59 ⟨(Nat.le_of_ble_eq_true rfl), (Nat.le_of_ble_eq_true rfl)⟩) hS (fun _ _ h => h.elim) (fun _ h => h.elim) (fun r38 u t H1 locs ht hvm hw hB hz1 hk1 hS => ?_)
          have hP := hz_keep hP hk1
          clear hk1 hB hz1
          generalize H1 = H at hP hS ⊢
          rcases hw with rfl | rfl
          · refine lv_if_ne (tgt := 68) hx hb dX12_forgers_62 (by decide) (fun z => absurd (by decide) z) (fun _ => ?_)
            refine lv_goto (tgt := 94) hx hb dX12_forgers_65 (by decide) ?_
            obtain ⟨v39, ev39⟩ : ∃ z : Int32, z = k27_L_4 + 1 := ⟨_, rfl⟩
            have hv39 : IV 1 4096 v39 := iv_add ev39 h32 (iv_c (a := 1) (b := 1) (by decide)) (by decide) (by decide)
            have dv39 : v39.toInt = k27_L_4.toInt + 1 := iv_addE ev39 h32 (iv_c (a := 1) (b := 1) (by decide)) (by decide) (by decide) (by decide)
            refine lv_iinc (v := v39) (lv' := [(4, .int v39), (3, .int k27_L_3), (2, .int k27_L_2), (0, .ref a), (1, .int p0)]) hx hb dX12_forgers_94 hl (k := 0) rfl (by rw [ev39]; rfl) (by decide) rfl (fun ls hl => ?_)
            refine lv_goto (tgt := 27) hx hb dX12_forgers_97 (by decide) ?_
            exact ih27 v39 k27_L_3 k27_L_2 (by have h9 := h32; unfold IV at h9; have := dv39; omega) (iv_w h36 (by decide) (by decide)) q27_11 (iv_w hv39 (by decide) (by decide)) q27_13 H locs (hP.sub (ws' := [(a_said, .inl (cs 0, 123, .inl a_said_c)), (a, .inr (12, [.ref a_tape, .int a__taped, .int a__rules, .ref a_sign, .ref a_length, .ref a_clause, .ref a_clauses, .ref a_read, .int a__next, .int a__wrong, .int a__number, .int a__text, .int a__made, .int a__deep, .int a__lines, .ref a_open, .int a__opened, .ref a_stack, .int a__top, .ref a_word, .ref a_said, .int a__x, .ref a_worth, .ref a_mate, .ref a_wasSaid, .int a__undone, .int a__boughtNow, .ref a_wayBy, .ref a_wayThen, .int a__walkMost, .int a__walkGoing, .int a__walkSet, .ref a_kept, .long a__drawX, .ref a_images, .ref a_imageX, .ref a_isMade]))]) [0, 1] rfl) hS ls (lv_sub hl [0, 1, 2, 3, 4] rfl)
          · refine lv_if_ne (tgt := 68) hx hb dX12_forgers_62 (by decide) (fun _ => ?_) (fun z => absurd z (by decide))
            refine lv_iload_n hx hb dX12_forgers_68 rfl (lv_at hl 2 rfl) ?_
            refine lv_if_lt (tgt := 84) hx hb dX12_forgers_69 (by decide) (fun _ => ?_) (fun z => absurd (iv_ltT h36 (iv_c (a := 0) (b := 0) (by decide)) (by decide)) z)
            refine lv_iload hx hb dX12_forgers_84 (lv_at hl 0 rfl) ?_
            refine lv_istore_n (lv' := [(2, .int k27_L_4), (4, .int k27_L_4), (3, .int k27_L_3), (0, .ref a), (1, .int p0)]) hx hb dX12_forgers_86 rfl hl (by decide) rfl (fun ls hl => ?_)
            refine lv_iconst (v := 0) hx hb dX12_forgers_87 (by decide) ?_
            refine lv_istore_n (lv' := [(3, .int 0), (2, .int k27_L_4), (4, .int k27_L_4), (0, .ref a), (1, .int p0)]) hx hb dX12_forgers_88 rfl hl (by decide) rfl (fun ls hl => ?_)
            refine lv_iload_n hx hb dX12_forgers_89 rfl (lv_at hl 0 rfl) ?_
            refine lv_iload hx hb dX12_forgers_90 (lv_at hl 2 rfl) ?_
            refine lv_ior hx hb dX12_forgers_92 ?_
            refine lv_topi (fun v40 ev40 => ?_)
            have hv40 : IV 0 4095 v40 := iv_or (k := 12) ev40 (iv_c (a := 0) (b := 0) (by decide)) h32 (by decide) (by decide) (by decide) (by decide) (by decide) (by decide)
            have ii41 : 0 ≤ v40.toInt ∧ v40.toInt ≤ 4095 := hv40
            refine lv_istore_n (lv' := [(3, .int v40), (2, .int k27_L_4), (4, .int k27_L_4), (0, .ref a), (1, .int p0)]) hx hb dX12_forgers_93 rfl hl (by decide) rfl (fun ls hl => ?_)
            obtain ⟨v42, ev42⟩ : ∃ z : Int32, z = k27_L_4 + 1 := ⟨_, rfl⟩
            have hv42 : IV 1 4096 v42 := iv_add ev42 h32 (iv_c (a := 1) (b := 1) (by decide)) (by decide) (by decide)
            have dv42 : v42.toInt = k27_L_4.toInt + 1 := iv_addE ev42 h32 (iv_c (a := 1) (b := 1) (by decide)) (by decide) (by decide) (by decide)
            refine lv_iinc (v := v42) (lv' := [(4, .int v42), (3, .int v40), (2, .int k27_L_4), (0, .ref a), (1, .int p0)]) hx hb dX12_forgers_94 hl (k := 2) rfl (by rw [ev42]; rfl) (by decide) rfl (fun ls hl => ?_)
            refine lv_goto (tgt := 27) hx hb dX12_forgers_97 (by decide) ?_
            exact ih27 v42 v40 k27_L_4 (by have h9 := h32; unfold IV at h9; have := dv42; omega) (iv_w h32 (by decide) (by decide)) hv40 (iv_w hv42 (by decide) (by decide)) q27_13 H locs (hP.sub (ws' := [(a_said, .inl (cs 0, 123, .inl a_said_c)), (a, .inr (12, [.ref a_tape, .int a__taped, .int a__rules, .ref a_sign, .ref a_length, .ref a_clause, .ref a_clauses, .ref a_read, .int a__next, .int a__wrong, .int a__number, .int a__text, .int a__made, .int a__deep, .int a__lines, .ref a_open, .int a__opened, .ref a_stack, .int a__top, .ref a_word, .ref a_said, .int a__x, .ref a_worth, .ref a_mate, .ref a_wasSaid, .int a__undone, .int a__boughtNow, .ref a_wayBy, .ref a_wayThen, .int a__walkMost, .int a__walkGoing, .int a__walkSet, .ref a_kept, .long a__drawX, .ref a_images, .ref a_imageX, .ref a_isMade]))]) [0, 1] rfl) hS ls (lv_sub hl [0, 1, 2, 3, 4] rfl)
        · have t43 : k27_L_2.toInt ≥ 0 := lin_ltN c34 rfl (by decide)
          have h44 : IV 0 4095 k27_L_2 := iv_le2 (Int32.not_lt.mp c34) (iv_c (a := 0) (b := 0) (by decide)) q27_10 (by decide)
          have ii45 : 0 ≤ k27_L_2.toInt ∧ k27_L_2.toInt ≤ 4095 := h44
          refine lv_iload hx hb dX12_forgers_44 (lv_at hl 0 rfl) ?_
          refine va_calli (va_runS (As := [.int k27_L_4]) (rest := []) ⟨hx, hb, hml, hown, hT⟩ (c_X12_bits l D cs kK kV k27_L_4) (va_cwS 1 hT (hz_gS q_1192 q_1193 q_701 q_1194) rfl rfl rfl (by decide +kernel) ⟨(Nat.le_of_ble_eq_true rfl), (Nat.le_of_ble_eq_true rfl)⟩) ⟨hz_P.blind, hz_P.mk (hP.sub (ws' := []) [] rfl) hE hS⟩ rfl rfl hl.1 rfl (lv_room (Nat.le_of_ble_eq_true rfl)) dX12_forgers_46 ⟨(Nat.le_of_ble_eq_true rfl), (Nat.le_of_ble_eq_true rfl)⟩) hS (fun _ _ h => h.elim) (fun _ h => h.elim) (fun r46 u t H1 locs ht hvm hw hB hz1 hk1 hS => ?_)
          have hP := hz_keep hP hk1
          clear hk1 hB hz1
          generalize H1 = H at hP hS ⊢
          refine lv_iload_n hx hb dX12_forgers_49 rfl (lv_at hl 2 rfl) ?_
          refine va_calli (va_runS (As := [.int k27_L_2]) (rest := [.int r46]) ⟨hx, hb, hml, hown, hT⟩ (c_X12_bits l D cs kK kV k27_L_2) (va_cwS 1 hT (hz_gS q_1192 q_1193 q_701 q_1194) rfl rfl rfl (by decide +kernel) ⟨(Nat.le_of_ble_eq_true rfl), (Nat.le_of_ble_eq_true rfl)⟩) ⟨hz_P.blind, hz_P.mk (hP.sub (ws' := []) [] rfl) hE hS⟩ rfl rfl hl.1 rfl (lv_room (Nat.le_of_ble_eq_true rfl)) dX12_forgers_50 ⟨(Nat.le_of_ble_eq_true rfl), (Nat.le_of_ble_eq_true rfl)⟩) hS (fun _ _ h => h.elim) (fun _ h => h.elim) (fun r47 u t H1 locs ht hvm hw hB hz1 hk1 hS => ?_)
          have hP := hz_keep hP hk1
          clear hk1 hB hz1
          generalize H1 = H at hP hS ⊢
          refine lv_icmp_gt (tgt := 94) hx hb dX12_forgers_53 (by decide) (fun c48 => ?_) (fun c48 => ?_)
          · have t49 : r46.toInt > r47.toInt := lin_gt c48 rfl rfl
            have h50 : IV (-2147483648) 2147483646 r47 := iv_lt1 c48 iv_top iv_top (by decide)
            have ii51 : (-2147483648) ≤ r47.toInt ∧ r47.toInt ≤ 2147483646 := h50
            have h52 : IV (-2147483647) 2147483647 r46 := iv_lt2 c48 iv_top iv_top (by decide)
            have ii53 : (-2147483647) ≤ r46.toInt ∧ r46.toInt ≤ 2147483647 := h52
            obtain ⟨v54, ev54⟩ : ∃ z : Int32, z = k27_L_4 + 1 := ⟨_, rfl⟩
            have hv54 : IV 1 4096 v54 := iv_add ev54 h32 (iv_c (a := 1) (b := 1) (by decide)) (by decide) (by decide)
            have dv54 : v54.toInt = k27_L_4.toInt + 1 := iv_addE ev54 h32 (iv_c (a := 1) (b := 1) (by decide)) (by decide) (by decide) (by decide)
            refine lv_iinc (v := v54) (lv' := [(4, .int v54), (3, .int k27_L_3), (2, .int k27_L_2), (0, .ref a), (1, .int p0)]) hx hb dX12_forgers_94 hl (k := 0) rfl (by rw [ev54]; rfl) (by decide) rfl (fun ls hl => ?_)
            refine lv_goto (tgt := 27) hx hb dX12_forgers_97 (by decide) ?_
            exact ih27 v54 k27_L_3 k27_L_2 (by have h9 := h32; unfold IV at h9; have := dv54; omega) (iv_w h44 (by decide) (by decide)) q27_11 (iv_w hv54 (by decide) (by decide)) q27_13 H locs (hP.sub (ws' := [(a_said, .inl (cs 0, 123, .inl a_said_c)), (a, .inr (12, [.ref a_tape, .int a__taped, .int a__rules, .ref a_sign, .ref a_length, .ref a_clause, .ref a_clauses, .ref a_read, .int a__next, .int a__wrong, .int a__number, .int a__text, .int a__made, .int a__deep, .int a__lines, .ref a_open, .int a__opened, .ref a_stack, .int a__top, .ref a_word, .ref a_said, .int a__x, .ref a_worth, .ref a_mate, .ref a_wasSaid, .int a__undone, .int a__boughtNow, .ref a_wayBy, .ref a_wayThen, .int a__walkMost, .int a__walkGoing, .int a__walkSet, .ref a_kept, .long a__drawX, .ref a_images, .ref a_imageX, .ref a_isMade]))]) [0, 1] rfl) hS ls (lv_sub hl [0, 1, 2, 3, 4] rfl)
          · have t55 : r46.toInt ≤ r47.toInt := lin_gtN c48 rfl rfl
            refine lv_aload_n hx hb dX12_forgers_56 rfl (lv_at hl 3 rfl) ?_
            refine lv_iload hx hb dX12_forgers_57 (lv_at hl 0 rfl) ?_
            refine va_calli (va_runV (As := [.int k27_L_4]) (rest := []) ⟨hx, hb, hml, hown, hT⟩ (c_X12_isTried l D cs kK kV a k27_L_4 a_said a_said_c a_tape a__taped a__rules a_sign a_length a_clause a_clauses a_read a__next a__wrong a__number a__text a__made a__deep a__lines a_open a__opened a_stack a__top a_word a__x a_worth a_mate a_wasSaid a__undone a__boughtNow a_wayBy a_wayThen a__walkMost a__walkGoing a__walkSet a_kept a__drawX a_images a_imageX a_isMade h_a__taped h_a__rules h_a__next h_a__text h_a__made h_a__lines h_a__opened h_a__top h_a__x h_a__undone hf0 hf1) (cwV 1 hT (hz_gV q_1297 q_1298 q_1299 q_701 q_1300) rfl rfl rfl (by decide +kernel) ⟨(Nat.le_of_ble_eq_true rfl), (Nat.le_of_ble_eq_true rfl)⟩) ⟨hz_P.blind, va_recv hK hP (ci := 12) (q0 := 1) rfl rfl, hz_P.mk (hP.sub (ws' := [(a_said, .inl (cs 0, 123, .inl a_said_c)), (a, .inr (12, [.ref a_tape, .int a__taped, .int a__rules, .ref a_sign, .ref a_length, .ref a_clause, .ref a_clauses, .ref a_read, .int a__next, .int a__wrong, .int a__number, .int a__text, .int a__made, .int a__deep, .int a__lines, .ref a_open, .int a__opened, .ref a_stack, .int a__top, .ref a_word, .ref a_said, .int a__x, .ref a_worth, .ref a_mate, .ref a_wasSaid, .int a__undone, .int a__boughtNow, .ref a_wayBy, .ref a_wayThen, .int a__walkMost, .int a__walkGoing, .int a__walkSet, .ref a_kept, .long a__drawX, .ref a_images, .ref a_imageX, .ref a_isMade]))]) [0,1] rfl) hE hS⟩ rfl rfl hl.1 rfl (lv_room (Nat.le_of_ble_eq_true rfl)) dX12_forgers_59 ⟨(Nat.le_of_ble_eq_true rfl), (Nat.le_of_ble_eq_true rfl)⟩) hS (fun _ _ h => h.elim) (fun _ h => h.elim) (fun r56 u t H1 locs ht hvm hw hB hz1 hk1 hS => ?_)
            have hP := hz_keep hP hk1
            clear hk1 hB hz1
            generalize H1 = H at hP hS ⊢
            rcases hw with rfl | rfl
            · refine lv_if_ne (tgt := 68) hx hb dX12_forgers_62 (by decide) (fun z => absurd (by decide) z) (fun _ => ?_)
              refine lv_goto (tgt := 94) hx hb dX12_forgers_65 (by decide) ?_
              obtain ⟨v57, ev57⟩ : ∃ z : Int32, z = k27_L_4 + 1 := ⟨_, rfl⟩
              have hv57 : IV 1 4096 v57 := iv_add ev57 h32 (iv_c (a := 1) (b := 1) (by decide)) (by decide) (by decide)
              have dv57 : v57.toInt = k27_L_4.toInt + 1 := iv_addE ev57 h32 (iv_c (a := 1) (b := 1) (by decide)) (by decide) (by decide) (by decide)
              refine lv_iinc (v := v57) (lv' := [(4, .int v57), (3, .int k27_L_3), (2, .int k27_L_2), (0, .ref a), (1, .int p0)]) hx hb dX12_forgers_94 hl (k := 0) rfl (by rw [ev57]; rfl) (by decide) rfl (fun ls hl => ?_)
              refine lv_goto (tgt := 27) hx hb dX12_forgers_97 (by decide) ?_
              exact ih27 v57 k27_L_3 k27_L_2 (by have h9 := h32; unfold IV at h9; have := dv57; omega) (iv_w h44 (by decide) (by decide)) q27_11 (iv_w hv57 (by decide) (by decide)) q27_13 H locs (hP.sub (ws' := [(a_said, .inl (cs 0, 123, .inl a_said_c)), (a, .inr (12, [.ref a_tape, .int a__taped, .int a__rules, .ref a_sign, .ref a_length, .ref a_clause, .ref a_clauses, .ref a_read, .int a__next, .int a__wrong, .int a__number, .int a__text, .int a__made, .int a__deep, .int a__lines, .ref a_open, .int a__opened, .ref a_stack, .int a__top, .ref a_word, .ref a_said, .int a__x, .ref a_worth, .ref a_mate, .ref a_wasSaid, .int a__undone, .int a__boughtNow, .ref a_wayBy, .ref a_wayThen, .int a__walkMost, .int a__walkGoing, .int a__walkSet, .ref a_kept, .long a__drawX, .ref a_images, .ref a_imageX, .ref a_isMade]))]) [0, 1] rfl) hS ls (lv_sub hl [0, 1, 2, 3, 4] rfl)
            · refine lv_if_ne (tgt := 68) hx hb dX12_forgers_62 (by decide) (fun _ => ?_) (fun z => absurd z (by decide))
              refine lv_iload_n hx hb dX12_forgers_68 rfl (lv_at hl 2 rfl) ?_
              refine lv_if_lt (tgt := 84) hx hb dX12_forgers_69 (by decide) (fun z => absurd z (iv_ltF h44 (iv_c (a := 0) (b := 0) (by decide)) (by decide))) (fun _ => ?_)
              refine lv_iload hx hb dX12_forgers_72 (lv_at hl 0 rfl) ?_
              refine va_calli (va_runS (As := [.int k27_L_4]) (rest := []) ⟨hx, hb, hml, hown, hT⟩ (c_X12_bits l D cs kK kV k27_L_4) (va_cwS 1 hT (hz_gS q_1192 q_1193 q_701 q_1194) rfl rfl rfl (by decide +kernel) ⟨(Nat.le_of_ble_eq_true rfl), (Nat.le_of_ble_eq_true rfl)⟩) ⟨hz_P.blind, hz_P.mk (hP.sub (ws' := []) [] rfl) hE hS⟩ rfl rfl hl.1 rfl (lv_room (Nat.le_of_ble_eq_true rfl)) dX12_forgers_74 ⟨(Nat.le_of_ble_eq_true rfl), (Nat.le_of_ble_eq_true rfl)⟩) hS (fun _ _ h => h.elim) (fun _ h => h.elim) (fun r58 u t H1 locs ht hvm hw hB hz1 hk1 hS => ?_)
              have hP := hz_keep hP hk1
              clear hk1 hB hz1
              generalize H1 = H at hP hS ⊢
              refine lv_iload_n hx hb dX12_forgers_77 rfl (lv_at hl 2 rfl) ?_
              refine va_calli (va_runS (As := [.int k27_L_2]) (rest := [.int r58]) ⟨hx, hb, hml, hown, hT⟩ (c_X12_bits l D cs kK kV k27_L_2) (va_cwS 1 hT (hz_gS q_1192 q_1193 q_701 q_1194) rfl rfl rfl (by decide +kernel) ⟨(Nat.le_of_ble_eq_true rfl), (Nat.le_of_ble_eq_true rfl)⟩) ⟨hz_P.blind, hz_P.mk (hP.sub (ws' := []) [] rfl) hE hS⟩ rfl rfl hl.1 rfl (lv_room (Nat.le_of_ble_eq_true rfl)) dX12_forgers_78 ⟨(Nat.le_of_ble_eq_true rfl), (Nat.le_of_ble_eq_true rfl)⟩) hS (fun _ _ h => h.elim) (fun _ h => h.elim) (fun r59 u t H1 locs ht hvm hw hB hz1 hk1 hS => ?_)
              have hP := hz_keep hP hk1
              clear hk1 hB hz1
              generalize H1 = H at hP hS ⊢
              refine lv_icmp_ge (tgt := 89) hx hb dX12_forgers_81 (by decide) (fun c60 => ?_) (fun c60 => ?_)
              · have t61 : r58.toInt ≥ r59.toInt := lin_ge c60 rfl rfl
                refine lv_iload_n hx hb dX12_forgers_89 rfl (lv_at hl 1 rfl) ?_
                refine lv_iload hx hb dX12_forgers_90 (lv_at hl 0 rfl) ?_
                refine lv_ior hx hb dX12_forgers_92 ?_
                refine lv_topi (fun v62 ev62 => ?_)
                have hv62 : IV 0 4095 v62 := iv_or (k := 12) ev62 q27_11 h32 (by decide) (by decide) (by decide) (by decide) (by decide) (by decide)
                have ii63 : 0 ≤ v62.toInt ∧ v62.toInt ≤ 4095 := hv62
                refine lv_istore_n (lv' := [(3, .int v62), (4, .int k27_L_4), (2, .int k27_L_2), (0, .ref a), (1, .int p0)]) hx hb dX12_forgers_93 rfl hl (by decide) rfl (fun ls hl => ?_)
                obtain ⟨v64, ev64⟩ : ∃ z : Int32, z = k27_L_4 + 1 := ⟨_, rfl⟩
                have hv64 : IV 1 4096 v64 := iv_add ev64 h32 (iv_c (a := 1) (b := 1) (by decide)) (by decide) (by decide)
                have dv64 : v64.toInt = k27_L_4.toInt + 1 := iv_addE ev64 h32 (iv_c (a := 1) (b := 1) (by decide)) (by decide) (by decide) (by decide)
                refine lv_iinc (v := v64) (lv' := [(4, .int v64), (3, .int v62), (2, .int k27_L_2), (0, .ref a), (1, .int p0)]) hx hb dX12_forgers_94 hl (k := 1) rfl (by rw [ev64]; rfl) (by decide) rfl (fun ls hl => ?_)
                refine lv_goto (tgt := 27) hx hb dX12_forgers_97 (by decide) ?_
                exact ih27 v64 v62 k27_L_2 (by have h9 := h32; unfold IV at h9; have := dv64; omega) (iv_w h44 (by decide) (by decide)) hv62 (iv_w hv64 (by decide) (by decide)) q27_13 H locs (hP.sub (ws' := [(a_said, .inl (cs 0, 123, .inl a_said_c)), (a, .inr (12, [.ref a_tape, .int a__taped, .int a__rules, .ref a_sign, .ref a_length, .ref a_clause, .ref a_clauses, .ref a_read, .int a__next, .int a__wrong, .int a__number, .int a__text, .int a__made, .int a__deep, .int a__lines, .ref a_open, .int a__opened, .ref a_stack, .int a__top, .ref a_word, .ref a_said, .int a__x, .ref a_worth, .ref a_mate, .ref a_wasSaid, .int a__undone, .int a__boughtNow, .ref a_wayBy, .ref a_wayThen, .int a__walkMost, .int a__walkGoing, .int a__walkSet, .ref a_kept, .long a__drawX, .ref a_images, .ref a_imageX, .ref a_isMade]))]) [0, 1] rfl) hS ls (lv_sub hl [0, 1, 2, 3, 4] rfl)
              · have t65 : r58.toInt < r59.toInt := lin_geN c60 rfl rfl
                have h66 : IV (-2147483648) 2147483646 r58 := iv_lt1 (Int32.not_le.mp c60) iv_top iv_top (by decide)
                have ii67 : (-2147483648) ≤ r58.toInt ∧ r58.toInt ≤ 2147483646 := h66
                have h68 : IV (-2147483647) 2147483647 r59 := iv_lt2 (Int32.not_le.mp c60) iv_top iv_top (by decide)
                have ii69 : (-2147483647) ≤ r59.toInt ∧ r59.toInt ≤ 2147483647 := h68
                refine lv_iload hx hb dX12_forgers_84 (lv_at hl 0 rfl) ?_
                refine lv_istore_n (lv' := [(2, .int k27_L_4), (4, .int k27_L_4), (3, .int k27_L_3), (0, .ref a), (1, .int p0)]) hx hb dX12_forgers_86 rfl hl (by decide) rfl (fun ls hl => ?_)
                refine lv_iconst (v := 0) hx hb dX12_forgers_87 (by decide) ?_
                refine lv_istore_n (lv' := [(3, .int 0), (2, .int k27_L_4), (4, .int k27_L_4), (0, .ref a), (1, .int p0)]) hx hb dX12_forgers_88 rfl hl (by decide) rfl (fun ls hl => ?_)
                refine lv_iload_n hx hb dX12_forgers_89 rfl (lv_at hl 0 rfl) ?_
                refine lv_iload hx hb dX12_forgers_90 (lv_at hl 2 rfl) ?_
                refine lv_ior hx hb dX12_forgers_92 ?_
                refine lv_topi (fun v70 ev70 => ?_)
                have hv70 : IV 0 4095 v70 := iv_or (k := 12) ev70 (iv_c (a := 0) (b := 0) (by decide)) h32 (by decide) (by decide) (by decide) (by decide) (by decide) (by decide)
                have ii71 : 0 ≤ v70.toInt ∧ v70.toInt ≤ 4095 := hv70
                refine lv_istore_n (lv' := [(3, .int v70), (2, .int k27_L_4), (4, .int k27_L_4), (0, .ref a), (1, .int p0)]) hx hb dX12_forgers_93 rfl hl (by decide) rfl (fun ls hl => ?_)
                obtain ⟨v72, ev72⟩ : ∃ z : Int32, z = k27_L_4 + 1 := ⟨_, rfl⟩
                have hv72 : IV 1 4096 v72 := iv_add ev72 h32 (iv_c (a := 1) (b := 1) (by decide)) (by decide) (by decide)
                have dv72 : v72.toInt = k27_L_4.toInt + 1 := iv_addE ev72 h32 (iv_c (a := 1) (b := 1) (by decide)) (by decide) (by decide) (by decide)
                refine lv_iinc (v := v72) (lv' := [(4, .int v72), (3, .int v70), (2, .int k27_L_4), (0, .ref a), (1, .int p0)]) hx hb dX12_forgers_94 hl (k := 2) rfl (by rw [ev72]; rfl) (by decide) rfl (fun ls hl => ?_)
                refine lv_goto (tgt := 27) hx hb dX12_forgers_97 (by decide) ?_
                exact ih27 v72 v70 k27_L_4 (by have h9 := h32; unfold IV at h9; have := dv72; omega) (iv_w h32 (by decide) (by decide)) hv70 (iv_w hv72 (by decide) (by decide)) q27_13 H locs (hP.sub (ws' := [(a_said, .inl (cs 0, 123, .inl a_said_c)), (a, .inr (12, [.ref a_tape, .int a__taped, .int a__rules, .ref a_sign, .ref a_length, .ref a_clause, .ref a_clauses, .ref a_read, .int a__next, .int a__wrong, .int a__number, .int a__text, .int a__made, .int a__deep, .int a__lines, .ref a_open, .int a__opened, .ref a_stack, .int a__top, .ref a_word, .ref a_said, .int a__x, .ref a_worth, .ref a_mate, .ref a_wasSaid, .int a__undone, .int a__boughtNow, .ref a_wayBy, .ref a_wayThen, .int a__walkMost, .int a__walkGoing, .int a__walkSet, .ref a_kept, .long a__drawX, .ref a_images, .ref a_imageX, .ref a_isMade]))]) [0, 1] rfl) hS ls (lv_sub hl [0, 1, 2, 3, 4] rfl)
  refine lv_aload_n hx hb dX12_forgers_0 rfl (lv_at hl 0 rfl) ?_
  refine va_calli (va_runV (As := []) (rest := []) ⟨hx, hb, hml, hown, hT⟩ (c_X12_isFair l D cs kK kV a a_said a_said_c a_tape a__taped a__rules a_sign a_length a_clause a_clauses a_read a__next a__wrong a__number a__text a__made a__deep a__lines a_open a__opened a_stack a__top a_word a__x a_worth a_mate a_wasSaid a__undone a__boughtNow a_wayBy a_wayThen a__walkMost a__walkGoing a__walkSet a_kept a__drawX a_images a_imageX a_isMade h_a__taped h_a__rules h_a__next h_a__text h_a__made h_a__lines h_a__opened h_a__top h_a__x h_a__undone hf0) (cwV 0 hT (hz_gV q_1140 q_1141 q_1142 q_701 q_1143) rfl rfl rfl (by decide +kernel) ⟨(Nat.le_of_ble_eq_true rfl), (Nat.le_of_ble_eq_true rfl)⟩) ⟨hz_P.blind, va_recv hK hP (ci := 12) (q0 := 1) rfl rfl, hz_P.mk (hP.sub (ws' := [(a_said, .inl (cs 0, 123, .inl a_said_c)), (a, .inr (12, [.ref a_tape, .int a__taped, .int a__rules, .ref a_sign, .ref a_length, .ref a_clause, .ref a_clauses, .ref a_read, .int a__next, .int a__wrong, .int a__number, .int a__text, .int a__made, .int a__deep, .int a__lines, .ref a_open, .int a__opened, .ref a_stack, .int a__top, .ref a_word, .ref a_said, .int a__x, .ref a_worth, .ref a_mate, .ref a_wasSaid, .int a__undone, .int a__boughtNow, .ref a_wayBy, .ref a_wayThen, .int a__walkMost, .int a__walkGoing, .int a__walkSet, .ref a_kept, .long a__drawX, .ref a_images, .ref a_imageX, .ref a_isMade]))]) [0,1] rfl) hE hS⟩ rfl rfl hl.1 rfl (lv_room (Nat.le_of_ble_eq_true rfl)) dX12_forgers_1 ⟨(Nat.le_of_ble_eq_true rfl), (Nat.le_of_ble_eq_true rfl)⟩) hS (fun _ _ h => h.elim) (fun _ h => h.elim) (fun r73 u t H1 locs ht hvm hw hB hz1 hk1 hS => ?_)
  have hP := hz_keep hP hk1
  clear hk1 hB hz1
  generalize H1 = H at hP hS ⊢
  rcases hw with ⟨rfl, x74⟩ | ⟨rfl, x75⟩
  · refine lv_if_eq (tgt := 17) hx hb dX12_forgers_4 (by decide) (fun _ => ?_) (fun z => absurd (by decide) z)
    refine lv_iconst (v := (-1)) hx hb dX12_forgers_17 (by decide) ?_
    exact W.iret (v := (-1)) hx hb hr (fun t ht hW => ⟨⟨(-1), (), rfl, (Or.inl (rfl)), trivial⟩, hS.F ht⟩) hS.2.2 dX12_forgers_18
  · refine lv_if_eq (tgt := 17) hx hb dX12_forgers_4 (by decide) (fun z => absurd z (by decide)) (fun _ => ?_)
    refine lv_iload_n hx hb dX12_forgers_7 rfl (lv_at hl 1 rfl) ?_
    refine lv_i2l (v := p0.toInt64) hx hb dX12_forgers_8 rfl ?_
    refine lv_lconst (v := 0) hx hb dX12_forgers_9 (by decide) ?_
    refine lv_lconst (v := 1) hx hb dX12_forgers_10 (by decide) ?_
    refine va_calli (va_runS (As := [.long p0.toInt64, .long 0, .long 1]) (rest := []) ⟨hx, hb, hml, hown, hT⟩ (c_X12_in l D cs kK kV p0.toInt64 0 1) (va_cwS 3 hT (hz_gS q_964 q_965 q_701 q_966) rfl rfl rfl (by decide +kernel) ⟨(Nat.le_of_ble_eq_true rfl), (Nat.le_of_ble_eq_true rfl)⟩) ⟨hz_P.blind, hz_P.mk (hP.sub (ws' := []) [] rfl) hE hS⟩ rfl rfl hl.1 rfl (lv_room (Nat.le_of_ble_eq_true rfl)) dX12_forgers_11 ⟨(Nat.le_of_ble_eq_true rfl), (Nat.le_of_ble_eq_true rfl)⟩) hS (fun _ _ h => h.elim) (fun _ h => h.elim) (fun r76 u t H1 locs ht hvm hw hB hz1 hk1 hS => ?_)
    have hP := hz_keep hP hk1
    clear hk1 hB hz1
    generalize H1 = H at hP hS ⊢
    rcases hw with ⟨rfl, x77⟩ | ⟨rfl, x78, x79⟩
    · have h80 : IV (-2147483648) 1 (¬ (((0 : Int64)) ≤ p0.toInt64 ∧ p0) := ⟨iv_top.1, l64_lec x77 (by decide)⟩
      have ii81 : (-2147483648) ≤ (¬ (((0 : Int64)) ≤ p0.toInt64 ∧ p0).toInt ∧ (¬ (((0 : Int64)) ≤ p0.toInt64 ∧ p0).toInt ≤ 1 := h80
      have t82 : ¬ (0 ≤ p0.toInt ∧ p0.toInt ≤ 1) := fun z => x77 ⟨l64_clI z.1 (by decide), l64_lcI z.2 (by decide)⟩
      refine lv_if_ne (tgt := 19) hx hb dX12_forgers_14 (by decide) (fun z => absurd (by decide) z) (fun _ => ?_)
      refine lv_iconst (v := (-1)) hx hb dX12_forgers_17 (by decide) ?_
      exact W.iret (v := (-1)) hx hb hr (fun t ht hW => ⟨⟨(-1), (), rfl, (Or.inl (rfl)), trivial⟩, hS.F ht⟩) hS.2.2 dX12_forgers_18
    · have h83 : IV 0 2147483647 p0 := ⟨l64_cle x78 (by decide), iv_top.2⟩
      have ii84 : 0 ≤ p0.toInt ∧ p0.toInt ≤ 2147483647 := h83
      have h85 : IV 0 1 p0 := ⟨(h83).1, l64_lec x79 (by decide)⟩
      have ii86 : 0 ≤ p0.toInt ∧ p0.toInt ≤ 1 := h85
      refine lv_if_ne (tgt := 19) hx hb dX12_forgers_14 (by decide) (fun _ => ?_) (fun z => absurd z (by decide))
      refine lv_bipush (v := (-2)) hx hb dX12_forgers_19 (by decide) ?_
      refine lv_istore_n (lv' := [(2, .int (-2)), (0, .ref a), (1, .int p0)]) hx hb dX12_forgers_21 rfl hl (by decide) rfl (fun ls hl => ?_)
      refine lv_iconst (v := 0) hx hb dX12_forgers_22 (by decide) ?_
      refine lv_istore_n (lv' := [(3, .int 0), (2, .int (-2)), (0, .ref a), (1, .int p0)]) hx hb dX12_forgers_23 rfl hl (by decide) rfl (fun ls hl => ?_)
      refine lv_iconst (v := 0) hx hb dX12_forgers_24 (by decide) ?_
      refine lv_istore (lv' := [(4, .int 0), (3, .int 0), (2, .int (-2)), (0, .ref a), (1, .int p0)]) hx hb dX12_forgers_25 hl (by decide) rfl (fun ls hl => ?_)
      exact K27 _ ((0 : Int32)) ((0 : Int32)) (((-2) : Int32)) (Nat.le_refl _) (iv_c (by decide)) (iv_c (by decide)) (iv_c (by decide)) h85 H locs (hP.sub (ws' := [(a_said, .inl (cs 0, 123, .inl a_said_c)), (a, .inr (12, [.ref a_tape, .int a__taped, .int a__rules, .ref a_sign, .ref a_length, .ref a_clause, .ref a_clauses, .ref a_read, .int a__next, .int a__wrong, .int a__number, .int a__text, .int a__made, .int a__deep, .int a__lines, .ref a_open, .int a__opened, .ref a_stack, .int a__top, .ref a_word, .ref a_said, .int a__x, .ref a_worth, .ref a_mate, .ref a_wasSaid, .int a__undone, .int a__boughtNow, .ref a_wayBy, .ref a_wayThen, .int a__walkMost, .int a__walkGoing, .int a__walkSet, .ref a_kept, .long a__drawX, .ref a_images, .ref a_imageX, .ref a_isMade]))]) [0, 1] rfl) hS ls (lv_sub hl [0, 1, 2, 3, 4] rfl)
theorem dX12_seed_0 : decode cX12_seed 0 = .ok (.iload_n 1, 1) := by decide +kernel
theorem dX12_seed_1 : decode cX12_seed 1 = .ok (.ifCond .ge 5, 3) := by decide +kernel
theorem dX12_seed_4 : decode cX12_seed 4 = .ok (.iconst (-1), 1) := by decide +kernel
theorem dX12_seed_5 : decode cX12_seed 5 = .ok (.ireturn, 1) := by decide +kernel
theorem dX12_seed_6 : decode cX12_seed 6 = .ok (.aload_n 0, 1) := by decide +kernel
theorem dX12_seed_7 : decode cX12_seed 7 = .ok (.getfield 479, 3) := by decide +kernel
theorem dX12_seed_10 : decode cX12_seed 10 = .ok (.istore_n 2, 1) := by decide +kernel
theorem dX12_seed_11 : decode cX12_seed 11 = .ok (.aload_n 0, 1) := by decide +kernel
theorem dX12_seed_12 : decode cX12_seed 12 = .ok (.iload_n 1, 1) := by decide +kernel
theorem dX12_seed_13 : decode cX12_seed 13 = .ok (.putfield 479, 3) := by decide +kernel
theorem dX12_seed_16 : decode cX12_seed 16 = .ok (.iload_n 2, 1) := by decide +kernel
theorem dX12_seed_17 : decode cX12_seed 17 = .ok (.ireturn, 1) := by decide +kernel
set_option maxHeartbeats 4000000 in
set_option maxRecDepth 100000 in
theorem c_X12_seed (l : Launch) (D : va_G) (cs : Nat → ClassId) (kK kV : Nat → Nat) (a : Nat) (p0 : Int32) (a_tape : Nat) (a__taped : Int32) (a__rules : Int32) (a_sign : Nat) (a_length : Nat) (a_clause : Nat) (a_clauses : Nat) (a_read : Nat) (a__next : Int32) (a__wrong : Int32) (a__number : Int32) (a__text : Int32) (a__made : Int32) (a__deep : Int32) (a__lines : Int32) (a_open : Nat) (a__opened : Int32) (a_stack : Nat) (a__top : Int32) (a_word : Nat) (a_said : Nat) (a__x : Int32) (a_worth : Nat) (a_mate : Nat) (a_wasSaid : Nat) (a__undone : Int32) (a__boughtNow : Int32) (a_wayBy : Nat) (a_wayThen : Nat) (a__walkMost : Int32) (a__walkGoing : Int32) (a__walkSet : Int32) (a_kept : Nat) (a__drawX : Int64) (a_images : Nat) (a_imageX : Nat) (a_isMade : Nat) (h_a__taped : IV 0 400 a__taped) (h_a__rules : IV 0 6 a__rules) (h_a__next : IV 0 400 a__next) (h_a__text : IV 0 6 a__text) (h_a__made : IV 0 60 a__made) (h_a__lines : IV 0 40 a__lines) (h_a__opened : IV 0 400 a__opened) (h_a__top : IV 0 64 a__top) (h_a__x : IV 0 2147483647 a__x) (h_a__undone : IV 0 20 a__undone) (sz : Nat) : Met l yX12_seed (hz_w yX12_seed cX12_seed 3 (some .int)) ({ frames := 0, cells := 0, slots := 0, locals := 0 }) (va_Pc [.ref a, .int p0] (hz_C D cs kK kV sz [(a, .inr (12, [.ref a_tape, .int a__taped, .int a__rules, .ref a_sign, .ref a_length, .ref a_clause, .ref a_clauses, .ref a_read, .int a__next, .int a__wrong, .int a__number, .int a__text, .int a__made, .int a__deep, .int a__lines, .ref a_open, .int a__opened, .ref a_stack, .int a__top, .ref a_word, .ref a_said, .int a__x, .ref a_worth, .ref a_mate, .ref a_wasSaid, .int a__undone, .int a__boughtNow, .ref a_wayBy, .ref a_wayThen, .int a__walkMost, .int a__walkGoing, .int a__walkSet, .ref a_kept, .long a__drawX, .ref a_images, .ref a_imageX, .ref a_isMade]))])) (va_Qi (fun (r : Int32) (u : (Nat → Int32) × (Nat → Nat → Int32)) => (r = (-1) ∧ IV (-2147483648) (-1) p0 ∧ IV 0 2147483647 (u.1 1) ∧ ((u.1 1) = a__x) ∧ (p0.toInt < 0)) ∨ (IV 0 2147483647 r ∧ IV 0 2147483647 p0 ∧ IV 0 2147483647 (u.1 1) ∧ (r = a__x) ∧ ((u.1 1) = p0) ∧ (0 ≤ p0.toInt))) (fun u t => va_P D classes [(a, .inr (12, [.ref a_tape, .int a__taped, .int a__rules, .ref a_sign, .ref a_length, .ref a_clause, .ref a_clauses, .ref a_read, .int a__next, .int a__wrong, .int a__number, .int a__text, .int a__made, .int a__deep, .int a__lines, .ref a_open, .int a__opened, .ref a_stack, .int a__top, .ref a_word, .ref a_said, .int (u.1 1), .ref a_worth, .ref a_mate, .ref a_wasSaid, .int a__undone, .int a__boughtNow, .ref a_wayBy, .ref a_wayThen, .int a__walkMost, .int a__walkGoing, .int a__walkSet, .ref a_kept, .long a__drawX, .ref a_images, .ref a_imageX, .ref a_isMade]))] t.heap ∧ va_D (va_A [(a, .inr (12, [.ref a_tape, .int a__taped, .int a__rules, .ref a_sign, .ref a_length, .ref a_clause, .ref a_clauses, .ref a_read, .int a__next, .int a__wrong, .int a__number, .int a__text, .int a__made, .int a__deep, .int a__lines, .ref a_open, .int a__opened, .ref a_stack, .int a__top, .ref a_word, .ref a_said, .int a__x, .ref a_worth, .ref a_mate, .ref a_wasSaid, .int a__undone, .int a__boughtNow, .ref a_wayBy, .ref a_wayThen, .int a__walkMost, .int a__walkGoing, .int a__walkSet, .ref a_kept, .long a__drawX, .ref a_images, .ref a_imageX, .ref a_isMade]))] sz) [(a, .inr (12, [.ref a_tape, .int a__taped, .int a__rules, .ref a_sign, .ref a_length, .ref a_clause, .ref a_clauses, .ref a_read, .int a__next, .int a__wrong, .int a__number, .int a__text, .int a__made, .int a__deep, .int a__lines, .ref a_open, .int a__opened, .ref a_stack, .int a__top, .ref a_word, .ref a_said, .int (u.1 1), .ref a_worth, .ref a_mate, .ref a_wasSaid, .int a__undone, .int a__boughtNow, .ref a_wayBy, .ref a_wayThen, .int a__walkMost, .int a__walkGoing, .int a__walkSet, .ref a_kept, .long a__drawX, .ref a_images, .ref a_imageX, .ref a_isMade]))]) (va_A [(a, .inr (12, [.ref a_tape, .int a__taped, .int a__rules, .ref a_sign, .ref a_length, .ref a_clause, .ref a_clauses, .ref a_read, .int a__next, .int a__wrong, .int a__number, .int a__text, .int a__made, .int a__deep, .int a__lines, .ref a_open, .int a__opened, .ref a_stack, .int a__top, .ref a_word, .ref a_said, .int a__x, .ref a_worth, .ref a_mate, .ref a_wasSaid, .int a__undone, .int a__boughtNow, .ref a_wayBy, .ref a_wayThen, .int a__walkMost, .int a__walkGoing, .int a__walkSet, .ref a_kept, .long a__drawX, .ref a_images, .ref a_imageX, .ref a_isMade]))] sz)) 0 0 (va_A [(a, .inr (12, [.ref a_tape, .int a__taped, .int a__rules, .ref a_sign, .ref a_length, .ref a_clause, .ref a_clauses, .ref a_read, .int a__next, .int a__wrong, .int a__number, .int a__text, .int a__made, .int a__deep, .int a__lines, .ref a_open, .int a__opened, .ref a_stack, .int a__top, .ref a_word, .ref a_said, .int a__x, .ref a_worth, .ref a_mate, .ref a_wasSaid, .int a__undone, .int a__boughtNow, .ref a_wayBy, .ref a_wayThen, .int a__walkMost, .int a__walkGoing, .int a__walkSet, .ref a_kept, .long a__drawX, .ref a_images, .ref a_imageX, .ref a_isMade]))] sz) := by
  refine Met.ofW (cc := cX12_seed) (maxL := 3) (ret := (some .int)) (by decide) rfl ?_
  intro p e s m args below meth c s₁ B hml hv
  obtain ⟨rfl, hsz, hP, hD0, hE⟩ := hv
  have hx := B.exec
  have hb := B.bytes
  have hr := B.returns
  have hT : ∀ w ∈ TB, w.before _ s = true := fun w h => atoms_spec (ws := hz_w yX12_seed cX12_seed 3 (some .int)) B.pre w (List.mem_cons_of_mem _ h)
  have hown : s.vm.findClass RX12 = some m.cls := findClass_of_methodNamed B.named
  have hlocks := B.notSynchronized
  clear B
  subst hsz
  have hD := hD0.self (sz := s.heap.size)
  generalize hAe : va_A [(a, .inr (12, [.ref a_tape, .int a__taped, .int a__rules, .ref a_sign, .ref a_length, .ref a_clause, .ref a_clauses, .ref a_read, .int a__next, .int a__wrong, .int a__number, .int a__text, .int a__made, .int a__deep, .int a__lines, .ref a_open, .int a__opened, .ref a_stack, .int a__top, .ref a_word, .ref a_said, .int a__x, .ref a_worth, .ref a_mate, .ref a_wasSaid, .int a__undone, .int a__boughtNow, .ref a_wayBy, .ref a_wayThen, .int a__walkMost, .int a__walkGoing, .int a__walkSet, .ref a_kept, .long a__drawX, .ref a_images, .ref a_imageX, .ref a_isMade]))] s.heap.size = A at hD hE ⊢
  have hA : ∀ q : Nat, s.heap.size ≤ q → A q := fun q h => by rw [← hAe]; exact Or.inr h
  clear hAe hD0
  have hS : va_S A s.heap s.heap [] := va_S.rf
  have hK := hE.1
  have hl := lv_entry ([.ref a, .int p0]) (n := 3) (Nat.le_of_ble_eq_true rfl)
  rw [lg_entry_eq]
  generalize (lg_sl ([.ref a, .int p0]) ++ List.replicate (3 - (lg_sl ([.ref a, .int p0])).length) Slot.unset).toArray = ls at hl ⊢
  have hl : lv_has ls 3 [(0, .ref a), (1, .int p0)] := hl
  obtain ⟨H, eH⟩ : ∃ z, z = s.heap := ⟨_, rfl⟩
  have hP : va_P D classes [(a, .inr (12, [.ref a_tape, .int a__taped, .int a__rules, .ref a_sign, .ref a_length, .ref a_clause, .ref a_clauses, .ref a_read, .int a__next, .int a__wrong, .int a__number, .int a__text, .int a__made, .int a__deep, .int a__lines, .ref a_open, .int a__opened, .ref a_stack, .int a__top, .ref a_word, .ref a_said, .int a__x, .ref a_worth, .ref a_mate, .ref a_wasSaid, .int a__undone, .int a__boughtNow, .ref a_wayBy, .ref a_wayThen, .int a__walkMost, .int a__walkGoing, .int a__walkSet, .ref a_kept, .long a__drawX, .ref a_images, .ref a_imageX, .ref a_isMade]))] H := by rw [eH]; exact hP
  have hS : va_S A s.heap H [] := by rw [eH]; exact hS
  rw [← eH]
  clear eH
  obtain ⟨locs, el⟩ : ∃ z : List Loc, z = [] := ⟨_, rfl⟩
  rw [← el] at hS ⊢
  clear el
  have z0 : (0 : Int32).toInt = 0 := by decide
  have z1 : (1 : Int32).toInt = 1 := by decide
  have zm1 : (-1 : Int32).toInt = -1 := by decide
  have i_a__lines : 0 ≤ a__lines.toInt ∧ a__lines.toInt ≤ 40 := h_a__lines
  have i_a__made : 0 ≤ a__made.toInt ∧ a__made.toInt ≤ 60 := h_a__made
  have i_a__next : 0 ≤ a__next.toInt ∧ a__next.toInt ≤ 400 := h_a__next
  have i_a__opened : 0 ≤ a__opened.toInt ∧ a__opened.toInt ≤ 400 := h_a__opened
  have i_a__rules : 0 ≤ a__rules.toInt ∧ a__rules.toInt ≤ 6 := h_a__rules
  have i_a__taped : 0 ≤ a__taped.toInt ∧ a__taped.toInt ≤ 400 := h_a__taped
  have i_a__text : 0 ≤ a__text.toInt ∧ a__text.toInt ≤ 6 := h_a__text
  have i_a__top : 0 ≤ a__top.toInt ∧ a__top.toInt ≤ 64 := h_a__top
  have i_a__undone : 0 ≤ a__undone.toInt ∧ a__undone.toInt ≤ 20 := h_a__undone
  have i_a__x : 0 ≤ a__x.toInt ∧ a__x.toInt ≤ 2147483647 := h_a__x
  refine lv_iload_n hx hb dX12_seed_0 rfl (lv_at hl 1 rfl) ?_
  refine lv_if_ge (tgt := 6) hx hb dX12_seed_1 (by decide) (fun c1 => ?_) (fun c1 => ?_)
  · have t2 : p0.toInt ≥ 0 := lin_ge c1 rfl (by decide)
    have h3 : IV 0 2147483647 p0 := iv_le2 c1 (iv_c (a := 0) (b := 0) (by decide)) iv_top (by decide)
    have ii4 : 0 ≤ p0.toInt ∧ p0.toInt ≤ 2147483647 := h3
    refine lv_aload_n hx hb dX12_seed_6 rfl (lv_at hl 0 rfl) ?_
    refine va_get (D := D) (ci := 12) (v := .int a__x) (C := RX12) (T := TX12) (N := 37) hx hb hT i_X12 hown hK hP 0 rfl rfl 21 (by decide) (hT _ q_211) (fun _ h9 => h9) rfl dX12_seed_7 ?_
    refine lv_istore_n (lv' := [(2, .int a__x), (0, .ref a), (1, .int p0)]) hx hb dX12_seed_10 rfl hl (by decide) rfl (fun ls hl => ?_)
    refine lv_aload_n hx hb dX12_seed_11 rfl (lv_at hl 1 rfl) ?_
    refine lv_iload_n hx hb dX12_seed_12 rfl (lv_at hl 2 rfl) ?_
    refine va_put (D := D) (ci := 12) (v := .int p0) (ty := .int) (C := RX12) (T := TX12) (N := 37) hx hb hT i_X12 tyX12 tyX12_ok nmX12 hown hK hP hD hS 0 rfl rfl 21 (by decide) (hT _ q_211) (fun _ h9 => h9) rfl (by decide +kernel) rfl rfl (Nat.le_of_ble_eq_true rfl) dX12_seed_13 (fun H locs hP hD hS => ?_)
    have hP : va_P D classes [(a, .inr (12, [.ref a_tape, .int a__taped, .int a__rules, .ref a_sign, .ref a_length, .ref a_clause, .ref a_clauses, .ref a_read, .int a__next, .int a__wrong, .int a__number, .int a__text, .int a__made, .int a__deep, .int a__lines, .ref a_open, .int a__opened, .ref a_stack, .int a__top, .ref a_word, .ref a_said, .int p0, .ref a_worth, .ref a_mate, .ref a_wasSaid, .int a__undone, .int a__boughtNow, .ref a_wayBy, .ref a_wayThen, .int a__walkMost, .int a__walkGoing, .int a__walkSet, .ref a_kept, .long a__drawX, .ref a_images, .ref a_imageX, .ref a_isMade]))] H := hP
    have hD : va_D A [(a, .inr (12, [.ref a_tape, .int a__taped, .int a__rules, .ref a_sign, .ref a_length, .ref a_clause, .ref a_clauses, .ref a_read, .int a__next, .int a__wrong, .int a__number, .int a__text, .int a__made, .int a__deep, .int a__lines, .ref a_open, .int a__opened, .ref a_stack, .int a__top, .ref a_word, .ref a_said, .int p0, .ref a_worth, .ref a_mate, .ref a_wasSaid, .int a__undone, .int a__boughtNow, .ref a_wayBy, .ref a_wayThen, .int a__walkMost, .int a__walkGoing, .int a__walkSet, .ref a_kept, .long a__drawX, .ref a_images, .ref a_imageX, .ref a_isMade]))] := hD
    refine lv_iload_n hx hb dX12_seed_16 rfl (lv_at hl 0 rfl) ?_
    refine W.widen (k := 0) (n := 0) (Nat.le_of_ble_eq_true rfl) (Nat.le_of_ble_eq_true rfl) ?_
    have g5 : a__x = a__x := (rfl)
    have g6 : p0 = p0 := (rfl)
    have g7 : 0 ≤ p0.toInt := (by omega)
    exact W.iret (v := a__x) hx hb hr (fun t ht hW => ⟨⟨a__x, (fun k => match k with | 0 => 0 | 1 => p0 | _ => 0, fun _ _ => 0), rfl, (Or.inr ((⟨h_a__x, h3, h3, g5, g6, g7⟩))), by rw [ht]; exact hP.sub [0] rfl, hD.sub [0] (by decide) rfl⟩, hS.F ht⟩) hS.2.2 dX12_seed_17
  · have t8 : p0.toInt < 0 := lin_geN c1 rfl (by decide)
    have h9 : IV (-2147483648) (-1) p0 := iv_lt1 (Int32.not_le.mp c1) iv_top (iv_c (a := 0) (b := 0) (by decide)) (by decide)
    have ii10 : (-2147483648) ≤ p0.toInt ∧ p0.toInt ≤ (-1) := h9
    refine lv_iconst (v := (-1)) hx hb dX12_seed_4 (by decide) ?_
    refine W.widen (k := 0) (n := 0) (Nat.le_of_ble_eq_true rfl) (Nat.le_of_ble_eq_true rfl) ?_
    have g11 : a__x = a__x := (rfl)
    have g12 : p0.toInt < 0 := (by omega)
    exact W.iret (v := (-1)) hx hb hr (fun t ht hW => ⟨⟨(-1), (fun k => match k with | 0 => 0 | 1 => a__x | _ => 0, fun _ _ => 0), rfl, (Or.inl (⟨rfl, h9, h_a__x, g11, g12⟩)), by rw [ht]; exact hP.sub [0] rfl, hD.sub [0] (by decide) rfl⟩, hS.F ht⟩) hS.2.2 dX12_seed_5
theorem dX12_draw_0 : decode cX12_draw 0 = .ok (.aload_n 0, 1) := by decide +kernel
theorem dX12_draw_1 : decode cX12_draw 1 = .ok (.aload_n 0, 1) := by decide +kernel
theorem dX12_draw_2 : decode cX12_draw 2 = .ok (.getfield 482, 3) := by decide +kernel
theorem dX12_draw_5 : decode cX12_draw 5 = .ok (.ldc2_w 486, 3) := by decide +kernel
theorem dX12_draw_8 : decode cX12_draw 8 = .ok (.lmul, 1) := by decide +kernel
theorem dX12_draw_9 : decode cX12_draw 9 = .ok (.ldc2_w 488, 3) := by decide +kernel
theorem dX12_draw_12 : decode cX12_draw 12 = .ok (.ladd, 1) := by decide +kernel
theorem dX12_draw_13 : decode cX12_draw 13 = .ok (.ldc2_w 490, 3) := by decide +kernel
theorem dX12_draw_16 : decode cX12_draw 16 = .ok (.lrem, 1) := by decide +kernel
theorem dX12_draw_17 : decode cX12_draw 17 = .ok (.putfield 482, 3) := by decide +kernel
theorem dX12_draw_20 : decode cX12_draw 20 = .ok (.aload_n 0, 1) := by decide +kernel
theorem dX12_draw_21 : decode cX12_draw 21 = .ok (.getfield 482, 3) := by decide +kernel
theorem dX12_draw_24 : decode cX12_draw 24 = .ok (.ldc2_w 492, 3) := by decide +kernel
theorem dX12_draw_27 : decode cX12_draw 27 = .ok (.ldiv, 1) := by decide +kernel
theorem dX12_draw_28 : decode cX12_draw 28 = .ok (.iload_n 1, 1) := by decide +kernel
theorem dX12_draw_29 : decode cX12_draw 29 = .ok (.i2l, 1) := by decide +kernel
theorem dX12_draw_30 : decode cX12_draw 30 = .ok (.lrem, 1) := by decide +kernel
theorem dX12_draw_31 : decode cX12_draw 31 = .ok (.l2i, 1) := by decide +kernel
theorem dX12_draw_32 : decode cX12_draw 32 = .ok (.ireturn, 1) := by decide +kernel
set_option maxHeartbeats 4000000 in
set_option maxRecDepth 100000 in
theorem c_X12_draw (l : Launch) (D : va_G) (cs : Nat → ClassId) (kK kV : Nat → Nat) (a : Nat) (p0 : Int32) (a_tape : Nat) (a__taped : Int32) (a__rules : Int32) (a_sign : Nat) (a_length : Nat) (a_clause : Nat) (a_clauses : Nat) (a_read : Nat) (a__next : Int32) (a__wrong : Int32) (a__number : Int32) (a__text : Int32) (a__made : Int32) (a__deep : Int32) (a__lines : Int32) (a_open : Nat) (a__opened : Int32) (a_stack : Nat) (a__top : Int32) (a_word : Nat) (a_said : Nat) (a__x : Int32) (a_worth : Nat) (a_mate : Nat) (a_wasSaid : Nat) (a__undone : Int32) (a__boughtNow : Int32) (a_wayBy : Nat) (a_wayThen : Nat) (a__walkMost : Int32) (a__walkGoing : Int32) (a__walkSet : Int32) (a_kept : Nat) (a__drawX : Int64) (a_images : Nat) (a_imageX : Nat) (a_isMade : Nat) (h_p0 : IV 1 100 p0) (h_a__taped : IV 0 400 a__taped) (h_a__rules : IV 0 6 a__rules) (h_a__next : IV 0 400 a__next) (h_a__text : IV 0 6 a__text) (h_a__made : IV 0 60 a__made) (h_a__lines : IV 0 40 a__lines) (h_a__opened : IV 0 400 a__opened) (h_a__top : IV 0 64 a__top) (h_a__x : IV 0 2147483647 a__x) (h_a__undone : IV 0 20 a__undone) (hf0 : 0 ≤ a__drawX.toInt ∧ a__drawX.toInt < 2147483648) (sz : Nat) : Met l yX12_draw (hz_w yX12_draw cX12_draw 2 (some .int)) ({ frames := 0, cells := 0, slots := 0, locals := 0 }) (va_Pc [.ref a, .int p0] (hz_C D cs kK kV sz [(a, .inr (12, [.ref a_tape, .int a__taped, .int a__rules, .ref a_sign, .ref a_length, .ref a_clause, .ref a_clauses, .ref a_read, .int a__next, .int a__wrong, .int a__number, .int a__text, .int a__made, .int a__deep, .int a__lines, .ref a_open, .int a__opened, .ref a_stack, .int a__top, .ref a_word, .ref a_said, .int a__x, .ref a_worth, .ref a_mate, .ref a_wasSaid, .int a__undone, .int a__boughtNow, .ref a_wayBy, .ref a_wayThen, .int a__walkMost, .int a__walkGoing, .int a__walkSet, .ref a_kept, .long a__drawX, .ref a_images, .ref a_imageX, .ref a_isMade]))])) (va_Qi (fun (r : Int32) (u : (Nat → Int32) × (Nat → Nat → Int32)) => ((0 ≤ o_a_33.toInt ∧ o_a_33.toInt < 2147483648) ∧ (0 ≤ r.toInt ∧ r.toInt < p0.toInt))) (fun u t => ∃ (o_a_33 : Int64), va_P D classes [(a, .inr (12, [.ref a_tape, .int a__taped, .int a__rules, .ref a_sign, .ref a_length, .ref a_clause, .ref a_clauses, .ref a_read, .int a__next, .int a__wrong, .int a__number, .int a__text, .int a__made, .int a__deep, .int a__lines, .ref a_open, .int a__opened, .ref a_stack, .int a__top, .ref a_word, .ref a_said, .int a__x, .ref a_worth, .ref a_mate, .ref a_wasSaid, .int a__undone, .int a__boughtNow, .ref a_wayBy, .ref a_wayThen, .int a__walkMost, .int a__walkGoing, .int a__walkSet, .ref a_kept, .long o_a_33, .ref a_images, .ref a_imageX, .ref a_isMade]))] t.heap ∧ va_D (va_A [(a, .inr (12, [.ref a_tape, .int a__taped, .int a__rules, .ref a_sign, .ref a_length, .ref a_clause, .ref a_clauses, .ref a_read, .int a__next, .int a__wrong, .int a__number, .int a__text, .int a__made, .int a__deep, .int a__lines, .ref a_open, .int a__opened, .ref a_stack, .int a__top, .ref a_word, .ref a_said, .int a__x, .ref a_worth, .ref a_mate, .ref a_wasSaid, .int a__undone, .int a__boughtNow, .ref a_wayBy, .ref a_wayThen, .int a__walkMost, .int a__walkGoing, .int a__walkSet, .ref a_kept, .long a__drawX, .ref a_images, .ref a_imageX, .ref a_isMade]))] sz) [(a, .inr (12, [.ref a_tape, .int a__taped, .int a__rules, .ref a_sign, .ref a_length, .ref a_clause, .ref a_clauses, .ref a_read, .int a__next, .int a__wrong, .int a__number, .int a__text, .int a__made, .int a__deep, .int a__lines, .ref a_open, .int a__opened, .ref a_stack, .int a__top, .ref a_word, .ref a_said, .int a__x, .ref a_worth, .ref a_mate, .ref a_wasSaid, .int a__undone, .int a__boughtNow, .ref a_wayBy, .ref a_wayThen, .int a__walkMost, .int a__walkGoing, .int a__walkSet, .ref a_kept, .long o_a_33, .ref a_images, .ref a_imageX, .ref a_isMade]))]) (va_A [(a, .inr (12, [.ref a_tape, .int a__taped, .int a__rules, .ref a_sign, .ref a_length, .ref a_clause, .ref a_clauses, .ref a_read, .int a__next, .int a__wrong, .int a__number, .int a__text, .int a__made, .int a__deep, .int a__lines, .ref a_open, .int a__opened, .ref a_stack, .int a__top, .ref a_word, .ref a_said, .int a__x, .ref a_worth, .ref a_mate, .ref a_wasSaid, .int a__undone, .int a__boughtNow, .ref a_wayBy, .ref a_wayThen, .int a__walkMost, .int a__walkGoing, .int a__walkSet, .ref a_kept, .long a__drawX, .ref a_images, .ref a_imageX, .ref a_isMade]))] sz)) 0 0 (va_A [(a, .inr (12, [.ref a_tape, .int a__taped, .int a__rules, .ref a_sign, .ref a_length, .ref a_clause, .ref a_clauses, .ref a_read, .int a__next, .int a__wrong, .int a__number, .int a__text, .int a__made, .int a__deep, .int a__lines, .ref a_open, .int a__opened, .ref a_stack, .int a__top, .ref a_word, .ref a_said, .int a__x, .ref a_worth, .ref a_mate, .ref a_wasSaid, .int a__undone, .int a__boughtNow, .ref a_wayBy, .ref a_wayThen, .int a__walkMost, .int a__walkGoing, .int a__walkSet, .ref a_kept, .long a__drawX, .ref a_images, .ref a_imageX, .ref a_isMade]))] sz) := by
  refine Met.ofW (cc := cX12_draw) (maxL := 2) (ret := (some .int)) (by decide) rfl ?_
  intro p e s m args below meth c s₁ B hml hv
  obtain ⟨rfl, hsz, hP, hD0, hE⟩ := hv
  have hx := B.exec
  have hb := B.bytes
  have hr := B.returns
  have hT : ∀ w ∈ TB, w.before _ s = true := fun w h => atoms_spec (ws := hz_w yX12_draw cX12_draw 2 (some .int)) B.pre w (List.mem_cons_of_mem _ h)
  have hown : s.vm.findClass RX12 = some m.cls := findClass_of_methodNamed B.named
  have hlocks := B.notSynchronized
  clear B
  subst hsz
  have hD := hD0.self (sz := s.heap.size)
  generalize hAe : va_A [(a, .inr (12, [.ref a_tape, .int a__taped, .int a__rules, .ref a_sign, .ref a_length, .ref a_clause, .ref a_clauses, .ref a_read, .int a__next, .int a__wrong, .int a__number, .int a__text, .int a__made, .int a__deep, .int a__lines, .ref a_open, .int a__opened, .ref a_stack, .int a__top, .ref a_word, .ref a_said, .int a__x, .ref a_worth, .ref a_mate, .ref a_wasSaid, .int a__undone, .int a__boughtNow, .ref a_wayBy, .ref a_wayThen, .int a__walkMost, .int a__walkGoing, .int a__walkSet, .ref a_kept, .long a__drawX, .ref a_images, .ref a_imageX, .ref a_isMade]))] s.heap.size = A at hD hE ⊢
  have hA : ∀ q : Nat, s.heap.size ≤ q → A q := fun q h => by rw [← hAe]; exact Or.inr h
  clear hAe hD0
  have hS : va_S A s.heap s.heap [] := va_S.rf
  have hK := hE.1
  have hl := lv_entry ([.ref a, .int p0]) (n := 2) (Nat.le_of_ble_eq_true rfl)
  rw [lg_entry_eq]
  generalize (lg_sl ([.ref a, .int p0]) ++ List.replicate (2 - (lg_sl ([.ref a, .int p0])).length) Slot.unset).toArray = ls at hl ⊢
  have hl : lv_has ls 2 [(0, .ref a), (1, .int p0)] := hl
  obtain ⟨H, eH⟩ : ∃ z, z = s.heap := ⟨_, rfl⟩
  have hP : va_P D classes [(a, .inr (12, [.ref a_tape, .int a__taped, .int a__rules, .ref a_sign, .ref a_length, .ref a_clause, .ref a_clauses, .ref a_read, .int a__next, .int a__wrong, .int a__number, .int a__text, .int a__made, .int a__deep, .int a__lines, .ref a_open, .int a__opened, .ref a_stack, .int a__top, .ref a_word, .ref a_said, .int a__x, .ref a_worth, .ref a_mate, .ref a_wasSaid, .int a__undone, .int a__boughtNow, .ref a_wayBy, .ref a_wayThen, .int a__walkMost, .int a__walkGoing, .int a__walkSet, .ref a_kept, .long a__drawX, .ref a_images, .ref a_imageX, .ref a_isMade]))] H := by rw [eH]; exact hP
  have hS : va_S A s.heap H [] := by rw [eH]; exact hS
  rw [← eH]
  clear eH
  obtain ⟨locs, el⟩ : ∃ z : List Loc, z = [] := ⟨_, rfl⟩
  rw [← el] at hS ⊢
  clear el
  have z0 : (0 : Int32).toInt = 0 := by decide
  have z1 : (1 : Int32).toInt = 1 := by decide
  have zm1 : (-1 : Int32).toInt = -1 := by decide
  have i_a__lines : 0 ≤ a__lines.toInt ∧ a__lines.toInt ≤ 40 := h_a__lines
  have i_a__made : 0 ≤ a__made.toInt ∧ a__made.toInt ≤ 60 := h_a__made
  have i_a__next : 0 ≤ a__next.toInt ∧ a__next.toInt ≤ 400 := h_a__next
  have i_a__opened : 0 ≤ a__opened.toInt ∧ a__opened.toInt ≤ 400 := h_a__opened
  have i_a__rules : 0 ≤ a__rules.toInt ∧ a__rules.toInt ≤ 6 := h_a__rules
  have i_a__taped : 0 ≤ a__taped.toInt ∧ a__taped.toInt ≤ 400 := h_a__taped
  have i_a__text : 0 ≤ a__text.toInt ∧ a__text.toInt ≤ 6 := h_a__text
  have i_a__top : 0 ≤ a__top.toInt ∧ a__top.toInt ≤ 64 := h_a__top
  have i_a__undone : 0 ≤ a__undone.toInt ∧ a__undone.toInt ≤ 20 := h_a__undone
  have i_a__x : 0 ≤ a__x.toInt ∧ a__x.toInt ≤ 2147483647 := h_a__x
  have i_p0 : 1 ≤ p0.toInt ∧ p0.toInt ≤ 100 := h_p0
  refine lv_aload_n hx hb dX12_draw_0 rfl (lv_at hl 0 rfl) ?_
  refine lv_aload_n hx hb dX12_draw_1 rfl (lv_at hl 0 rfl) ?_
  refine va_get (D := D) (ci := 12) (v := .long a__drawX) (C := RX12) (T := TX12) (N := 37) hx hb hT i_X12 hown hK hP 0 rfl rfl 33 (by decide) (hT _ q_212) (fun _ h9 => h9) rfl dX12_draw_2 ?_
  refine lv_ldc2 hx hb hown (hT _ q_1422) dX12_draw_5 ?_
  refine lv_lmul hx hb dX12_draw_8 ?_
  refine lv_topl (fun u1 eu1 => ?_)
  refine lv_ldc2 hx hb hown (hT _ q_1423) dX12_draw_9 ?_
  refine lv_ladd hx hb dX12_draw_12 ?_
  refine lv_topl (fun u2 eu2 => ?_)
  refine lv_ldc2 hx hb hown (hT _ q_1424) dX12_draw_13 ?_
  refine lv_lrem hx hb dX12_draw_16 (by decide) ?_
  refine lv_topl (fun u3 eu3 => ?_)
  refine va_put (D := D) (ci := 12) (v := .long u3) (ty := .long) (C := RX12) (T := TX12) (N := 37) hx hb hT i_X12 tyX12 tyX12_ok nmX12 hown hK hP hD hS 0 rfl rfl 33 (by decide) (hT _ q_212) (fun _ h9 => h9) rfl (by decide +kernel) rfl rfl (Nat.le_of_ble_eq_true rfl) dX12_draw_17 (fun H locs hP hD hS => ?_)
  have hP : va_P D classes [(a, .inr (12, [.ref a_tape, .int a__taped, .int a__rules, .ref a_sign, .ref a_length, .ref a_clause, .ref a_clauses, .ref a_read, .int a__next, .int a__wrong, .int a__number, .int a__text, .int a__made, .int a__deep, .int a__lines, .ref a_open, .int a__opened, .ref a_stack, .int a__top, .ref a_word, .ref a_said, .int a__x, .ref a_worth, .ref a_mate, .ref a_wasSaid, .int a__undone, .int a__boughtNow, .ref a_wayBy, .ref a_wayThen, .int a__walkMost, .int a__walkGoing, .int a__walkSet, .ref a_kept, .long u3, .ref a_images, .ref a_imageX, .ref a_isMade]))] H := hP
  have hD : va_D A [(a, .inr (12, [.ref a_tape, .int a__taped, .int a__rules, .ref a_sign, .ref a_length, .ref a_clause, .ref a_clauses, .ref a_read, .int a__next, .int a__wrong, .int a__number, .int a__text, .int a__made, .int a__deep, .int a__lines, .ref a_open, .int a__opened, .ref a_stack, .int a__top, .ref a_word, .ref a_said, .int a__x, .ref a_worth, .ref a_mate, .ref a_wasSaid, .int a__undone, .int a__boughtNow, .ref a_wayBy, .ref a_wayThen, .int a__walkMost, .int a__walkGoing, .int a__walkSet, .ref a_kept, .long u3, .ref a_images, .ref a_imageX, .ref a_isMade]))] := hD
  refine lv_aload_n hx hb dX12_draw_20 rfl (lv_at hl 0 rfl) ?_
  refine va_get (D := D) (ci := 12) (v := .long u3) (C := RX12) (T := TX12) (N := 37) hx hb hT i_X12 hown hK hP 0 rfl rfl 33 (by decide) (hT _ q_212) (fun _ h9 => h9) rfl dX12_draw_21 ?_
  refine lv_ldc2 hx hb hown (hT _ q_1425) dX12_draw_24 ?_
  refine lv_ldiv hx hb dX12_draw_27 (by decide) ?_
  refine lv_topl (fun u4 eu4 => ?_)
  refine lv_iload_n hx hb dX12_draw_28 rfl (lv_at hl 1 rfl) ?_
  refine lv_i2l (v := p0.toInt64) hx hb dX12_draw_29 rfl ?_
  refine lv_lrem hx hb dX12_draw_30 (l64_ne (by omega)) ?_
  refine lv_topl (fun u5 eu5 => ?_)
  refine lv_l2i (v := u5.toInt32) hx hb dX12_draw_31 rfl ?_
  refine lv_topi (fun v6 ev6 => ?_)
  refine W.widen (k := 0) (n := 0) (Nat.le_of_ble_eq_true rfl) (Nat.le_of_ble_eq_true rfl) ?_
  have g7 : 0 ≤ u3.toInt ∧ u3.toInt < 2147483648 := (dr_x eu1 eu2 eu3 hf0)
  have g8 : 0 ≤ v6.toInt ∧ v6.toInt < p0.toInt := (dr_r eu4 eu5 ev6 (dr_x eu1 eu2 eu3 hf0) ⟨by omega, by omega⟩)
  exact W.iret (v := v6) hx hb hr (fun t ht hW => ⟨⟨v6, (fun k => match k with | 0 => 0 | _ => 0, fun _ _ => 0), rfl, (⟨g7, g8⟩), u3, by rw [ht]; exact hP.sub [0] rfl, hD.sub [0] (by decide) rfl⟩, hS.F ht⟩) hS.2.2 dX12_draw_32
