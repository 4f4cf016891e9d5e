theorem dX12_offers_0 : decode cX12_offers 0 = .ok (.iconst 0, 1) := by decide +kernel
theorem dX12_offers_1 : decode cX12_offers 1 = .ok (.istore_n 3, 1) := by decide +kernel
theorem dX12_offers_2 : decode cX12_offers 2 = .ok (.iconst 0, 1) := by decide +kernel
theorem dX12_offers_3 : decode cX12_offers 3 = .ok (.istore 4, 2) := by decide +kernel
theorem dX12_offers_5 : decode cX12_offers 5 = .ok (.iconst 0, 1) := by decide +kernel
theorem dX12_offers_6 : decode cX12_offers 6 = .ok (.istore 5, 2) := by decide +kernel
theorem dX12_offers_8 : decode cX12_offers 8 = .ok (.iload 5, 2) := by decide +kernel
theorem dX12_offers_10 : decode cX12_offers 10 = .ok (.aload_n 0, 1) := by decide +kernel
theorem dX12_offers_11 : decode cX12_offers 11 = .ok (.getfield 39, 3) := by decide +kernel
theorem dX12_offers_14 : decode cX12_offers 14 = .ok (.iconst 1, 1) := by decide +kernel
theorem dX12_offers_15 : decode cX12_offers 15 = .ok (.iaload, 1) := by decide +kernel
theorem dX12_offers_16 : decode cX12_offers 16 = .ok (.if_icmp .ge 45, 3) := by decide +kernel
theorem dX12_offers_19 : decode cX12_offers 19 = .ok (.iload_n 2, 1) := by decide +kernel
theorem dX12_offers_20 : decode cX12_offers 20 = .ok (.iload 5, 2) := by decide +kernel
theorem dX12_offers_22 : decode cX12_offers 22 = .ok (.invokestatic 215, 3) := by decide +kernel
theorem dX12_offers_25 : decode cX12_offers 25 = .ok (.ifCond .ne 6, 3) := by decide +kernel
theorem dX12_offers_28 : decode cX12_offers 28 = .ok (.goto 27, 3) := by decide +kernel
theorem dX12_offers_31 : decode cX12_offers 31 = .ok (.iload_n 3, 1) := by decide +kernel
theorem dX12_offers_32 : decode cX12_offers 32 = .ok (.aload_n 0, 1) := by decide +kernel
theorem dX12_offers_33 : decode cX12_offers 33 = .ok (.iload 5, 2) := by decide +kernel
theorem dX12_offers_35 : decode cX12_offers 35 = .ok (.iconst 2, 1) := by decide +kernel
theorem dX12_offers_36 : decode cX12_offers 36 = .ok (.invokevirtual 301, 3) := by decide +kernel
theorem dX12_offers_39 : decode cX12_offers 39 = .ok (.iadd, 1) := by decide +kernel
theorem dX12_offers_40 : decode cX12_offers 40 = .ok (.istore_n 3, 1) := by decide +kernel
theorem dX12_offers_41 : decode cX12_offers 41 = .ok (.iload 4, 2) := by decide +kernel
theorem dX12_offers_43 : decode cX12_offers 43 = .ok (.iconst 1, 1) := by decide +kernel
theorem dX12_offers_44 : decode cX12_offers 44 = .ok (.aload_n 0, 1) := by decide +kernel
theorem dX12_offers_45 : decode cX12_offers 45 = .ok (.iload 5, 2) := by decide +kernel
theorem dX12_offers_47 : decode cX12_offers 47 = .ok (.iconst 3, 1) := by decide +kernel
theorem dX12_offers_48 : decode cX12_offers 48 = .ok (.invokevirtual 301, 3) := by decide +kernel
theorem dX12_offers_51 : decode cX12_offers 51 = .ok (.ishl, 1) := by decide +kernel
theorem dX12_offers_52 : decode cX12_offers 52 = .ok (.ior, 1) := by decide +kernel
theorem dX12_offers_53 : decode cX12_offers 53 = .ok (.istore 4, 2) := by decide +kernel
theorem dX12_offers_55 : decode cX12_offers 55 = .ok (.iinc 5 1, 3) := by decide +kernel
theorem dX12_offers_58 : decode cX12_offers 58 = .ok (.goto (-50), 3) := by decide +kernel
theorem dX12_offers_61 : decode cX12_offers 61 = .ok (.aload_n 0, 1) := by decide +kernel
theorem dX12_offers_62 : decode cX12_offers 62 = .ok (.getfield 42, 3) := by decide +kernel
theorem dX12_offers_65 : decode cX12_offers 65 = .ok (.aload_n 0, 1) := by decide +kernel
theorem dX12_offers_66 : decode cX12_offers 66 = .ok (.iload_n 1, 1) := by decide +kernel
theorem dX12_offers_67 : decode cX12_offers 67 = .ok (.invokevirtual 346, 3) := by decide +kernel
theorem dX12_offers_70 : decode cX12_offers 70 = .ok (.iload_n 2, 1) := by decide +kernel
theorem dX12_offers_71 : decode cX12_offers 71 = .ok (.ior, 1) := by decide +kernel
theorem dX12_offers_72 : decode cX12_offers 72 = .ok (.iaload, 1) := by decide +kernel
theorem dX12_offers_73 : decode cX12_offers 73 = .ok (.aload_n 0, 1) := by decide +kernel
theorem dX12_offers_74 : decode cX12_offers 74 = .ok (.iload_n 1, 1) := by decide +kernel
theorem dX12_offers_75 : decode cX12_offers 75 = .ok (.iconst 0, 1) := by decide +kernel
theorem dX12_offers_76 : decode cX12_offers 76 = .ok (.invokevirtual 314, 3) := by decide +kernel
theorem dX12_offers_79 : decode cX12_offers 79 = .ok (.iadd, 1) := by decide +kernel
theorem dX12_offers_80 : decode cX12_offers 80 = .ok (.iload_n 3, 1) := by decide +kernel
theorem dX12_offers_81 : decode cX12_offers 81 = .ok (.isub, 1) := by decide +kernel
theorem dX12_offers_82 : decode cX12_offers 82 = .ok (.istore 5, 2) := by decide +kernel
theorem dX12_offers_84 : decode cX12_offers 84 = .ok (.iload_n 3, 1) := by decide +kernel
theorem dX12_offers_85 : decode cX12_offers 85 = .ok (.aload_n 0, 1) := by decide +kernel
theorem dX12_offers_86 : decode cX12_offers 86 = .ok (.iload_n 1, 1) := by decide +kernel
theorem dX12_offers_87 : decode cX12_offers 87 = .ok (.iconst 0, 1) := by decide +kernel
theorem dX12_offers_88 : decode cX12_offers 88 = .ok (.invokevirtual 314, 3) := by decide +kernel
theorem dX12_offers_91 : decode cX12_offers 91 = .ok (.if_icmp .gt 12, 3) := by decide +kernel
theorem dX12_offers_94 : decode cX12_offers 94 = .ok (.iload 5, 2) := by decide +kernel
theorem dX12_offers_96 : decode cX12_offers 96 = .ok (.aload_n 0, 1) := by decide +kernel
theorem dX12_offers_97 : decode cX12_offers 97 = .ok (.getfield 428, 3) := by decide +kernel
theorem dX12_offers_100 : decode cX12_offers 100 = .ok (.if_icmp .ge 4, 3) := by decide +kernel
theorem dX12_offers_103 : decode cX12_offers 103 = .ok (.return_, 1) := by decide +kernel
theorem dX12_offers_104 : decode cX12_offers 104 = .ok (.aload_n 0, 1) := by decide +kernel
theorem dX12_offers_105 : decode cX12_offers 105 = .ok (.iload 4, 2) := by decide +kernel
theorem dX12_offers_107 : decode cX12_offers 107 = .ok (.invokevirtual 431, 3) := by decide +kernel
theorem dX12_offers_110 : decode cX12_offers 110 = .ok (.istore 6, 2) := by decide +kernel
theorem dX12_offers_112 : decode cX12_offers 112 = .ok (.iload 6, 2) := by decide +kernel
theorem dX12_offers_114 : decode cX12_offers 114 = .ok (.ifCond .ne 4, 3) := by decide +kernel
theorem dX12_offers_117 : decode cX12_offers 117 = .ok (.return_, 1) := by decide +kernel
theorem dX12_offers_118 : decode cX12_offers 118 = .ok (.iload 6, 2) := by decide +kernel
theorem dX12_offers_120 : decode cX12_offers 120 = .ok (.iconst 0, 1) := by decide +kernel
theorem dX12_offers_121 : decode cX12_offers 121 = .ok (.invokestatic 215, 3) := by decide +kernel
theorem dX12_offers_124 : decode cX12_offers 124 = .ok (.ifCond .eq 7, 3) := by decide +kernel
theorem dX12_offers_127 : decode cX12_offers 127 = .ok (.iconst (-1), 1) := by decide +kernel
theorem dX12_offers_128 : decode cX12_offers 128 = .ok (.goto 17, 3) := by decide +kernel
theorem dX12_offers_131 : decode cX12_offers 131 = .ok (.iload 6, 2) := by decide +kernel
theorem dX12_offers_133 : decode cX12_offers 133 = .ok (.iconst 1, 1) := by decide +kernel
theorem dX12_offers_134 : decode cX12_offers 134 = .ok (.invokestatic 215, 3) := by decide +kernel
theorem dX12_offers_137 : decode cX12_offers 137 = .ok (.ifCond .eq 7, 3) := by decide +kernel
theorem dX12_offers_140 : decode cX12_offers 140 = .ok (.iconst 0, 1) := by decide +kernel
theorem dX12_offers_141 : decode cX12_offers 141 = .ok (.goto 4, 3) := by decide +kernel
theorem dX12_offers_144 : decode cX12_offers 144 = .ok (.iconst 1, 1) := by decide +kernel
theorem dX12_offers_145 : decode cX12_offers 145 = .ok (.istore 7, 2) := by decide +kernel
theorem dX12_offers_147 : decode cX12_offers 147 = .ok (.iload 5, 2) := by decide +kernel
theorem dX12_offers_149 : decode cX12_offers 149 = .ok (.aload_n 0, 1) := by decide +kernel
theorem dX12_offers_150 : decode cX12_offers 150 = .ok (.getfield 428, 3) := by decide +kernel
theorem dX12_offers_153 : decode cX12_offers 153 = .ok (.if_icmp .le 20, 3) := by decide +kernel
theorem dX12_offers_156 : decode cX12_offers 156 = .ok (.aload_n 0, 1) := by decide +kernel
theorem dX12_offers_157 : decode cX12_offers 157 = .ok (.iload 5, 2) := by decide +kernel
theorem dX12_offers_159 : decode cX12_offers 159 = .ok (.putfield 428, 3) := by decide +kernel
theorem dX12_offers_162 : decode cX12_offers 162 = .ok (.aload_n 0, 1) := by decide +kernel
theorem dX12_offers_163 : decode cX12_offers 163 = .ok (.iload 7, 2) := by decide +kernel
theorem dX12_offers_165 : decode cX12_offers 165 = .ok (.putfield 434, 3) := by decide +kernel
theorem dX12_offers_168 : decode cX12_offers 168 = .ok (.aload_n 0, 1) := by decide +kernel
theorem dX12_offers_169 : decode cX12_offers 169 = .ok (.iload_n 2, 1) := by decide +kernel
theorem dX12_offers_170 : decode cX12_offers 170 = .ok (.putfield 437, 3) := by decide +kernel
theorem dX12_offers_173 : decode cX12_offers 173 = .ok (.aload_n 0, 1) := by decide +kernel
theorem dX12_offers_174 : decode cX12_offers 174 = .ok (.iload 7, 2) := by decide +kernel
theorem dX12_offers_176 : decode cX12_offers 176 = .ok (.aload_n 0, 1) := by decide +kernel
theorem dX12_offers_177 : decode cX12_offers 177 = .ok (.getfield 434, 3) := by decide +kernel
theorem dX12_offers_180 : decode cX12_offers 180 = .ok (.if_icmp .ge 8, 3) := by decide +kernel
theorem dX12_offers_183 : decode cX12_offers 183 = .ok (.iload 7, 2) := by decide +kernel
theorem dX12_offers_185 : decode cX12_offers 185 = .ok (.goto 7, 3) := by decide +kernel
theorem dX12_offers_188 : decode cX12_offers 188 = .ok (.aload_n 0, 1) := by decide +kernel
theorem dX12_offers_189 : decode cX12_offers 189 = .ok (.getfield 434, 3) := by decide +kernel
theorem dX12_offers_192 : decode cX12_offers 192 = .ok (.putfield 434, 3) := by decide +kernel
theorem dX12_offers_195 : decode cX12_offers 195 = .ok (.return_, 1) := by decide +kernel
set_option maxHeartbeats 4000000 in
set_option maxRecDepth 100000 in
theorem c_X12_offers (l : Launch) (D : va_G) (cs : Nat → ClassId) (kK kV : Nat → Nat) (a : Nat) (p0 : Int32) (p1 : Int32) (a_said : Nat) (a_said_c : Nat → Int32) (a_tape : Nat) (a__taped : Int32) (a__rules : Int32) (a_sign : Nat) (a_length : Nat) (a_clause : Nat) (a_clauses : Nat) (a_read : Nat) (a__next : Int32) (a__wrong : Int32) (a__number : Int32) (a__text : Int32) (a__made : Int32) (a__deep : Int32) (a__lines : Int32) (a_open : Nat) (a__opened : Int32) (a_stack : Nat) (a__top : Int32) (a_word : Nat) (a__x : Int32) (a_worth : Nat) (a_mate : Nat) (a_wasSaid : Nat) (a__undone : Int32) (a__boughtNow : Int32) (a_wayBy : Nat) (a_wayThen : Nat) (a__walkMost : Int32) (a__walkGoing : Int32) (a__walkSet : Int32) (a_kept : Nat) (a__drawX : Int64) (a_images : Nat) (a_imageX : Nat) (a_isMade : Nat) (a_worth_c : Nat → Int32) (a_wayBy_c : Nat → Int32) (h_p0 : IV 0 3 p0) (h_p1 : IV 0 4095 p1) (h_a__taped : IV 0 400 a__taped) (h_a__rules : IV 0 6 a__rules) (h_a__next : IV 0 400 a__next) (h_a__text : IV 0 6 a__text) (h_a__made : IV 0 60 a__made) (h_a__lines : IV 0 40 a__lines) (h_a__opened : IV 0 400 a__opened) (h_a__top : IV 0 64 a__top) (h_a__x : IV 0 2147483647 a__x) (h_a__undone : IV 0 20 a__undone) (hf0 : BS a_said_c 200) (sz : Nat) : Met l yX12_offers (hz_w yX12_offers cX12_offers 8 none) ({ frames := 2, cells := 0, slots := 0, locals := 45 }) (va_Pc [.ref a, .int p0, .int p1] (hz_C D cs kK kV sz [(a_said, .inl (cs 0, 123, .inl a_said_c)), (a, .inr (12, [.ref a_tape, .int a__taped, .int a__rules, .ref a_sign, .ref a_length, .ref a_clause, .ref a_clauses, .ref a_read, .int a__next, .int a__wrong, .int a__number, .int a__text, .int a__made, .int a__deep, .int a__lines, .ref a_open, .int a__opened, .ref a_stack, .int a__top, .ref a_word, .ref a_said, .int a__x, .ref a_worth, .ref a_mate, .ref a_wasSaid, .int a__undone, .int a__boughtNow, .ref a_wayBy, .ref a_wayThen, .int a__walkMost, .int a__walkGoing, .int a__walkSet, .ref a_kept, .long a__drawX, .ref a_images, .ref a_imageX, .ref a_isMade])), (a_worth, .inl (cs 0, 4096, .inl a_worth_c)), (a_wayBy, .inl (cs 0, 2048, .inl a_wayBy_c))])) (va_Qv (fun (u : (Nat → Int32) × (Nat → Nat → Int32)) => True) (fun u t => va_P D classes [(a_said, .inl (cs 0, 123, .inl a_said_c)), (a, .inr (12, [.ref a_tape, .int a__taped, .int a__rules, .ref a_sign, .ref a_length, .ref a_clause, .ref a_clauses, .ref a_read, .int a__next, .int a__wrong, .int a__number, .int a__text, .int a__made, .int a__deep, .int a__lines, .ref a_open, .int a__opened, .ref a_stack, .int a__top, .ref a_word, .ref a_said, .int a__x, .ref a_worth, .ref a_mate, .ref a_wasSaid, .int a__undone, .int a__boughtNow, .ref a_wayBy, .ref a_wayThen, .int (u.1 1), .int (u.1 2), .int (u.1 3), .ref a_kept, .long a__drawX, .ref a_images, .ref a_imageX, .ref a_isMade])), (a_worth, .inl (cs 0, 4096, .inl a_worth_c)), (a_wayBy, .inl (cs 0, 2048, .inl a_wayBy_c))] t.heap ∧ va_D (va_A [(a_said, .inl (cs 0, 123, .inl a_said_c)), (a, .inr (12, [.ref a_tape, .int a__taped, .int a__rules, .ref a_sign, .ref a_length, .ref a_clause, .ref a_clauses, .ref a_read, .int a__next, .int a__wrong, .int a__number, .int a__text, .int a__made, .int a__deep, .int a__lines, .ref a_open, .int a__opened, .ref a_stack, .int a__top, .ref a_word, .ref a_said, .int a__x, .ref a_worth, .ref a_mate, .ref a_wasSaid, .int a__undone, .int a__boughtNow, .ref a_wayBy, .ref a_wayThen, .int a__walkMost, .int a__walkGoing, .int a__walkSet, .ref a_kept, .long a__drawX, .ref a_images, .ref a_imageX, .ref a_isMade])), (a_worth, .inl (cs 0, 4096, .inl a_worth_c)), (a_wayBy, .inl (cs 0, 2048, .inl a_wayBy_c))] sz) [(a_said, .inl (cs 0, 123, .inl a_said_c)), (a, .inr (12, [.ref a_tape, .int a__taped, .int a__rules, .ref a_sign, .ref a_length, .ref a_clause, .ref a_clauses, .ref a_read, .int a__next, .int a__wrong, .int a__number, .int a__text, .int a__made, .int a__deep, .int a__lines, .ref a_open, .int a__opened, .ref a_stack, .int a__top, .ref a_word, .ref a_said, .int a__x, .ref a_worth, .ref a_mate, .ref a_wasSaid, .int a__undone, .int a__boughtNow, .ref a_wayBy, .ref a_wayThen, .int (u.1 1), .int (u.1 2), .int (u.1 3), .ref a_kept, .long a__drawX, .ref a_images, .ref a_imageX, .ref a_isMade])), (a_worth, .inl (cs 0, 4096, .inl a_worth_c)), (a_wayBy, .inl (cs 0, 2048, .inl a_wayBy_c))]) (va_A [(a_said, .inl (cs 0, 123, .inl a_said_c)), (a, .inr (12, [.ref a_tape, .int a__taped, .int a__rules, .ref a_sign, .ref a_length, .ref a_clause, .ref a_clauses, .ref a_read, .int a__next, .int a__wrong, .int a__number, .int a__text, .int a__made, .int a__deep, .int a__lines, .ref a_open, .int a__opened, .ref a_stack, .int a__top, .ref a_word, .ref a_said, .int a__x, .ref a_worth, .ref a_mate, .ref a_wasSaid, .int a__undone, .int a__boughtNow, .ref a_wayBy, .ref a_wayThen, .int a__walkMost, .int a__walkGoing, .int a__walkSet, .ref a_kept, .long a__drawX, .ref a_images, .ref a_imageX, .ref a_isMade])), (a_worth, .inl (cs 0, 4096, .inl a_worth_c)), (a_wayBy, .inl (cs 0, 2048, .inl a_wayBy_c))] sz)) 0 0 (va_A [(a_said, .inl (cs 0, 123, .inl a_said_c)), (a, .inr (12, [.ref a_tape, .int a__taped, .int a__rules, .ref a_sign, .ref a_length, .ref a_clause, .ref a_clauses, .ref a_read, .int a__next, .int a__wrong, .int a__number, .int a__text, .int a__made, .int a__deep, .int a__lines, .ref a_open, .int a__opened, .ref a_stack, .int a__top, .ref a_word, .ref a_said, .int a__x, .ref a_worth, .ref a_mate, .ref a_wasSaid, .int a__undone, .int a__boughtNow, .ref a_wayBy, .ref a_wayThen, .int a__walkMost, .int a__walkGoing, .int a__walkSet, .ref a_kept, .long a__drawX, .ref a_images, .ref a_imageX, .ref a_isMade])), (a_worth, .inl (cs 0, 4096, .inl a_worth_c)), (a_wayBy, .inl (cs 0, 2048, .inl a_wayBy_c))] sz) := by
  refine Met.ofW (cc := cX12_offers) (maxL := 8) (ret := none) (by decide) rfl ?_
  intro p e s m args below meth c s₁ B hml hv
  obtain ⟨rfl, hsz, hP, hD0, hE⟩ := hv
  have hx := B.exec
  have hb := B.bytes
  have hr := B.returns
  have hT : ∀ w ∈ TB, w.before _ s = true := fun w h => atoms_spec (ws := hz_w yX12_offers cX12_offers 8 none) B.pre w (List.mem_cons_of_mem _ h)
  have hown : s.vm.findClass RX12 = some m.cls := findClass_of_methodNamed B.named
  have hlocks := B.notSynchronized
  clear B
  subst hsz
  have hD := hD0.self (sz := s.heap.size)
  generalize hAe : va_A [(a_said, .inl (cs 0, 123, .inl a_said_c)), (a, .inr (12, [.ref a_tape, .int a__taped, .int a__rules, .ref a_sign, .ref a_length, .ref a_clause, .ref a_clauses, .ref a_read, .int a__next, .int a__wrong, .int a__number, .int a__text, .int a__made, .int a__deep, .int a__lines, .ref a_open, .int a__opened, .ref a_stack, .int a__top, .ref a_word, .ref a_said, .int a__x, .ref a_worth, .ref a_mate, .ref a_wasSaid, .int a__undone, .int a__boughtNow, .ref a_wayBy, .ref a_wayThen, .int a__walkMost, .int a__walkGoing, .int a__walkSet, .ref a_kept, .long a__drawX, .ref a_images, .ref a_imageX, .ref a_isMade])), (a_worth, .inl (cs 0, 4096, .inl a_worth_c)), (a_wayBy, .inl (cs 0, 2048, .inl a_wayBy_c))] s.heap.size = A at hD hE ⊢
  have hA : ∀ q : Nat, s.heap.size ≤ q → A q := fun q h => by rw [← hAe]; exact Or.inr h
  clear hAe hD0
  have hS : va_S A s.heap s.heap [] := va_S.rf
  have hK := hE.1
  have hl := lv_entry ([.ref a, .int p0, .int p1]) (n := 8) (Nat.le_of_ble_eq_true rfl)
  rw [lg_entry_eq]
  generalize (lg_sl ([.ref a, .int p0, .int p1]) ++ List.replicate (8 - (lg_sl ([.ref a, .int p0, .int p1])).length) Slot.unset).toArray = ls at hl ⊢
  have hl : lv_has ls 8 [(0, .ref a), (1, .int p0), (2, .int p1)] := hl
  obtain ⟨H, eH⟩ : ∃ z, z = s.heap := ⟨_, rfl⟩
  have hP : va_P D classes [(a_said, .inl (cs 0, 123, .inl a_said_c)), (a, .inr (12, [.ref a_tape, .int a__taped, .int a__rules, .ref a_sign, .ref a_length, .ref a_clause, .ref a_clauses, .ref a_read, .int a__next, .int a__wrong, .int a__number, .int a__text, .int a__made, .int a__deep, .int a__lines, .ref a_open, .int a__opened, .ref a_stack, .int a__top, .ref a_word, .ref a_said, .int a__x, .ref a_worth, .ref a_mate, .ref a_wasSaid, .int a__undone, .int a__boughtNow, .ref a_wayBy, .ref a_wayThen, .int a__walkMost, .int a__walkGoing, .int a__walkSet, .ref a_kept, .long a__drawX, .ref a_images, .ref a_imageX, .ref a_isMade])), (a_worth, .inl (cs 0, 4096, .inl a_worth_c)), (a_wayBy, .inl (cs 0, 2048, .inl a_wayBy_c))] H := by rw [eH]; exact hP
  have hS : va_S A s.heap H [] := by rw [eH]; exact hS
  rw [← eH]
  clear eH
  obtain ⟨locs, el⟩ : ∃ z : List Loc, z = [] := ⟨_, rfl⟩
  rw [← el] at hS ⊢
  clear el
  have z0 : (0 : Int32).toInt = 0 := by decide
  have z1 : (1 : Int32).toInt = 1 := by decide
  have zm1 : (-1 : Int32).toInt = -1 := by decide
  have i_a__lines : 0 ≤ a__lines.toInt ∧ a__lines.toInt ≤ 40 := h_a__lines
  have i_a__made : 0 ≤ a__made.toInt ∧ a__made.toInt ≤ 60 := h_a__made
  have i_a__next : 0 ≤ a__next.toInt ∧ a__next.toInt ≤ 400 := h_a__next
  have i_a__opened : 0 ≤ a__opened.toInt ∧ a__opened.toInt ≤ 400 := h_a__opened
  have i_a__rules : 0 ≤ a__rules.toInt ∧ a__rules.toInt ≤ 6 := h_a__rules
  have i_a__taped : 0 ≤ a__taped.toInt ∧ a__taped.toInt ≤ 400 := h_a__taped
  have i_a__text : 0 ≤ a__text.toInt ∧ a__text.toInt ≤ 6 := h_a__text
  have i_a__top : 0 ≤ a__top.toInt ∧ a__top.toInt ≤ 64 := h_a__top
  have i_a__undone : 0 ≤ a__undone.toInt ∧ a__undone.toInt ≤ 20 := h_a__undone
  have i_a__x : 0 ≤ a__x.toInt ∧ a__x.toInt ≤ 2147483647 := h_a__x
  have i_p0 : 0 ≤ p0.toInt ∧ p0.toInt ≤ 3 := h_p0
  have i_p1 : 0 ≤ p1.toInt ∧ p1.toInt ≤ 4095 := h_p1
  have K8 : ∀ (n : Nat) (k8_L_5 : Int32) (k8_L_4 : Int32) (k8_L_3 : Int32), (12 - k8_L_5.toInt + 1).toNat ≤ n → IV 0 12 k8_L_5 → ∀ (H : Heap) (locs : List Loc), va_P D classes [(a_said, .inl (cs 0, 123, .inl a_said_c)), (a, .inr (12, [.ref a_tape, .int a__taped, .int a__rules, .ref a_sign, .ref a_length, .ref a_clause, .ref a_clauses, .ref a_read, .int a__next, .int a__wrong, .int a__number, .int a__text, .int a__made, .int a__deep, .int a__lines, .ref a_open, .int a__opened, .ref a_stack, .int a__top, .ref a_word, .ref a_said, .int a__x, .ref a_worth, .ref a_mate, .ref a_wasSaid, .int a__undone, .int a__boughtNow, .ref a_wayBy, .ref a_wayThen, .int a__walkMost, .int a__walkGoing, .int a__walkSet, .ref a_kept, .long a__drawX, .ref a_images, .ref a_imageX, .ref a_isMade])), (a_worth, .inl (cs 0, 4096, .inl a_worth_c)), (a_wayBy, .inl (cs 0, 2048, .inl a_wayBy_c))] H → va_D A [(a_said, .inl (cs 0, 123, .inl a_said_c)), (a, .inr (12, [.ref a_tape, .int a__taped, .int a__rules, .ref a_sign, .ref a_length, .ref a_clause, .ref a_clauses, .ref a_read, .int a__next, .int a__wrong, .int a__number, .int a__text, .int a__made, .int a__deep, .int a__lines, .ref a_open, .int a__opened, .ref a_stack, .int a__top, .ref a_word, .ref a_said, .int a__x, .ref a_worth, .ref a_mate, .ref a_wasSaid, .int a__undone, .int a__boughtNow, .ref a_wayBy, .ref a_wayThen, .int a__walkMost, .int a__walkGoing, .int a__walkSet, .ref a_kept, .long a__drawX, .ref a_images, .ref a_imageX, .ref a_isMade])), (a_worth, .inl (cs 0, 4096, .inl a_worth_c)), (a_wayBy, .inl (cs 0, 2048, .inl a_wayBy_c))] → va_S A s.heap H locs → ∀ ls : Array Slot, lv_has ls 8 [(5, .int k8_L_5), (4, .int k8_L_4), (3, .int k8_L_3), (0, .ref a), (1, .int p0), (2, .int p1)] → W p l e (headSpec (hz_w yX12_offers cX12_offers 8 none) ({ frames := 2, cells := 0, slots := 0, locals := 45 })).room s m [.ref a, .int p0, .int p1].toArray below meth c H locs 0 0 (MQ below (va_Qv (fun (u : (Nat → Int32) × (Nat → Nat → Int32)) => True) (fun u t => va_P D classes [(a_said, .inl (cs 0, 123, .inl a_said_c)), (a, .inr (12, [.ref a_tape, .int a__taped, .int a__rules, .ref a_sign, .ref a_length, .ref a_clause, .ref a_clauses, .ref a_read, .int a__next, .int a__wrong, .int a__number, .int a__text, .int a__made, .int a__deep, .int a__lines, .ref a_open, .int a__opened, .ref a_stack, .int a__top, .ref a_word, .ref a_said, .int a__x, .ref a_worth, .ref a_mate, .ref a_wasSaid, .int a__undone, .int a__boughtNow, .ref a_wayBy, .ref a_wayThen, .int (u.1 1), .int (u.1 2), .int (u.1 3), .ref a_kept, .long a__drawX, .ref a_images, .ref a_imageX, .ref a_isMade])), (a_worth, .inl (cs 0, 4096, .inl a_worth_c)), (a_wayBy, .inl (cs 0, 2048, .inl a_wayBy_c))] t.heap ∧ va_D A [(a_said, .inl (cs 0, 123, .inl a_said_c)), (a, .inr (12, [.ref a_tape, .int a__taped, .int a__rules, .ref a_sign, .ref a_length, .ref a_clause, .ref a_clauses, .ref a_read, .int a__next, .int a__wrong, .int a__number, .int a__text, .int a__made, .int a__deep, .int a__lines, .ref a_open, .int a__opened, .ref a_stack, .int a__top, .ref a_word, .ref a_said, .int a__x, .ref a_worth, .ref a_mate, .ref a_wasSaid, .int a__undone, .int a__boughtNow, .ref a_wayBy, .ref a_wayThen, .int (u.1 1), .int (u.1 2), .int (u.1 3), .ref a_kept, .long a__drawX, .ref a_images, .ref a_imageX, .ref a_isMade])), (a_worth, .inl (cs 0, 4096, .inl a_worth_c)), (a_wayBy, .inl (cs 0, 2048, .inl a_wayBy_c))]) A) [.ref a, .int p0, .int p1].toArray s 0 0 A) (F0 m 8 ls []) := by
    intro n
    induction n with
    | zero =>
      intro k8_L_5 k8_L_4 k8_L_3 hn q8_10 H locs hP hD hS ls hl
      exact absurd hn (by unfold IV at q8_10; omega)
    | succ n ih8 =>
      intro k8_L_5 k8_L_4 k8_L_3 hn q8_10 H locs hP hD hS ls hl
      have i_a__lines : 0 ≤ a__lines.toInt ∧ a__lines.toInt ≤ 40 := h_a__lines
      have i_a__made : 0 ≤ a__made.toInt ∧ a__made.toInt ≤ 60 := h_a__made
      have i_a__next : 0 ≤ a__next.toInt ∧ a__next.toInt ≤ 400 := h_a__next
      have i_a__opened : 0 ≤ a__opened.toInt ∧ a__opened.toInt ≤ 400 := h_a__opened
      have i_a__rules : 0 ≤ a__rules.toInt ∧ a__rules.toInt ≤ 6 := h_a__rules
      have i_a__taped : 0 ≤ a__taped.toInt ∧ a__taped.toInt ≤ 400 := h_a__taped
      have i_a__text : 0 ≤ a__text.toInt ∧ a__text.toInt ≤ 6 := h_a__text
      have i_a__top : 0 ≤ a__top.toInt ∧ a__top.toInt ≤ 64 := h_a__top
      have i_a__undone : 0 ≤ a__undone.toInt ∧ a__undone.toInt ≤ 20 := h_a__undone
      have i_a__x : 0 ≤ a__x.toInt ∧ a__x.toInt ≤ 2147483647 := h_a__x
      have i_k8_L_5 : 0 ≤ k8_L_5.toInt ∧ k8_L_5.toInt ≤ 12 := q8_10
      have i_p0 : 0 ≤ p0.toInt ∧ p0.toInt ≤ 3 := h_p0
      have i_p1 : 0 ≤ p1.toInt ∧ p1.toInt ≤ 4095 := h_p1
      refine lv_iload hx hb dX12_offers_8 (lv_at hl 0 rfl) ?_
      refine lv_aload_n hx hb dX12_offers_10 rfl (lv_at hl 3 rfl) ?_
      refine va_get (D := D) (ci := 12) (v := .ref a_said) (C := RX12) (T := TX12) (N := 37) hx hb hT i_X12 hown hK hP 1 rfl rfl 20 (by decide) (hT _ q_185) (fun _ h9 => h9) rfl dX12_offers_11 ?_
      refine lv_iconst (v := 1) hx hb dX12_offers_14 (by decide) ?_
      refine va_iald hx hb hK hP 0 0 rfl rfl (iv_vc (by decide)) dX12_offers_15 ?_
      refine lv_topi (fun v1 ev1 => ?_)
      have h2 : IV 0 12 v1 := (by rw [ev1]; exact bs_i1 hf0)
      have ii3 : 0 ≤ v1.toInt ∧ v1.toInt ≤ 12 := h2
      have lv1 : v1.toInt = (a_said_c 1).toInt := by rw [ev1]; rfl
      refine lv_icmp_ge (tgt := 61) hx hb dX12_offers_16 (by decide) (fun c4 => ?_) (fun c4 => ?_)
      · have t5 : k8_L_5.toInt ≥ v1.toInt := lin_ge c4 rfl rfl
        refine lv_aload_n hx hb dX12_offers_61 rfl (lv_at hl 3 rfl) ?_
        refine va_get (D := D) (ci := 12) (v := .ref a_worth) (C := RX12) (T := TX12) (N := 37) hx hb hT i_X12 hown hK hP 1 rfl rfl 22 (by decide) (hT _ q_186) (fun _ h9 => h9) rfl dX12_offers_62 ?_
        refine lv_aload_n hx hb dX12_offers_65 rfl (lv_at hl 3 rfl) ?_
        refine lv_iload_n hx hb dX12_offers_66 rfl (lv_at hl 4 rfl) ?_
        refine va_calli (va_runV (As := [.int p0]) (rest := [.ref a_worth]) ⟨hx, hb, hml, hown, hT⟩ (c_X12_hasOf l D cs kK kV a p0 a_said a_said_c a_tape a__taped a__rules a_sign a_length a_clause a_clauses a_read a__next a__wrong a__number a__text a__made a__deep a__lines a_open a__opened a_stack a__top a_word a__x a_worth a_mate a_wasSaid a__undone a__boughtNow a_wayBy a_wayThen a__walkMost a__walkGoing a__walkSet a_kept a__drawX a_images a_imageX a_isMade h_a__taped h_a__rules h_a__next h_a__text h_a__made h_a__lines h_a__opened h_a__top h_a__x h_a__undone hf0) (cwV 1 hT (hz_gV q_1160 q_1161 q_1162 q_701 q_1163) rfl rfl rfl (by decide +kernel) ⟨(Nat.le_of_ble_eq_true rfl), (Nat.le_of_ble_eq_true rfl)⟩) ⟨hz_P.blind, va_recv hK hP (ci := 12) (q0 := 1) rfl rfl, hz_P.mk (hP.sub (ws' := [(a_said, .inl (cs 0, 123, .inl a_said_c)), (a, .inr (12, [.ref a_tape, .int a__taped, .int a__rules, .ref a_sign, .ref a_length, .ref a_clause, .ref a_clauses, .ref a_read, .int a__next, .int a__wrong, .int a__number, .int a__text, .int a__made, .int a__deep, .int a__lines, .ref a_open, .int a__opened, .ref a_stack, .int a__top, .ref a_word, .ref a_said, .int a__x, .ref a_worth, .ref a_mate, .ref a_wasSaid, .int a__undone, .int a__boughtNow, .ref a_wayBy, .ref a_wayThen, .int a__walkMost, .int a__walkGoing, .int a__walkSet, .ref a_kept, .long a__drawX, .ref a_images, .ref a_imageX, .ref a_isMade]))]) [0,1] rfl) hE hS⟩ rfl rfl hl.1 rfl (lv_room (Nat.le_of_ble_eq_true rfl)) dX12_offers_67 ⟨(Nat.le_of_ble_eq_true rfl), (Nat.le_of_ble_eq_true rfl)⟩) hS (fun _ _ h => h.elim) (fun _ h => h.elim) (fun r6 u t H1 locs ht hvm hw hB hz1 hk1 hS => ?_)
        have hP := hz_keep hP hk1
        clear hk1 hB hz1
        generalize H1 = H at hP hS ⊢
        have hw_r6 := hw
        refine lv_iload_n hx hb dX12_offers_70 rfl (lv_at hl 5 rfl) ?_
        refine lv_ior hx hb dX12_offers_71 ?_
        refine lv_topi (fun v7 ev7 => ?_)
        have hv7 : IV 0 4095 v7 := iv_or (k := 12) ev7 hw_r6 h_p1 (by decide) (by decide) (by decide) (by decide) (by decide) (by decide)
        have ii8 : 0 ≤ v7.toInt ∧ v7.toInt ≤ 4095 := hv7
        refine va_iald hx hb hK hP 2 0 rfl rfl (iv_v hv7 (by decide) (by decide)) dX12_offers_72 ?_
        refine lv_topi (fun v9 ev9 => ?_)
        have lv9 : v9.toInt = (a_worth_c (Int32.toNatClampNeg v7)).toInt := by rw [ev9]
        refine lv_aload_n hx hb dX12_offers_73 rfl (lv_at hl 3 rfl) ?_
        refine lv_iload_n hx hb dX12_offers_74 rfl (lv_at hl 4 rfl) ?_
        refine lv_iconst (v := 0) hx hb dX12_offers_75 (by decide) ?_
        refine va_calli (va_runV (As := [.int p0, .int 0]) (rest := [.int v9]) ⟨hx, hb, hml, hown, hT⟩ (c_X12_buyerOf l D cs kK kV a p0 0 a_said a_said_c a_tape a__taped a__rules a_sign a_length a_clause a_clauses a_read a__next a__wrong a__number a__text a__made a__deep a__lines a_open a__opened a_stack a__top a_word a__x a_worth a_mate a_wasSaid a__undone a__boughtNow a_wayBy a_wayThen a__walkMost a__walkGoing a__walkSet a_kept a__drawX a_images a_imageX a_isMade h_p0 ((iv_c (by decide))) h_a__taped h_a__rules h_a__next h_a__text h_a__made h_a__lines h_a__opened h_a__top h_a__x h_a__undone hf0) (cwV 2 hT (hz_gV q_1120 q_1121 q_1122 q_701 q_1123) rfl rfl rfl (by decide +kernel) ⟨(Nat.le_of_ble_eq_true rfl), (Nat.le_of_ble_eq_true rfl)⟩) ⟨hz_P.blind, va_recv hK hP (ci := 12) (q0 := 1) rfl rfl, hz_P.mk (hP.sub (ws' := [(a_said, .inl (cs 0, 123, .inl a_said_c)), (a, .inr (12, [.ref a_tape, .int a__taped, .int a__rules, .ref a_sign, .ref a_length, .ref a_clause, .ref a_clauses, .ref a_read, .int a__next, .int a__wrong, .int a__number, .int a__text, .int a__made, .int a__deep, .int a__lines, .ref a_open, .int a__opened, .ref a_stack, .int a__top, .ref a_word, .ref a_said, .int a__x, .ref a_worth, .ref a_mate, .ref a_wasSaid, .int a__undone, .int a__boughtNow, .ref a_wayBy, .ref a_wayThen, .int a__walkMost, .int a__walkGoing, .int a__walkSet, .ref a_kept, .long a__drawX, .ref a_images, .ref a_imageX, .ref a_isMade]))]) [0,1] rfl) hE hS⟩ rfl rfl hl.1 rfl (lv_room (Nat.le_of_ble_eq_true rfl)) dX12_offers_76 ⟨(Nat.le_of_ble_eq_true rfl), (Nat.le_of_ble_eq_true rfl)⟩) hS (fun _ _ h => h.elim) (fun _ h => h.elim) (fun r10 u t H1 locs ht hvm hw hB hz1 hk1 hS => ?_)
        have hP := hz_keep hP hk1
        clear hk1 hB hz1
        generalize H1 = H at hP hS ⊢
        rcases hw with ⟨x11, x12⟩
        refine lv_iadd hx hb dX12_offers_79 ?_
        refine lv_topi (fun v13 ev13 => ?_)
        refine lv_iload_n hx hb dX12_offers_80 rfl (lv_at hl 2 rfl) ?_
        refine lv_isub hx hb dX12_offers_81 ?_
        refine lv_topi (fun v14 ev14 => ?_)
        refine lv_istore (lv' := [(5, .int v14), (4, .int k8_L_4), (3, .int k8_L_3), (0, .ref a), (1, .int p0), (2, .int p1)]) hx hb dX12_offers_82 hl (by decide) rfl (fun ls hl => ?_)
        refine lv_iload_n hx hb dX12_offers_84 rfl (lv_at hl 2 rfl) ?_
        refine lv_aload_n hx hb dX12_offers_85 rfl (lv_at hl 3 rfl) ?_
        refine lv_iload_n hx hb dX12_offers_86 rfl (lv_at hl 4 rfl) ?_
        refine lv_iconst (v := 0) hx hb dX12_offers_87 (by decide) ?_
        refine va_calli (va_runV (As := [.int p0, .int 0]) (rest := [.int k8_L_3]) ⟨hx, hb, hml, hown, hT⟩ (c_X12_buyerOf l D cs kK kV a p0 0 a_said a_said_c a_tape a__taped a__rules a_sign a_length a_clause a_clauses a_read a__next a__wrong a__number a__text a__made a__deep a__lines a_open a__opened a_stack a__top a_word a__x a_worth a_mate a_wasSaid a__undone a__boughtNow a_wayBy a_wayThen a__walkMost a__walkGoing a__walkSet a_kept a__drawX a_images a_imageX a_isMade h_p0 ((iv_c (by decide))) h_a__taped h_a__rules h_a__next h_a__text h_a__made h_a__lines h_a__opened h_a__top h_a__x h_a__undone hf0) (cwV 2 hT (hz_gV q_1120 q_1121 q_1122 q_701 q_1123) rfl rfl rfl (by decide +kernel) ⟨(Nat.le_of_ble_eq_true rfl), (Nat.le_of_ble_eq_true rfl)⟩) ⟨hz_P.blind, va_recv hK hP (ci := 12) (q0 := 1) rfl rfl, hz_P.mk (hP.sub (ws' := [(a_said, .inl (cs 0, 123, .inl a_said_c)), (a, .inr (12, [.ref a_tape, .int a__taped, .int a__rules, .ref a_sign, .ref a_length, .ref a_clause, .ref a_clauses, .ref a_read, .int a__next, .int a__wrong, .int a__number, .int a__text, .int a__made, .int a__deep, .int a__lines, .ref a_open, .int a__opened, .ref a_stack, .int a__top, .ref a_word, .ref a_said, .int a__x, .ref a_worth, .ref a_mate, .ref a_wasSaid, .int a__undone, .int a__boughtNow, .ref a_wayBy, .ref a_wayThen, .int a__walkMost, .int a__walkGoing, .int a__walkSet, .ref a_kept, .long a__drawX, .ref a_images, .ref a_imageX, .ref a_isMade]))]) [0,1] rfl) hE hS⟩ rfl rfl hl.1 rfl (lv_room (Nat.le_of_ble_eq_true rfl)) dX12_offers_88 ⟨(Nat.le_of_ble_eq_true rfl), (Nat.le_of_ble_eq_true rfl)⟩) hS (fun _ _ h => h.elim) (fun _ h => h.elim) (fun r15 u t H1 locs ht hvm hw hB hz1 hk1 hS => ?_)
        have hP := hz_keep hP hk1
        clear hk1 hB hz1
        generalize H1 = H at hP hS ⊢
        rcases hw with ⟨x16, x17⟩
        refine lv_icmp_gt (tgt := 103) hx hb dX12_offers_91 (by decide) (fun c18 => ?_) (fun c18 => ?_)
        · have t19 : k8_L_3.toInt > r15.toInt := lin_gt c18 rfl rfl
          have h20 : IV (-2147483648) 2147483646 r15 := iv_lt1 c18 iv_top iv_top (by decide)
          have ii21 : (-2147483648) ≤ r15.toInt ∧ r15.toInt ≤ 2147483646 := h20
          have h22 : IV (-2147483647) 2147483647 k8_L_3 := iv_lt2 c18 iv_top iv_top (by decide)
          have ii23 : (-2147483647) ≤ k8_L_3.toInt ∧ k8_L_3.toInt ≤ 2147483647 := h22
          refine W.widen (k := 0) (n := 0) (Nat.le_of_ble_eq_true rfl) (Nat.le_of_ble_eq_true rfl) ?_
          exact W.vret hx hb hr (fun t ht hW => ⟨⟨(fun k => match k with | 0 => 0 | 1 => a__walkMost | 2 => a__walkGoing | 3 => a__walkSet | _ => 0, fun _ _ => 0), rfl, (trivial), by rw [ht]; exact hP.sub [0, 1, 2, 3] rfl, hD.sub [0, 1, 2, 3] (by decide) rfl⟩, hS.F ht⟩) hS.2.2 dX12_offers_103
        · have t24 : k8_L_3.toInt ≤ r15.toInt := lin_gtN c18 rfl rfl
          refine lv_iload hx hb dX12_offers_94 (lv_at hl 0 rfl) ?_
          refine lv_aload_n hx hb dX12_offers_96 rfl (lv_at hl 3 rfl) ?_
          refine va_get (D := D) (ci := 12) (v := .int a__walkMost) (C := RX12) (T := TX12) (N := 37) hx hb hT i_X12 hown hK hP 1 rfl rfl 29 (by decide) (hT _ q_208) (fun _ h9 => h9) rfl dX12_offers_97 ?_
          refine lv_icmp_ge (tgt := 104) hx hb dX12_offers_100 (by decide) (fun c25 => ?_) (fun c25 => ?_)
          · have t26 : v14.toInt ≥ a__walkMost.toInt := lin_ge c25 rfl rfl
            refine lv_aload_n hx hb dX12_offers_104 rfl (lv_at hl 3 rfl) ?_
            refine lv_iload hx hb dX12_offers_105 (lv_at hl 1 rfl) ?_
            refine va_calli (va_runV (As := [.int k8_L_4]) (rest := []) ⟨hx, hb, hml, hown, hT⟩ (c_X12_goingsFor l D cs kK kV a k8_L_4 a_tape a__taped a__rules a_sign a_length a_clause a_clauses a_read a__next a__wrong a__number a__text a__made a__deep a__lines a_open a__opened a_stack a__top a_word a_said a__x a_worth a_mate a_wasSaid a__undone a__boughtNow a_wayBy a_wayThen a__walkMost a__walkGoing a__walkSet a_kept a__drawX a_images a_imageX a_isMade a_wayBy_c h_a__taped h_a__rules h_a__next h_a__text h_a__made h_a__lines h_a__opened h_a__top h_a__x h_a__undone) (cwV 1 hT (hz_gV q_1250 q_1251 q_1252 q_701 q_1253) rfl rfl rfl (by decide +kernel) ⟨(Nat.le_of_ble_eq_true rfl), (Nat.le_of_ble_eq_true rfl)⟩) ⟨hz_P.blind, va_recv hK hP (ci := 12) (q0 := 1) rfl rfl, hz_P.mk (hP.sub (ws' := [(a, .inr (12, [.ref a_tape, .int a__taped, .int a__rules, .ref a_sign, .ref a_length, .ref a_clause, .ref a_clauses, .ref a_read, .int a__next, .int a__wrong, .int a__number, .int a__text, .int a__made, .int a__deep, .int a__lines, .ref a_open, .int a__opened, .ref a_stack, .int a__top, .ref a_word, .ref a_said, .int a__x, .ref a_worth, .ref a_mate, .ref a_wasSaid, .int a__undone, .int a__boughtNow, .ref a_wayBy, .ref a_wayThen, .int a__walkMost, .int a__walkGoing, .int a__walkSet, .ref a_kept, .long a__drawX, .ref a_images, .ref a_imageX, .ref a_isMade])), (a_wayBy, .inl (cs 0, 2048, .inl a_wayBy_c))]) [1,3] rfl) hE hS⟩ rfl rfl hl.1 rfl (lv_room (Nat.le_of_ble_eq_true rfl)) dX12_offers_107 ⟨(Nat.le_of_ble_eq_true rfl), (Nat.le_of_ble_eq_true rfl)⟩) hS (fun _ _ h => h.elim) (fun _ h => h.elim) (fun r27 u t H1 locs ht hvm hw hB hz1 hk1 hS => ?_)
            have hP := hz_keep hP hk1
            clear hk1 hB hz1
            generalize H1 = H at hP hS ⊢
            refine lv_istore (lv' := [(6, .int r27), (5, .int v14), (4, .int k8_L_4), (3, .int k8_L_3), (0, .ref a), (1, .int p0), (2, .int p1)]) hx hb dX12_offers_110 hl (by decide) rfl (fun ls hl => ?_)
            refine lv_iload hx hb dX12_offers_112 (lv_at hl 0 rfl) ?_
            refine lv_if_ne (tgt := 118) hx hb dX12_offers_114 (by decide) (fun c28 => ?_) (fun c28 => ?_)
            · have t29 : r27.toInt ≠ 0 := lin_ne c28 rfl (by decide)
              refine lv_iload hx hb dX12_offers_118 (lv_at hl 0 rfl) ?_
              refine lv_iconst (v := 0) hx hb dX12_offers_120 (by decide) ?_
              refine va_calli (va_runS (As := [.int r27, .int 0]) (rest := []) ⟨hx, hb, hml, hown, hT⟩ (c_X12_isOf l D cs kK kV r27 0) (va_cwS 2 hT (hz_gS q_1034 q_1035 q_701 q_1036) rfl rfl rfl (by decide +kernel) ⟨(Nat.le_of_ble_eq_true rfl), (Nat.le_of_ble_eq_true rfl)⟩) ⟨hz_P.blind, hz_P.mk (hP.sub (ws' := []) [] rfl) hE hS⟩ rfl rfl hl.1 rfl (lv_room (Nat.le_of_ble_eq_true rfl)) dX12_offers_121 ⟨(Nat.le_of_ble_eq_true rfl), (Nat.le_of_ble_eq_true rfl)⟩) hS (fun _ _ h => h.elim) (fun _ h => h.elim) (fun r30 u t H1 locs ht hvm hw hB hz1 hk1 hS => ?_)
              have hP := hz_keep hP hk1
              clear hk1 hB hz1
              generalize H1 = H at hP hS ⊢
              rcases hw with ⟨rfl, x31⟩ | ⟨rfl, x32⟩
              · refine lv_if_eq (tgt := 131) hx hb dX12_offers_124 (by decide) (fun _ => ?_) (fun z => absurd (by decide) z)
                refine lv_iload hx hb dX12_offers_131 (lv_at hl 0 rfl) ?_
                refine lv_iconst (v := 1) hx hb dX12_offers_133 (by decide) ?_
                refine va_calli (va_runS (As := [.int r27, .int 1]) (rest := []) ⟨hx, hb, hml, hown, hT⟩ (c_X12_isOf l D cs kK kV r27 1) (va_cwS 2 hT (hz_gS q_1034 q_1035 q_701 q_1036) rfl rfl rfl (by decide +kernel) ⟨(Nat.le_of_ble_eq_true rfl), (Nat.le_of_ble_eq_true rfl)⟩) ⟨hz_P.blind, hz_P.mk (hP.sub (ws' := []) [] rfl) hE hS⟩ rfl rfl hl.1 rfl (lv_room (Nat.le_of_ble_eq_true rfl)) dX12_offers_134 ⟨(Nat.le_of_ble_eq_true rfl), (Nat.le_of_ble_eq_true rfl)⟩) hS (fun _ _ h => h.elim) (fun _ h => h.elim) (fun r33 u t H1 locs ht hvm hw hB hz1 hk1 hS => ?_)
                have hP := hz_keep hP hk1
                clear hk1 hB hz1
                generalize H1 = H at hP hS ⊢
                rcases hw with ⟨rfl, x34⟩ | ⟨rfl, x35⟩
                · refine lv_if_eq (tgt := 144) hx hb dX12_offers_137 (by decide) (fun _ => ?_) (fun z => absurd (by decide) z)
                  refine lv_iconst (v := 1) hx hb dX12_offers_144 (by decide) ?_
                  refine lv_istore (lv' := [(7, .int 1), (6, .int r27), (5, .int v14), (4, .int k8_L_4), (3, .int k8_L_3), (0, .ref a), (1, .int p0), (2, .int p1)]) hx hb dX12_offers_145 hl (by decide) rfl (fun ls hl => ?_)
                  refine lv_iload hx hb dX12_offers_147 (lv_at hl 2 rfl) ?_
                  refine lv_aload_n hx hb dX12_offers_149 rfl (lv_at hl 5 rfl) ?_
                  refine va_get (D := D) (ci := 12) (v := .int a__walkMost) (C := RX12) (T := TX12) (N := 37) hx hb hT i_X12 hown hK hP 1 rfl rfl 29 (by decide) (hT _ q_208) (fun _ h9 => h9) rfl dX12_offers_150 ?_
                  refine lv_icmp_le (tgt := 173) hx hb dX12_offers_153 (by decide) (fun c36 => ?_) (fun c36 => ?_)
                  · have t37 : v14.toInt ≤ a__walkMost.toInt := lin_le c36 rfl rfl
                    refine lv_aload_n hx hb dX12_offers_173 rfl (lv_at hl 5 rfl) ?_
                    refine lv_iload hx hb dX12_offers_174 (lv_at hl 0 rfl) ?_
                    refine lv_aload_n hx hb dX12_offers_176 rfl (lv_at hl 5 rfl) ?_
                    refine va_get (D := D) (ci := 12) (v := .int a__walkGoing) (C := RX12) (T := TX12) (N := 37) hx hb hT i_X12 hown hK hP 1 rfl rfl 30 (by decide) (hT _ q_209) (fun _ h9 => h9) rfl dX12_offers_177 ?_
                    refine lv_icmp_ge (tgt := 188) hx hb dX12_offers_180 (by decide) (fun c38 => ?_) (fun c38 => ?_)
                    · have t39 : 1 ≥ a__walkGoing.toInt := lin_ge c38 (by decide) rfl
                      have h40 : IV (-2147483648) 1 a__walkGoing := iv_le1 c38 iv_top (iv_c (a := 1) (b := 1) (by decide)) (by decide)
                      have ii41 : (-2147483648) ≤ a__walkGoing.toInt ∧ a__walkGoing.toInt ≤ 1 := h40
                      refine lv_aload_n hx hb dX12_offers_188 rfl (lv_at hl 5 rfl) ?_
                      refine va_get (D := D) (ci := 12) (v := .int a__walkGoing) (C := RX12) (T := TX12) (N := 37) hx hb hT i_X12 hown hK hP 1 rfl rfl 30 (by decide) (hT _ q_209) (fun _ h9 => h9) rfl dX12_offers_189 ?_
                      refine va_put (D := D) (ci := 12) (v := .int a__walkGoing) (ty := .int) (C := RX12) (T := TX12) (N := 37) hx hb hT i_X12 tyX12 tyX12_ok nmX12 hown hK hP hD hS 1 rfl rfl 30 (by decide) (hT _ q_209) (fun _ h9 => h9) rfl (by decide +kernel) rfl rfl (Nat.le_of_ble_eq_true rfl) dX12_offers_192 (fun H locs hP hD hS => ?_)
                      have hP : va_P D classes [(a_said, .inl (cs 0, 123, .inl a_said_c)), (a, .inr (12, [.ref a_tape, .int a__taped, .int a__rules, .ref a_sign, .ref a_length, .ref a_clause, .ref a_clauses, .ref a_read, .int a__next, .int a__wrong, .int a__number, .int a__text, .int a__made, .int a__deep, .int a__lines, .ref a_open, .int a__opened, .ref a_stack, .int a__top, .ref a_word, .ref a_said, .int a__x, .ref a_worth, .ref a_mate, .ref a_wasSaid, .int a__undone, .int a__boughtNow, .ref a_wayBy, .ref a_wayThen, .int a__walkMost, .int a__walkGoing, .int a__walkSet, .ref a_kept, .long a__drawX, .ref a_images, .ref a_imageX, .ref a_isMade])), (a_worth, .inl (cs 0, 4096, .inl a_worth_c)), (a_wayBy, .inl (cs 0, 2048, .inl a_wayBy_c))] H := hP
                      have hD : va_D A [(a_said, .inl (cs 0, 123, .inl a_said_c)), (a, .inr (12, [.ref a_tape, .int a__taped, .int a__rules, .ref a_sign, .ref a_length, .ref a_clause, .ref a_clauses, .ref a_read, .int a__next, .int a__wrong, .int a__number, .int a__text, .int a__made, .int a__deep, .int a__lines, .ref a_open, .int a__opened, .ref a_stack, .int a__top, .ref a_word, .ref a_said, .int a__x, .ref a_worth, .ref a_mate, .ref a_wasSaid, .int a__undone, .int a__boughtNow, .ref a_wayBy, .ref a_wayThen, .int a__walkMost, .int a__walkGoing, .int a__walkSet, .ref a_kept, .long a__drawX, .ref a_images, .ref a_imageX, .ref a_isMade])), (a_worth, .inl (cs 0, 4096, .inl a_worth_c)), (a_wayBy, .inl (cs 0, 2048, .inl a_wayBy_c))] := hD
                      refine W.widen (k := 0) (n := 0) (Nat.le_of_ble_eq_true rfl) (Nat.le_of_ble_eq_true rfl) ?_
                      exact W.vret hx hb hr (fun t ht hW => ⟨⟨(fun k => match k with | 0 => 0 | 1 => a__walkMost | 2 => a__walkGoing | 3 => a__walkSet | _ => 0, fun _ _ => 0), rfl, (trivial), by rw [ht]; exact hP.sub [0, 1, 2, 3] rfl, hD.sub [0, 1, 2, 3] (by decide) rfl⟩, hS.F ht⟩) hS.2.2 dX12_offers_195
                    · have t42 : 1 < a__walkGoing.toInt := lin_geN c38 (by decide) rfl
                      have h43 : IV 2 2147483647 a__walkGoing := iv_lt2 (Int32.not_le.mp c38) (iv_c (a := 1) (b := 1) (by decide)) iv_top (by decide)
                      have ii44 : 2 ≤ a__walkGoing.toInt ∧ a__walkGoing.toInt ≤ 2147483647 := h43
                      refine lv_iload hx hb dX12_offers_183 (lv_at hl 0 rfl) ?_
                      refine lv_goto (tgt := 192) hx hb dX12_offers_185 (by decide) ?_
                      refine va_put (D := D) (ci := 12) (v := .int 1) (ty := .int) (C := RX12) (T := TX12) (N := 37) hx hb hT i_X12 tyX12 tyX12_ok nmX12 hown hK hP hD hS 1 rfl rfl 30 (by decide) (hT _ q_209) (fun _ h9 => h9) rfl (by decide +kernel) rfl rfl (Nat.le_of_ble_eq_true rfl) dX12_offers_192 (fun H locs hP hD hS => ?_)
                      have hP : va_P D classes [(a_said, .inl (cs 0, 123, .inl a_said_c)), (a, .inr (12, [.ref a_tape, .int a__taped, .int a__rules, .ref a_sign, .ref a_length, .ref a_clause, .ref a_clauses, .ref a_read, .int a__next, .int a__wrong, .int a__number, .int a__text, .int a__made, .int a__deep, .int a__lines, .ref a_open, .int a__opened, .ref a_stack, .int a__top, .ref a_word, .ref a_said, .int a__x, .ref a_worth, .ref a_mate, .ref a_wasSaid, .int a__undone, .int a__boughtNow, .ref a_wayBy, .ref a_wayThen, .int a__walkMost, .int 1, .int a__walkSet, .ref a_kept, .long a__drawX, .ref a_images, .ref a_imageX, .ref a_isMade])), (a_worth, .inl (cs 0, 4096, .inl a_worth_c)), (a_wayBy, .inl (cs 0, 2048, .inl a_wayBy_c))] H := hP
                      have hD : va_D A [(a_said, .inl (cs 0, 123, .inl a_said_c)), (a, .inr (12, [.ref a_tape, .int a__taped, .int a__rules, .ref a_sign, .ref a_length, .ref a_clause, .ref a_clauses, .ref a_read, .int a__next, .int a__wrong, .int a__number, .int a__text, .int a__made, .int a__deep, .int a__lines, .ref a_open, .int a__opened, .ref a_stack, .int a__top, .ref a_word, .ref a_said, .int a__x, .ref a_worth, .ref a_mate, .ref a_wasSaid, .int a__undone, .int a__boughtNow, .ref a_wayBy, .ref a_wayThen, .int a__walkMost, .int 1, .int a__walkSet, .ref a_kept, .long a__drawX, .ref a_images, .ref a_imageX, .ref a_isMade])), (a_worth, .inl (cs 0, 4096, .inl a_worth_c)), (a_wayBy, .inl (cs 0, 2048, .inl a_wayBy_c))] := hD
                      refine W.widen (k := 0) (n := 0) (Nat.le_of_ble_eq_true rfl) (Nat.le_of_ble_eq_true rfl) ?_
                      exact W.vret hx hb hr (fun t ht hW => ⟨⟨(fun k => match k with | 0 => 0 | 1 => a__walkMost | 2 => 1 | 3 => a__walkSet | _ => 0, fun _ _ => 0), rfl, (trivial), by rw [ht]; exact hP.sub [0, 1, 2, 3] rfl, hD.sub [0, 1, 2, 3] (by decide) rfl⟩, hS.F ht⟩) hS.2.2 dX12_offers_195
                  · have t45 : v14.toInt > a__walkMost.toInt := lin_leN c36 rfl rfl
                    have h46 : IV (-2147483648) 2147483646 a__walkMost := iv_lt1 (Int32.not_le.mp c36) iv_top iv_top (by decide)
                    have ii47 : (-2147483648) ≤ a__walkMost.toInt ∧ a__walkMost.toInt ≤ 2147483646 := h46
                    have h48 : IV (-2147483647) 2147483647 v14 := iv_lt2 (Int32.not_le.mp c36) iv_top iv_top (by decide)
                    have ii49 : (-2147483647) ≤ v14.toInt ∧ v14.toInt ≤ 2147483647 := h48
                    refine lv_aload_n hx hb dX12_offers_156 rfl (lv_at hl 5 rfl) ?_
                    refine lv_iload hx hb dX12_offers_157 (lv_at hl 2 rfl) ?_
                    refine va_put (D := D) (ci := 12) (v := .int v14) (ty := .int) (C := RX12) (T := TX12) (N := 37) hx hb hT i_X12 tyX12 tyX12_ok nmX12 hown hK hP hD hS 1 rfl rfl 29 (by decide) (hT _ q_208) (fun _ h9 => h9) rfl (by decide +kernel) rfl rfl (Nat.le_of_ble_eq_true rfl) dX12_offers_159 (fun H locs hP hD hS => ?_)
                    have hP : va_P D classes [(a_said, .inl (cs 0, 123, .inl a_said_c)), (a, .inr (12, [.ref a_tape, .int a__taped, .int a__rules, .ref a_sign, .ref a_length, .ref a_clause, .ref a_clauses, .ref a_read, .int a__next, .int a__wrong, .int a__number, .int a__text, .int a__made, .int a__deep, .int a__lines, .ref a_open, .int a__opened, .ref a_stack, .int a__top, .ref a_word, .ref a_said, .int a__x, .ref a_worth, .ref a_mate, .ref a_wasSaid, .int a__undone, .int a__boughtNow, .ref a_wayBy, .ref a_wayThen, .int v14, .int a__walkGoing, .int a__walkSet, .ref a_kept, .long a__drawX, .ref a_images, .ref a_imageX, .ref a_isMade])), (a_worth, .inl (cs 0, 4096, .inl a_worth_c)), (a_wayBy, .inl (cs 0, 2048, .inl a_wayBy_c))] H := hP
                    have hD : va_D A [(a_said, .inl (cs 0, 123, .inl a_said_c)), (a, .inr (12, [.ref a_tape, .int a__taped, .int a__rules, .ref a_sign, .ref a_length, .ref a_clause, .ref a_clauses, .ref a_read, .int a__next, .int a__wrong, .int a__number, .int a__text, .int a__made, .int a__deep, .int a__lines, .ref a_open, .int a__opened, .ref a_stack, .int a__top, .ref a_word, .ref a_said, .int a__x, .ref a_worth, .ref a_mate, .ref a_wasSaid, .int a__undone, .int a__boughtNow, .ref a_wayBy, .ref a_wayThen, .int v14, .int a__walkGoing, .int a__walkSet, .ref a_kept, .long a__drawX, .ref a_images, .ref a_imageX, .ref a_isMade])), (a_worth, .inl (cs 0, 4096, .inl a_worth_c)), (a_wayBy, .inl (cs 0, 2048, .inl a_wayBy_c))] := hD
                    refine lv_aload_n hx hb dX12_offers_162 rfl (lv_at hl 5 rfl) ?_
                    refine lv_iload hx hb dX12_offers_163 (lv_at hl 0 rfl) ?_
                    refine va_put (D := D) (ci := 12) (v := .int 1) (ty := .int) (C := RX12) (T := TX12) (N := 37) hx hb hT i_X12 tyX12 tyX12_ok nmX12 hown hK hP hD hS 1 rfl rfl 30 (by decide) (hT _ q_209) (fun _ h9 => h9) rfl (by decide +kernel) rfl rfl (Nat.le_of_ble_eq_true rfl) dX12_offers_165 (fun H locs hP hD hS => ?_)
                    have hP : va_P D classes [(a_said, .inl (cs 0, 123, .inl a_said_c)), (a, .inr (12, [.ref a_tape, .int a__taped, .int a__rules, .ref a_sign, .ref a_length, .ref a_clause, .ref a_clauses, .ref a_read, .int a__next, .int a__wrong, .int a__number, .int a__text, .int a__made, .int a__deep, .int a__lines, .ref a_open, .int a__opened, .ref a_stack, .int a__top, .ref a_word, .ref a_said, .int a__x, .ref a_worth, .ref a_mate, .ref a_wasSaid, .int a__undone, .int a__boughtNow, .ref a_wayBy, .ref a_wayThen, .int v14, .int 1, .int a__walkSet, .ref a_kept, .long a__drawX, .ref a_images, .ref a_imageX, .ref a_isMade])), (a_worth, .inl (cs 0, 4096, .inl a_worth_c)), (a_wayBy, .inl (cs 0, 2048, .inl a_wayBy_c))] H := hP
                    have hD : va_D A [(a_said, .inl (cs 0, 123, .inl a_said_c)), (a, .inr (12, [.ref a_tape, .int a__taped, .int a__rules, .ref a_sign, .ref a_length, .ref a_clause, .ref a_clauses, .ref a_read, .int a__next, .int a__wrong, .int a__number, .int a__text, .int a__made, .int a__deep, .int a__lines, .ref a_open, .int a__opened, .ref a_stack, .int a__top, .ref a_word, .ref a_said, .int a__x, .ref a_worth, .ref a_mate, .ref a_wasSaid, .int a__undone, .int a__boughtNow, .ref a_wayBy, .ref a_wayThen, .int v14, .int 1, .int a__walkSet, .ref a_kept, .long a__drawX, .ref a_images, .ref a_imageX, .ref a_isMade])), (a_worth, .inl (cs 0, 4096, .inl a_worth_c)), (a_wayBy, .inl (cs 0, 2048, .inl a_wayBy_c))] := hD
                    refine lv_aload_n hx hb dX12_offers_168 rfl (lv_at hl 5 rfl) ?_
                    refine lv_iload_n hx hb dX12_offers_169 rfl (lv_at hl 7 rfl) ?_
                    refine va_put (D := D) (ci := 12) (v := .int p1) (ty := .int) (C := RX12) (T := TX12) (N := 37) hx hb hT i_X12 tyX12 tyX12_ok nmX12 hown hK hP hD hS 1 rfl rfl 31 (by decide) (hT _ q_210) (fun _ h9 => h9) rfl (by decide +kernel) rfl rfl (Nat.le_of_ble_eq_true rfl) dX12_offers_170 (fun H locs hP hD hS => ?_)
                    have hP : va_P D classes [(a_said, .inl (cs 0, 123, .inl a_said_c)), (a, .inr (12, [.ref a_tape, .int a__taped, .int a__rules, .ref a_sign, .ref a_length, .ref a_clause, .ref a_clauses, .ref a_read, .int a__next, .int a__wrong, .int a__number, .int a__text, .int a__made, .int a__deep, .int a__lines, .ref a_open, .int a__opened, .ref a_stack, .int a__top, .ref a_word, .ref a_said, .int a__x, .ref a_worth, .ref a_mate, .ref a_wasSaid, .int a__undone, .int a__boughtNow, .ref a_wayBy, .ref a_wayThen, .int v14, .int 1, .int p1, .ref a_kept, .long a__drawX, .ref a_images, .ref a_imageX, .ref a_isMade])), (a_worth, .inl (cs 0, 4096, .inl a_worth_c)), (a_wayBy, .inl (cs 0, 2048, .inl a_wayBy_c))] H := hP
                    have hD : va_D A [(a_said, .inl (cs 0, 123, .inl a_said_c)), (a, .inr (12, [.ref a_tape, .int a__taped, .int a__rules, .ref a_sign, .ref a_length, .ref a_clause, .ref a_clauses, .ref a_read, .int a__next, .int a__wrong, .int a__number, .int a__text, .int a__made, .int a__deep, .int a__lines, .ref a_open, .int a__opened, .ref a_stack, .int a__top, .ref a_word, .ref a_said, .int a__x, .ref a_worth, .ref a_mate, .ref a_wasSaid, .int a__undone, .int a__boughtNow, .ref a_wayBy, .ref a_wayThen, .int v14, .int 1, .int p1, .ref a_kept, .long a__drawX, .ref a_images, .ref a_imageX, .ref a_isMade])), (a_worth, .inl (cs 0, 4096, .inl a_worth_c)), (a_wayBy, .inl (cs 0, 2048, .inl a_wayBy_c))] := hD
                    refine lv_aload_n hx hb dX12_offers_173 rfl (lv_at hl 5 rfl) ?_
                    refine lv_iload hx hb dX12_offers_174 (lv_at hl 0 rfl) ?_
                    refine lv_aload_n hx hb dX12_offers_176 rfl (lv_at hl 5 rfl) ?_
                    refine va_get (D := D) (ci := 12) (v := .int 1) (C := RX12) (T := TX12) (N := 37) hx hb hT i_X12 hown hK hP 1 rfl rfl 30 (by decide) (hT _ q_209) (fun _ h9 => h9) rfl dX12_offers_177 ?_
                    refine lv_icmp_ge (tgt := 188) hx hb dX12_offers_180 (by decide) (fun _ => ?_) (fun z => absurd (by decide) z)
                    refine lv_aload_n hx hb dX12_offers_188 rfl (lv_at hl 5 rfl) ?_
                    refine va_get (D := D) (ci := 12) (v := .int 1) (C := RX12) (T := TX12) (N := 37) hx hb hT i_X12 hown hK hP 1 rfl rfl 30 (by decide) (hT _ q_209) (fun _ h9 => h9) rfl dX12_offers_189 ?_
                    refine va_put (D := D) (ci := 12) (v := .int 1) (ty := .int) (C := RX12) (T := TX12) (N := 37) hx hb hT i_X12 tyX12 tyX12_ok nmX12 hown hK hP hD hS 1 rfl rfl 30 (by decide) (hT _ q_209) (fun _ h9 => h9) rfl (by decide +kernel) rfl rfl (Nat.le_of_ble_eq_true rfl) dX12_offers_192 (fun H locs hP hD hS => ?_)
                    have hP : va_P D classes [(a_said, .inl (cs 0, 123, .inl a_said_c)), (a, .inr (12, [.ref a_tape, .int a__taped, .int a__rules, .ref a_sign, .ref a_length, .ref a_clause, .ref a_clauses, .ref a_read, .int a__next, .int a__wrong, .int a__number, .int a__text, .int a__made, .int a__deep, .int a__lines, .ref a_open, .int a__opened, .ref a_stack, .int a__top, .ref a_word, .ref a_said, .int a__x, .ref a_worth, .ref a_mate, .ref a_wasSaid, .int a__undone, .int a__boughtNow, .ref a_wayBy, .ref a_wayThen, .int v14, .int 1, .int p1, .ref a_kept, .long a__drawX, .ref a_images, .ref a_imageX, .ref a_isMade])), (a_worth, .inl (cs 0, 4096, .inl a_worth_c)), (a_wayBy, .inl (cs 0, 2048, .inl a_wayBy_c))] H := hP
                    have hD : va_D A [(a_said, .inl (cs 0, 123, .inl a_said_c)), (a, .inr (12, [.ref a_tape, .int a__taped, .int a__rules, .ref a_sign, .ref a_length, .ref a_clause, .ref a_clauses, .ref a_read, .int a__next, .int a__wrong, .int a__number, .int a__text, .int a__made, .int a__deep, .int a__lines, .ref a_open, .int a__opened, .ref a_stack, .int a__top, .ref a_word, .ref a_said, .int a__x, .ref a_worth, .ref a_mate, .ref a_wasSaid, .int a__undone, .int a__boughtNow, .ref a_wayBy, .ref a_wayThen, .int v14, .int 1, .int p1, .ref a_kept, .long a__drawX, .ref a_images, .ref a_imageX, .ref a_isMade])), (a_worth, .inl (cs 0, 4096, .inl a_worth_c)), (a_wayBy, .inl (cs 0, 2048, .inl a_wayBy_c))] := hD
                    refine W.widen (k := 0) (n := 0) (Nat.le_of_ble_eq_true rfl) (Nat.le_of_ble_eq_true rfl) ?_
                    exact W.vret hx hb hr (fun t ht hW => ⟨⟨(fun k => match k with | 0 => 0 | 1 => v14 | 2 => 1 | 3 => p1 | _ => 0, fun _ _ => 0), rfl, (trivial), by rw [ht]; exact hP.sub [0, 1, 2, 3] rfl, hD.sub [0, 1, 2, 3] (by decide) rfl⟩, hS.F ht⟩) hS.2.2 dX12_offers_195
                · refine lv_if_eq (tgt := 144) hx hb dX12_offers_137 (by decide) (fun z => absurd z (by decide)) (fun _ => ?_)
                  refine lv_iconst (v := 0) hx hb dX12_offers_140 (by decide) ?_
                  refine lv_goto (tgt := 145) hx hb dX12_offers_141 (by decide) ?_
                  refine lv_istore (lv' := [(7, .int 0), (6, .int r27), (5, .int v14), (4, .int k8_L_4), (3, .int k8_L_3), (0, .ref a), (1, .int p0), (2, .int p1)]) hx hb dX12_offers_145 hl (by decide) rfl (fun ls hl => ?_)
                  refine lv_iload hx hb dX12_offers_147 (lv_at hl 2 rfl) ?_
                  refine lv_aload_n hx hb dX12_offers_149 rfl (lv_at hl 5 rfl) ?_
                  refine va_get (D := D) (ci := 12) (v := .int a__walkMost) (C := RX12) (T := TX12) (N := 37) hx hb hT i_X12 hown hK hP 1 rfl rfl 29 (by decide) (hT _ q_208) (fun _ h9 => h9) rfl dX12_offers_150 ?_
                  refine lv_icmp_le (tgt := 173) hx hb dX12_offers_153 (by decide) (fun c50 => ?_) (fun c50 => ?_)
                  · have t51 : v14.toInt ≤ a__walkMost.toInt := lin_le c50 rfl rfl
                    refine lv_aload_n hx hb dX12_offers_173 rfl (lv_at hl 5 rfl) ?_
                    refine lv_iload hx hb dX12_offers_174 (lv_at hl 0 rfl) ?_
                    refine lv_aload_n hx hb dX12_offers_176 rfl (lv_at hl 5 rfl) ?_
                    refine va_get (D := D) (ci := 12) (v := .int a__walkGoing) (C := RX12) (T := TX12) (N := 37) hx hb hT i_X12 hown hK hP 1 rfl rfl 30 (by decide) (hT _ q_209) (fun _ h9 => h9) rfl dX12_offers_177 ?_
                    refine lv_icmp_ge (tgt := 188) hx hb dX12_offers_180 (by decide) (fun c52 => ?_) (fun c52 => ?_)
                    · have t53 : 0 ≥ a__walkGoing.toInt := lin_ge c52 (by decide) rfl
                      have h54 : IV (-2147483648) 0 a__walkGoing := iv_le1 c52 iv_top (iv_c (a := 0) (b := 0) (by decide)) (by decide)
                      have ii55 : (-2147483648) ≤ a__walkGoing.toInt ∧ a__walkGoing.toInt ≤ 0 := h54
                      refine lv_aload_n hx hb dX12_offers_188 rfl (lv_at hl 5 rfl) ?_
                      refine va_get (D := D) (ci := 12) (v := .int a__walkGoing) (C := RX12) (T := TX12) (N := 37) hx hb hT i_X12 hown hK hP 1 rfl rfl 30 (by decide) (hT _ q_209) (fun _ h9 => h9) rfl dX12_offers_189 ?_
                      refine va_put (D := D) (ci := 12) (v := .int a__walkGoing) (ty := .int) (C := RX12) (T := TX12) (N := 37) hx hb hT i_X12 tyX12 tyX12_ok nmX12 hown hK hP hD hS 1 rfl rfl 30 (by decide) (hT _ q_209) (fun _ h9 => h9) rfl (by decide +kernel) rfl rfl (Nat.le_of_ble_eq_true rfl) dX12_offers_192 (fun H locs hP hD hS => ?_)
                      have hP : va_P D classes [(a_said, .inl (cs 0, 123, .inl a_said_c)), (a, .inr (12, [.ref a_tape, .int a__taped, .int a__rules, .ref a_sign, .ref a_length, .ref a_clause, .ref a_clauses, .ref a_read, .int a__next, .int a__wrong, .int a__number, .int a__text, .int a__made, .int a__deep, .int a__lines, .ref a_open, .int a__opened, .ref a_stack, .int a__top, .ref a_word, .ref a_said, .int a__x, .ref a_worth, .ref a_mate, .ref a_wasSaid, .int a__undone, .int a__boughtNow, .ref a_wayBy, .ref a_wayThen, .int a__walkMost, .int a__walkGoing, .int a__walkSet, .ref a_kept, .long a__drawX, .ref a_images, .ref a_imageX, .ref a_isMade])), (a_worth, .inl (cs 0, 4096, .inl a_worth_c)), (a_wayBy, .inl (cs 0, 2048, .inl a_wayBy_c))] H := hP
                      have hD : va_D A [(a_said, .inl (cs 0, 123, .inl a_said_c)), (a, .inr (12, [.ref a_tape, .int a__taped, .int a__rules, .ref a_sign, .ref a_length, .ref a_clause, .ref a_clauses, .ref a_read, .int a__next, .int a__wrong, .int a__number, .int a__text, .int a__made, .int a__deep, .int a__lines, .ref a_open, .int a__opened, .ref a_stack, .int a__top, .ref a_word, .ref a_said, .int a__x, .ref a_worth, .ref a_mate, .ref a_wasSaid, .int a__undone, .int a__boughtNow, .ref a_wayBy, .ref a_wayThen, .int a__walkMost, .int a__walkGoing, .int a__walkSet, .ref a_kept, .long a__drawX, .ref a_images, .ref a_imageX, .ref a_isMade])), (a_worth, .inl (cs 0, 4096, .inl a_worth_c)), (a_wayBy, .inl (cs 0, 2048, .inl a_wayBy_c))] := hD
                      refine W.widen (k := 0) (n := 0) (Nat.le_of_ble_eq_true rfl) (Nat.le_of_ble_eq_true rfl) ?_
                      exact W.vret hx hb hr (fun t ht hW => ⟨⟨(fun k => match k with | 0 => 0 | 1 => a__walkMost | 2 => a__walkGoing | 3 => a__walkSet | _ => 0, fun _ _ => 0), rfl, (trivial), by rw [ht]; exact hP.sub [0, 1, 2, 3] rfl, hD.sub [0, 1, 2, 3] (by decide) rfl⟩, hS.F ht⟩) hS.2.2 dX12_offers_195
                    · have t56 : 0 < a__walkGoing.toInt := lin_geN c52 (by decide) rfl
                      have h57 : IV 1 2147483647 a__walkGoing := iv_lt2 (Int32.not_le.mp c52) (iv_c (a := 0) (b := 0) (by decide)) iv_top (by decide)
                      have ii58 : 1 ≤ a__walkGoing.toInt ∧ a__walkGoing.toInt ≤ 2147483647 := h57
                      refine lv_iload hx hb dX12_offers_183 (lv_at hl 0 rfl) ?_
                      refine lv_goto (tgt := 192) hx hb dX12_offers_185 (by decide) ?_
                      refine va_put (D := D) (ci := 12) (v := .int 0) (ty := .int) (C := RX12) (T := TX12) (N := 37) hx hb hT i_X12 tyX12 tyX12_ok nmX12 hown hK hP hD hS 1 rfl rfl 30 (by decide) (hT _ q_209) (fun _ h9 => h9) rfl (by decide +kernel) rfl rfl (Nat.le_of_ble_eq_true rfl) dX12_offers_192 (fun H locs hP hD hS => ?_)
                      have hP : va_P D classes [(a_said, .inl (cs 0, 123, .inl a_said_c)), (a, .inr (12, [.ref a_tape, .int a__taped, .int a__rules, .ref a_sign, .ref a_length, .ref a_clause, .ref a_clauses, .ref a_read, .int a__next, .int a__wrong, .int a__number, .int a__text, .int a__made, .int a__deep, .int a__lines, .ref a_open, .int a__opened, .ref a_stack, .int a__top, .ref a_word, .ref a_said, .int a__x, .ref a_worth, .ref a_mate, .ref a_wasSaid, .int a__undone, .int a__boughtNow, .ref a_wayBy, .ref a_wayThen, .int a__walkMost, .int 0, .int a__walkSet, .ref a_kept, .long a__drawX, .ref a_images, .ref a_imageX, .ref a_isMade])), (a_worth, .inl (cs 0, 4096, .inl a_worth_c)), (a_wayBy, .inl (cs 0, 2048, .inl a_wayBy_c))] H := hP
                      have hD : va_D A [(a_said, .inl (cs 0, 123, .inl a_said_c)), (a, .inr (12, [.ref a_tape, .int a__taped, .int a__rules, .ref a_sign, .ref a_length, .ref a_clause, .ref a_clauses, .ref a_read, .int a__next, .int a__wrong, .int a__number, .int a__text, .int a__made, .int a__deep, .int a__lines, .ref a_open, .int a__opened, .ref a_stack, .int a__top, .ref a_word, .ref a_said, .int a__x, .ref a_worth, .ref a_mate, .ref a_wasSaid, .int a__undone, .int a__boughtNow, .ref a_wayBy, .ref a_wayThen, .int a__walkMost, .int 0, .int a__walkSet, .ref a_kept, .long a__drawX, .ref a_images, .ref a_imageX, .ref a_isMade])), (a_worth, .inl (cs 0, 4096, .inl a_worth_c)), (a_wayBy, .inl (cs 0, 2048, .inl a_wayBy_c))] := hD
                      refine W.widen (k := 0) (n := 0) (Nat.le_of_ble_eq_true rfl) (Nat.le_of_ble_eq_true rfl) ?_
                      exact W.vret hx hb hr (fun t ht hW => ⟨⟨(fun k => match k with | 0 => 0 | 1 => a__walkMost | 2 => 0 | 3 => a__walkSet | _ => 0, fun _ _ => 0), rfl, (trivial), by rw [ht]; exact hP.sub [0, 1, 2, 3] rfl, hD.sub [0, 1, 2, 3] (by decide) rfl⟩, hS.F ht⟩) hS.2.2 dX12_offers_195
                  · have t59 : v14.toInt > a__walkMost.toInt := lin_leN c50 rfl rfl
                    have h60 : IV (-2147483648) 2147483646 a__walkMost := iv_lt1 (Int32.not_le.mp c50) iv_top iv_top (by decide)
                    have ii61 : (-2147483648) ≤ a__walkMost.toInt ∧ a__walkMost.toInt ≤ 2147483646 := h60
                    have h62 : IV (-2147483647) 2147483647 v14 := iv_lt2 (Int32.not_le.mp c50) iv_top iv_top (by decide)
                    have ii63 : (-2147483647) ≤ v14.toInt ∧ v14.toInt ≤ 2147483647 := h62
                    refine lv_aload_n hx hb dX12_offers_156 rfl (lv_at hl 5 rfl) ?_
                    refine lv_iload hx hb dX12_offers_157 (lv_at hl 2 rfl) ?_
                    refine va_put (D := D) (ci := 12) (v := .int v14) (ty := .int) (C := RX12) (T := TX12) (N := 37) hx hb hT i_X12 tyX12 tyX12_ok nmX12 hown hK hP hD hS 1 rfl rfl 29 (by decide) (hT _ q_208) (fun _ h9 => h9) rfl (by decide +kernel) rfl rfl (Nat.le_of_ble_eq_true rfl) dX12_offers_159 (fun H locs hP hD hS => ?_)
                    have hP : va_P D classes [(a_said, .inl (cs 0, 123, .inl a_said_c)), (a, .inr (12, [.ref a_tape, .int a__taped, .int a__rules, .ref a_sign, .ref a_length, .ref a_clause, .ref a_clauses, .ref a_read, .int a__next, .int a__wrong, .int a__number, .int a__text, .int a__made, .int a__deep, .int a__lines, .ref a_open, .int a__opened, .ref a_stack, .int a__top, .ref a_word, .ref a_said, .int a__x, .ref a_worth, .ref a_mate, .ref a_wasSaid, .int a__undone, .int a__boughtNow, .ref a_wayBy, .ref a_wayThen, .int v14, .int a__walkGoing, .int a__walkSet, .ref a_kept, .long a__drawX, .ref a_images, .ref a_imageX, .ref a_isMade])), (a_worth, .inl (cs 0, 4096, .inl a_worth_c)), (a_wayBy, .inl (cs 0, 2048, .inl a_wayBy_c))] H := hP
                    have hD : va_D A [(a_said, .inl (cs 0, 123, .inl a_said_c)), (a, .inr (12, [.ref a_tape, .int a__taped, .int a__rules, .ref a_sign, .ref a_length, .ref a_clause, .ref a_clauses, .ref a_read, .int a__next, .int a__wrong, .int a__number, .int a__text, .int a__made, .int a__deep, .int a__lines, .ref a_open, .int a__opened, .ref a_stack, .int a__top, .ref a_word, .ref a_said, .int a__x, .ref a_worth, .ref a_mate, .ref a_wasSaid, .int a__undone, .int a__boughtNow, .ref a_wayBy, .ref a_wayThen, .int v14, .int a__walkGoing, .int a__walkSet, .ref a_kept, .long a__drawX, .ref a_images, .ref a_imageX, .ref a_isMade])), (a_worth, .inl (cs 0, 4096, .inl a_worth_c)), (a_wayBy, .inl (cs 0, 2048, .inl a_wayBy_c))] := hD
                    refine lv_aload_n hx hb dX12_offers_162 rfl (lv_at hl 5 rfl) ?_
                    refine lv_iload hx hb dX12_offers_163 (lv_at hl 0 rfl) ?_
                    refine va_put (D := D) (ci := 12) (v := .int 0) (ty := .int) (C := RX12) (T := TX12) (N := 37) hx hb hT i_X12 tyX12 tyX12_ok nmX12 hown hK hP hD hS 1 rfl rfl 30 (by decide) (hT _ q_209) (fun _ h9 => h9) rfl (by decide +kernel) rfl rfl (Nat.le_of_ble_eq_true rfl) dX12_offers_165 (fun H locs hP hD hS => ?_)
                    have hP : va_P D classes [(a_said, .inl (cs 0, 123, .inl a_said_c)), (a, .inr (12, [.ref a_tape, .int a__taped, .int a__rules, .ref a_sign, .ref a_length, .ref a_clause, .ref a_clauses, .ref a_read, .int a__next, .int a__wrong, .int a__number, .int a__text, .int a__made, .int a__deep, .int a__lines, .ref a_open, .int a__opened, .ref a_stack, .int a__top, .ref a_word, .ref a_said, .int a__x, .ref a_worth, .ref a_mate, .ref a_wasSaid, .int a__undone, .int a__boughtNow, .ref a_wayBy, .ref a_wayThen, .int v14, .int 0, .int a__walkSet, .ref a_kept, .long a__drawX, .ref a_images, .ref a_imageX, .ref a_isMade])), (a_worth, .inl (cs 0, 4096, .inl a_worth_c)), (a_wayBy, .inl (cs 0, 2048, .inl a_wayBy_c))] H := hP
                    have hD : va_D A [(a_said, .inl (cs 0, 123, .inl a_said_c)), (a, .inr (12, [.ref a_tape, .int a__taped, .int a__rules, .ref a_sign, .ref a_length, .ref a_clause, .ref a_clauses, .ref a_read, .int a__next, .int a__wrong, .int a__number, .int a__text, .int a__made, .int a__deep, .int a__lines, .ref a_open, .int a__opened, .ref a_stack, .int a__top, .ref a_word, .ref a_said, .int a__x, .ref a_worth, .ref a_mate, .ref a_wasSaid, .int a__undone, .int a__boughtNow, .ref a_wayBy, .ref a_wayThen, .int v14, .int 0, .int a__walkSet, .ref a_kept, .long a__drawX, .ref a_images, .ref a_imageX, .ref a_isMade])), (a_worth, .inl (cs 0, 4096, .inl a_worth_c)), (a_wayBy, .inl (cs 0, 2048, .inl a_wayBy_c))] := hD
                    refine lv_aload_n hx hb dX12_offers_168 rfl (lv_at hl 5 rfl) ?_
                    refine lv_iload_n hx hb dX12_offers_169 rfl (lv_at hl 7 rfl) ?_
                    refine va_put (D := D) (ci := 12) (v := .int p1) (ty := .int) (C := RX12) (T := TX12) (N := 37) hx hb hT i_X12 tyX12 tyX12_ok nmX12 hown hK hP hD hS 1 rfl rfl 31 (by decide) (hT _ q_210) (fun _ h9 => h9) rfl (by decide +kernel) rfl rfl (Nat.le_of_ble_eq_true rfl) dX12_offers_170 (fun H locs hP hD hS => ?_)
                    have hP : va_P D classes [(a_said, .inl (cs 0, 123, .inl a_said_c)), (a, .inr (12, [.ref a_tape, .int a__taped, .int a__rules, .ref a_sign, .ref a_length, .ref a_clause, .ref a_clauses, .ref a_read, .int a__next, .int a__wrong, .int a__number, .int a__text, .int a__made, .int a__deep, .int a__lines, .ref a_open, .int a__opened, .ref a_stack, .int a__top, .ref a_word, .ref a_said, .int a__x, .ref a_worth, .ref a_mate, .ref a_wasSaid, .int a__undone, .int a__boughtNow, .ref a_wayBy, .ref a_wayThen, .int v14, .int 0, .int p1, .ref a_kept, .long a__drawX, .ref a_images, .ref a_imageX, .ref a_isMade])), (a_worth, .inl (cs 0, 4096, .inl a_worth_c)), (a_wayBy, .inl (cs 0, 2048, .inl a_wayBy_c))] H := hP
                    have hD : va_D A [(a_said, .inl (cs 0, 123, .inl a_said_c)), (a, .inr (12, [.ref a_tape, .int a__taped, .int a__rules, .ref a_sign, .ref a_length, .ref a_clause, .ref a_clauses, .ref a_read, .int a__next, .int a__wrong, .int a__number, .int a__text, .int a__made, .int a__deep, .int a__lines, .ref a_open, .int a__opened, .ref a_stack, .int a__top, .ref a_word, .ref a_said, .int a__x, .ref a_worth, .ref a_mate, .ref a_wasSaid, .int a__undone, .int a__boughtNow, .ref a_wayBy, .ref a_wayThen, .int v14, .int 0, .int p1, .ref a_kept, .long a__drawX, .ref a_images, .ref a_imageX, .ref a_isMade])), (a_worth, .inl (cs 0, 4096, .inl a_worth_c)), (a_wayBy, .inl (cs 0, 2048, .inl a_wayBy_c))] := hD
                    refine lv_aload_n hx hb dX12_offers_173 rfl (lv_at hl 5 rfl) ?_
                    refine lv_iload hx hb dX12_offers_174 (lv_at hl 0 rfl) ?_
                    refine lv_aload_n hx hb dX12_offers_176 rfl (lv_at hl 5 rfl) ?_
                    refine va_get (D := D) (ci := 12) (v := .int 0) (C := RX12) (T := TX12) (N := 37) hx hb hT i_X12 hown hK hP 1 rfl rfl 30 (by decide) (hT _ q_209) (fun _ h9 => h9) rfl dX12_offers_177 ?_
                    refine lv_icmp_ge (tgt := 188) hx hb dX12_offers_180 (by decide) (fun _ => ?_) (fun z => absurd (by decide) z)
                    refine lv_aload_n hx hb dX12_offers_188 rfl (lv_at hl 5 rfl) ?_
                    refine va_get (D := D) (ci := 12) (v := .int 0) (C := RX12) (T := TX12) (N := 37) hx hb hT i_X12 hown hK hP 1 rfl rfl 30 (by decide) (hT _ q_209) (fun _ h9 => h9) rfl dX12_offers_189 ?_
                    refine va_put (D := D) (ci := 12) (v := .int 0) (ty := .int) (C := RX12) (T := TX12) (N := 37) hx hb hT i_X12 tyX12 tyX12_ok nmX12 hown hK hP hD hS 1 rfl rfl 30 (by decide) (hT _ q_209) (fun _ h9 => h9) rfl (by decide +kernel) rfl rfl (Nat.le_of_ble_eq_true rfl) dX12_offers_192 (fun H locs hP hD hS => ?_)
                    have hP : va_P D classes [(a_said, .inl (cs 0, 123, .inl a_said_c)), (a, .inr (12, [.ref a_tape, .int a__taped, .int a__rules, .ref a_sign, .ref a_length, .ref a_clause, .ref a_clauses, .ref a_read, .int a__next, .int a__wrong, .int a__number, .int a__text, .int a__made, .int a__deep, .int a__lines, .ref a_open, .int a__opened, .ref a_stack, .int a__top, .ref a_word, .ref a_said, .int a__x, .ref a_worth, .ref a_mate, .ref a_wasSaid, .int a__undone, .int a__boughtNow, .ref a_wayBy, .ref a_wayThen, .int v14, .int 0, .int p1, .ref a_kept, .long a__drawX, .ref a_images, .ref a_imageX, .ref a_isMade])), (a_worth, .inl (cs 0, 4096, .inl a_worth_c)), (a_wayBy, .inl (cs 0, 2048, .inl a_wayBy_c))] H := hP
                    have hD : va_D A [(a_said, .inl (cs 0, 123, .inl a_said_c)), (a, .inr (12, [.ref a_tape, .int a__taped, .int a__rules, .ref a_sign, .ref a_length, .ref a_clause, .ref a_clauses, .ref a_read, .int a__next, .int a__wrong, .int a__number, .int a__text, .int a__made, .int a__deep, .int a__lines, .ref a_open, .int a__opened, .ref a_stack, .int a__top, .ref a_word, .ref a_said, .int a__x, .ref a_worth, .ref a_mate, .ref a_wasSaid, .int a__undone, .int a__boughtNow, .ref a_wayBy, .ref a_wayThen, .int v14, .int 0, .int p1, .ref a_kept, .long a__drawX, .ref a_images, .ref a_imageX, .ref a_isMade])), (a_worth, .inl (cs 0, 4096, .inl a_worth_c)), (a_wayBy, .inl (cs 0, 2048, .inl a_wayBy_c))] := hD
                    refine W.widen (k := 0) (n := 0) (Nat.le_of_ble_eq_true rfl) (Nat.le_of_ble_eq_true rfl) ?_
                    exact W.vret hx hb hr (fun t ht hW => ⟨⟨(fun k => match k with | 0 => 0 | 1 => v14 | 2 => 0 | 3 => p1 | _ => 0, fun _ _ => 0), rfl, (trivial), by rw [ht]; exact hP.sub [0, 1, 2, 3] rfl, hD.sub [0, 1, 2, 3] (by decide) rfl⟩, hS.F ht⟩) hS.2.2 dX12_offers_195
              · refine lv_if_eq (tgt := 131) hx hb dX12_offers_124 (by decide) (fun z => absurd z (by decide)) (fun _ => ?_)
                refine lv_iconst (v := (-1)) hx hb dX12_offers_127 (by decide) ?_
                refine lv_goto (tgt := 145) hx hb dX12_offers_128 (by decide) ?_
                refine lv_istore (lv' := [(7, .int (-1)), (6, .int r27), (5, .int v14), (4, .int k8_L_4), (3, .int k8_L_3), (0, .ref a), (1, .int p0), (2, .int p1)]) hx hb dX12_offers_145 hl (by decide) rfl (fun ls hl => ?_)
                refine lv_iload hx hb dX12_offers_147 (lv_at hl 2 rfl) ?_
                refine lv_aload_n hx hb dX12_offers_149 rfl (lv_at hl 5 rfl) ?_
                refine va_get (D := D) (ci := 12) (v := .int a__walkMost) (C := RX12) (T := TX12) (N := 37) hx hb hT i_X12 hown hK hP 1 rfl rfl 29 (by decide) (hT _ q_208) (fun _ h9 => h9) rfl dX12_offers_150 ?_
                refine lv_icmp_le (tgt := 173) hx hb dX12_offers_153 (by decide) (fun c64 => ?_) (fun c64 => ?_)
                · have t65 : v14.toInt ≤ a__walkMost.toInt := lin_le c64 rfl rfl
                  refine lv_aload_n hx hb dX12_offers_173 rfl (lv_at hl 5 rfl) ?_
                  refine lv_iload hx hb dX12_offers_174 (lv_at hl 0 rfl) ?_
                  refine lv_aload_n hx hb dX12_offers_176 rfl (lv_at hl 5 rfl) ?_
                  refine va_get (D := D) (ci := 12) (v := .int a__walkGoing) (C := RX12) (T := TX12) (N := 37) hx hb hT i_X12 hown hK hP 1 rfl rfl 30 (by decide) (hT _ q_209) (fun _ h9 => h9) rfl dX12_offers_177 ?_
                  refine lv_icmp_ge (tgt := 188) hx hb dX12_offers_180 (by decide) (fun c66 => ?_) (fun c66 => ?_)
                  · have t67 : (-1) ≥ a__walkGoing.toInt := lin_ge c66 (by decide) rfl
                    have h68 : IV (-2147483648) (-1) a__walkGoing := iv_le1 c66 iv_top (iv_c (a := (-1)) (b := (-1)) (by decide)) (by decide)
                    have ii69 : (-2147483648) ≤ a__walkGoing.toInt ∧ a__walkGoing.toInt ≤ (-1) := h68
                    refine lv_aload_n hx hb dX12_offers_188 rfl (lv_at hl 5 rfl) ?_
                    refine va_get (D := D) (ci := 12) (v := .int a__walkGoing) (C := RX12) (T := TX12) (N := 37) hx hb hT i_X12 hown hK hP 1 rfl rfl 30 (by decide) (hT _ q_209) (fun _ h9 => h9) rfl dX12_offers_189 ?_
                    refine va_put (D := D) (ci := 12) (v := .int a__walkGoing) (ty := .int) (C := RX12) (T := TX12) (N := 37) hx hb hT i_X12 tyX12 tyX12_ok nmX12 hown hK hP hD hS 1 rfl rfl 30 (by decide) (hT _ q_209) (fun _ h9 => h9) rfl (by decide +kernel) rfl rfl (Nat.le_of_ble_eq_true rfl) dX12_offers_192 (fun H locs hP hD hS => ?_)
                    have hP : va_P D classes [(a_said, .inl (cs 0, 123, .inl a_said_c)), (a, .inr (12, [.ref a_tape, .int a__taped, .int a__rules, .ref a_sign, .ref a_length, .ref a_clause, .ref a_clauses, .ref a_read, .int a__next, .int a__wrong, .int a__number, .int a__text, .int a__made, .int a__deep, .int a__lines, .ref a_open, .int a__opened, .ref a_stack, .int a__top, .ref a_word, .ref a_said, .int a__x, .ref a_worth, .ref a_mate, .ref a_wasSaid, .int a__undone, .int a__boughtNow, .ref a_wayBy, .ref a_wayThen, .int a__walkMost, .int a__walkGoing, .int a__walkSet, .ref a_kept, .long a__drawX, .ref a_images, .ref a_imageX, .ref a_isMade])), (a_worth, .inl (cs 0, 4096, .inl a_worth_c)), (a_wayBy, .inl (cs 0, 2048, .inl a_wayBy_c))] H := hP
                    have hD : va_D A [(a_said, .inl (cs 0, 123, .inl a_said_c)), (a, .inr (12, [.ref a_tape, .int a__taped, .int a__rules, .ref a_sign, .ref a_length, .ref a_clause, .ref a_clauses, .ref a_read, .int a__next, .int a__wrong, .int a__number, .int a__text, .int a__made, .int a__deep, .int a__lines, .ref a_open, .int a__opened, .ref a_stack, .int a__top, .ref a_word, .ref a_said, .int a__x, .ref a_worth, .ref a_mate, .ref a_wasSaid, .int a__undone, .int a__boughtNow, .ref a_wayBy, .ref a_wayThen, .int a__walkMost, .int a__walkGoing, .int a__walkSet, .ref a_kept, .long a__drawX, .ref a_images, .ref a_imageX, .ref a_isMade])), (a_worth, .inl (cs 0, 4096, .inl a_worth_c)), (a_wayBy, .inl (cs 0, 2048, .inl a_wayBy_c))] := hD
                    refine W.widen (k := 0) (n := 0) (Nat.le_of_ble_eq_true rfl) (Nat.le_of_ble_eq_true rfl) ?_
                    exact W.vret hx hb hr (fun t ht hW => ⟨⟨(fun k => match k with | 0 => 0 | 1 => a__walkMost | 2 => a__walkGoing | 3 => a__walkSet | _ => 0, fun _ _ => 0), rfl, (trivial), by rw [ht]; exact hP.sub [0, 1, 2, 3] rfl, hD.sub [0, 1, 2, 3] (by decide) rfl⟩, hS.F ht⟩) hS.2.2 dX12_offers_195
                  · have t70 : (-1) < a__walkGoing.toInt := lin_geN c66 (by decide) rfl
                    have h71 : IV 0 2147483647 a__walkGoing := iv_lt2 (Int32.not_le.mp c66) (iv_c (a := (-1)) (b := (-1)) (by decide)) iv_top (by decide)
                    have ii72 : 0 ≤ a__walkGoing.toInt ∧ a__walkGoing.toInt ≤ 2147483647 := h71
                    refine lv_iload hx hb dX12_offers_183 (lv_at hl 0 rfl) ?_
                    refine lv_goto (tgt := 192) hx hb dX12_offers_185 (by decide) ?_
                    refine va_put (D := D) (ci := 12) (v := .int (-1)) (ty := .int) (C := RX12) (T := TX12) (N := 37) hx hb hT i_X12 tyX12 tyX12_ok nmX12 hown hK hP hD hS 1 rfl rfl 30 (by decide) (hT _ q_209) (fun _ h9 => h9) rfl (by decide +kernel) rfl rfl (Nat.le_of_ble_eq_true rfl) dX12_offers_192 (fun H locs hP hD hS => ?_)
                    have hP : va_P D classes [(a_said, .inl (cs 0, 123, .inl a_said_c)), (a, .inr (12, [.ref a_tape, .int a__taped, .int a__rules, .ref a_sign, .ref a_length, .ref a_clause, .ref a_clauses, .ref a_read, .int a__next, .int a__wrong, .int a__number, .int a__text, .int a__made, .int a__deep, .int a__lines, .ref a_open, .int a__opened, .ref a_stack, .int a__top, .ref a_word, .ref a_said, .int a__x, .ref a_worth, .ref a_mate, .ref a_wasSaid, .int a__undone, .int a__boughtNow, .ref a_wayBy, .ref a_wayThen, .int a__walkMost, .int (-1), .int a__walkSet, .ref a_kept, .long a__drawX, .ref a_images, .ref a_imageX, .ref a_isMade])), (a_worth, .inl (cs 0, 4096, .inl a_worth_c)), (a_wayBy, .inl (cs 0, 2048, .inl a_wayBy_c))] H := hP
                    have hD : va_D A [(a_said, .inl (cs 0, 123, .inl a_said_c)), (a, .inr (12, [.ref a_tape, .int a__taped, .int a__rules, .ref a_sign, .ref a_length, .ref a_clause, .ref a_clauses, .ref a_read, .int a__next, .int a__wrong, .int a__number, .int a__text, .int a__made, .int a__deep, .int a__lines, .ref a_open, .int a__opened, .ref a_stack, .int a__top, .ref a_word, .ref a_said, .int a__x, .ref a_worth, .ref a_mate, .ref a_wasSaid, .int a__undone, .int a__boughtNow, .ref a_wayBy, .ref a_wayThen, .int a__walkMost, .int (-1), .int a__walkSet, .ref a_kept, .long a__drawX, .ref a_images, .ref a_imageX, .ref a_isMade])), (a_worth, .inl (cs 0, 4096, .inl a_worth_c)), (a_wayBy, .inl (cs 0, 2048, .inl a_wayBy_c))] := hD
                    refine W.widen (k := 0) (n := 0) (Nat.le_of_ble_eq_true rfl) (Nat.le_of_ble_eq_true rfl) ?_
                    exact W.vret hx hb hr (fun t ht hW => ⟨⟨(fun k => match k with | 0 => 0 | 1 => a__walkMost | 2 => (-1) | 3 => a__walkSet | _ => 0, fun _ _ => 0), rfl, (trivial), by rw [ht]; exact hP.sub [0, 1, 2, 3] rfl, hD.sub [0, 1, 2, 3] (by decide) rfl⟩, hS.F ht⟩) hS.2.2 dX12_offers_195
                · have t73 : v14.toInt > a__walkMost.toInt := lin_leN c64 rfl rfl
                  have h74 : IV (-2147483648) 2147483646 a__walkMost := iv_lt1 (Int32.not_le.mp c64) iv_top iv_top (by decide)
                  have ii75 : (-2147483648) ≤ a__walkMost.toInt ∧ a__walkMost.toInt ≤ 2147483646 := h74
                  have h76 : IV (-2147483647) 2147483647 v14 := iv_lt2 (Int32.not_le.mp c64) iv_top iv_top (by decide)
                  have ii77 : (-2147483647) ≤ v14.toInt ∧ v14.toInt ≤ 2147483647 := h76
                  refine lv_aload_n hx hb dX12_offers_156 rfl (lv_at hl 5 rfl) ?_
                  refine lv_iload hx hb dX12_offers_157 (lv_at hl 2 rfl) ?_
                  refine va_put (D := D) (ci := 12) (v := .int v14) (ty := .int) (C := RX12) (T := TX12) (N := 37) hx hb hT i_X12 tyX12 tyX12_ok nmX12 hown hK hP hD hS 1 rfl rfl 29 (by decide) (hT _ q_208) (fun _ h9 => h9) rfl (by decide +kernel) rfl rfl (Nat.le_of_ble_eq_true rfl) dX12_offers_159 (fun H locs hP hD hS => ?_)
                  have hP : va_P D classes [(a_said, .inl (cs 0, 123, .inl a_said_c)), (a, .inr (12, [.ref a_tape, .int a__taped, .int a__rules, .ref a_sign, .ref a_length, .ref a_clause, .ref a_clauses, .ref a_read, .int a__next, .int a__wrong, .int a__number, .int a__text, .int a__made, .int a__deep, .int a__lines, .ref a_open, .int a__opened, .ref a_stack, .int a__top, .ref a_word, .ref a_said, .int a__x, .ref a_worth, .ref a_mate, .ref a_wasSaid, .int a__undone, .int a__boughtNow, .ref a_wayBy, .ref a_wayThen, .int v14, .int a__walkGoing, .int a__walkSet, .ref a_kept, .long a__drawX, .ref a_images, .ref a_imageX, .ref a_isMade])), (a_worth, .inl (cs 0, 4096, .inl a_worth_c)), (a_wayBy, .inl (cs 0, 2048, .inl a_wayBy_c))] H := hP
                  have hD : va_D A [(a_said, .inl (cs 0, 123, .inl a_said_c)), (a, .inr (12, [.ref a_tape, .int a__taped, .int a__rules, .ref a_sign, .ref a_length, .ref a_clause, .ref a_clauses, .ref a_read, .int a__next, .int a__wrong, .int a__number, .int a__text, .int a__made, .int a__deep, .int a__lines, .ref a_open, .int a__opened, .ref a_stack, .int a__top, .ref a_word, .ref a_said, .int a__x, .ref a_worth, .ref a_mate, .ref a_wasSaid, .int a__undone, .int a__boughtNow, .ref a_wayBy, .ref a_wayThen, .int v14, .int a__walkGoing, .int a__walkSet, .ref a_kept, .long a__drawX, .ref a_images, .ref a_imageX, .ref a_isMade])), (a_worth, .inl (cs 0, 4096, .inl a_worth_c)), (a_wayBy, .inl (cs 0, 2048, .inl a_wayBy_c))] := hD
                  refine lv_aload_n hx hb dX12_offers_162 rfl (lv_at hl 5 rfl) ?_
                  refine lv_iload hx hb dX12_offers_163 (lv_at hl 0 rfl) ?_
                  refine va_put (D := D) (ci := 12) (v := .int (-1)) (ty := .int) (C := RX12) (T := TX12) (N := 37) hx hb hT i_X12 tyX12 tyX12_ok nmX12 hown hK hP hD hS 1 rfl rfl 30 (by decide) (hT _ q_209) (fun _ h9 => h9) rfl (by decide +kernel) rfl rfl (Nat.le_of_ble_eq_true rfl) dX12_offers_165 (fun H locs hP hD hS => ?_)
                  have hP : va_P D classes [(a_said, .inl (cs 0, 123, .inl a_said_c)), (a, .inr (12, [.ref a_tape, .int a__taped, .int a__rules, .ref a_sign, .ref a_length, .ref a_clause, .ref a_clauses, .ref a_read, .int a__next, .int a__wrong, .int a__number, .int a__text, .int a__made, .int a__deep, .int a__lines, .ref a_open, .int a__opened, .ref a_stack, .int a__top, .ref a_word, .ref a_said, .int a__x, .ref a_worth, .ref a_mate, .ref a_wasSaid, .int a__undone, .int a__boughtNow, .ref a_wayBy, .ref a_wayThen, .int v14, .int (-1), .int a__walkSet, .ref a_kept, .long a__drawX, .ref a_images, .ref a_imageX, .ref a_isMade])), (a_worth, .inl (cs 0, 4096, .inl a_worth_c)), (a_wayBy, .inl (cs 0, 2048, .inl a_wayBy_c))] H := hP
                  have hD : va_D A [(a_said, .inl (cs 0, 123, .inl a_said_c)), (a, .inr (12, [.ref a_tape, .int a__taped, .int a__rules, .ref a_sign, .ref a_length, .ref a_clause, .ref a_clauses, .ref a_read, .int a__next, .int a__wrong, .int a__number, .int a__text, .int a__made, .int a__deep, .int a__lines, .ref a_open, .int a__opened, .ref a_stack, .int a__top, .ref a_word, .ref a_said, .int a__x, .ref a_worth, .ref a_mate, .ref a_wasSaid, .int a__undone, .int a__boughtNow, .ref a_wayBy, .ref a_wayThen, .int v14, .int (-1), .int a__walkSet, .ref a_kept, .long a__drawX, .ref a_images, .ref a_imageX, .ref a_isMade])), (a_worth, .inl (cs 0, 4096, .inl a_worth_c)), (a_wayBy, .inl (cs 0, 2048, .inl a_wayBy_c))] := hD
                  refine lv_aload_n hx hb dX12_offers_168 rfl (lv_at hl 5 rfl) ?_
                  refine lv_iload_n hx hb dX12_offers_169 rfl (lv_at hl 7 rfl) ?_
                  refine va_put (D := D) (ci := 12) (v := .int p1) (ty := .int) (C := RX12) (T := TX12) (N := 37) hx hb hT i_X12 tyX12 tyX12_ok nmX12 hown hK hP hD hS 1 rfl rfl 31 (by decide) (hT _ q_210) (fun _ h9 => h9) rfl (by decide +kernel) rfl rfl (Nat.le_of_ble_eq_true rfl) dX12_offers_170 (fun H locs hP hD hS => ?_)
                  have hP : va_P D classes [(a_said, .inl (cs 0, 123, .inl a_said_c)), (a, .inr (12, [.ref a_tape, .int a__taped, .int a__rules, .ref a_sign, .ref a_length, .ref a_clause, .ref a_clauses, .ref a_read, .int a__next, .int a__wrong, .int a__number, .int a__text, .int a__made, .int a__deep, .int a__lines, .ref a_open, .int a__opened, .ref a_stack, .int a__top, .ref a_word, .ref a_said, .int a__x, .ref a_worth, .ref a_mate, .ref a_wasSaid, .int a__undone, .int a__boughtNow, .ref a_wayBy, .ref a_wayThen, .int v14, .int (-1), .int p1, .ref a_kept, .long a__drawX, .ref a_images, .ref a_imageX, .ref a_isMade])), (a_worth, .inl (cs 0, 4096, .inl a_worth_c)), (a_wayBy, .inl (cs 0, 2048, .inl a_wayBy_c))] H := hP
                  have hD : va_D A [(a_said, .inl (cs 0, 123, .inl a_said_c)), (a, .inr (12, [.ref a_tape, .int a__taped, .int a__rules, .ref a_sign, .ref a_length, .ref a_clause, .ref a_clauses, .ref a_read, .int a__next, .int a__wrong, .int a__number, .int a__text, .int a__made, .int a__deep, .int a__lines, .ref a_open, .int a__opened, .ref a_stack, .int a__top, .ref a_word, .ref a_said, .int a__x, .ref a_worth, .ref a_mate, .ref a_wasSaid, .int a__undone, .int a__boughtNow, .ref a_wayBy, .ref a_wayThen, .int v14, .int (-1), .int p1, .ref a_kept, .long a__drawX, .ref a_images, .ref a_imageX, .ref a_isMade])), (a_worth, .inl (cs 0, 4096, .inl a_worth_c)), (a_wayBy, .inl (cs 0, 2048, .inl a_wayBy_c))] := hD
                  refine lv_aload_n hx hb dX12_offers_173 rfl (lv_at hl 5 rfl) ?_
                  refine lv_iload hx hb dX12_offers_174 (lv_at hl 0 rfl) ?_
                  refine lv_aload_n hx hb dX12_offers_176 rfl (lv_at hl 5 rfl) ?_
                  refine va_get (D := D) (ci := 12) (v := .int (-1)) (C := RX12) (T := TX12) (N := 37) hx hb hT i_X12 hown hK hP 1 rfl rfl 30 (by decide) (hT _ q_209) (fun _ h9 => h9) rfl dX12_offers_177 ?_
                  refine lv_icmp_ge (tgt := 188) hx hb dX12_offers_180 (by decide) (fun _ => ?_) (fun z => absurd (by decide) z)
                  refine lv_aload_n hx hb dX12_offers_188 rfl (lv_at hl 5 rfl) ?_
                  refine va_get (D := D) (ci := 12) (v := .int (-1)) (C := RX12) (T := TX12) (N := 37) hx hb hT i_X12 hown hK hP 1 rfl rfl 30 (by decide) (hT _ q_209) (fun _ h9 => h9) rfl dX12_offers_189 ?_
                  refine va_put (D := D) (ci := 12) (v := .int (-1)) (ty := .int) (C := RX12) (T := TX12) (N := 37) hx hb hT i_X12 tyX12 tyX12_ok nmX12 hown hK hP hD hS 1 rfl rfl 30 (by decide) (hT _ q_209) (fun _ h9 => h9) rfl (by decide +kernel) rfl rfl (Nat.le_of_ble_eq_true rfl) dX12_offers_192 (fun H locs hP hD hS => ?_)
                  have hP : va_P D classes [(a_said, .inl (cs 0, 123, .inl a_said_c)), (a, .inr (12, [.ref a_tape, .int a__taped, .int a__rules, .ref a_sign, .ref a_length, .ref a_clause, .ref a_clauses, .ref a_read, .int a__next, .int a__wrong, .int a__number, .int a__text, .int a__made, .int a__deep, .int a__lines, .ref a_open, .int a__opened, .ref a_stack, .int a__top, .ref a_word, .ref a_said, .int a__x, .ref a_worth, .ref a_mate, .ref a_wasSaid, .int a__undone, .int a__boughtNow, .ref a_wayBy, .ref a_wayThen, .int v14, .int (-1), .int p1, .ref a_kept, .long a__drawX, .ref a_images, .ref a_imageX, .ref a_isMade])), (a_worth, .inl (cs 0, 4096, .inl a_worth_c)), (a_wayBy, .inl (cs 0, 2048, .inl a_wayBy_c))] H := hP
                  have hD : va_D A [(a_said, .inl (cs 0, 123, .inl a_said_c)), (a, .inr (12, [.ref a_tape, .int a__taped, .int a__rules, .ref a_sign, .ref a_length, .ref a_clause, .ref a_clauses, .ref a_read, .int a__next, .int a__wrong, .int a__number, .int a__text, .int a__made, .int a__deep, .int a__lines, .ref a_open, .int a__opened, .ref a_stack, .int a__top, .ref a_word, .ref a_said, .int a__x, .ref a_worth, .ref a_mate, .ref a_wasSaid, .int a__undone, .int a__boughtNow, .ref a_wayBy, .ref a_wayThen, .int v14, .int (-1), .int p1, .ref a_kept, .long a__drawX, .ref a_images, .ref a_imageX, .ref a_isMade])), (a_worth, .inl (cs 0, 4096, .inl a_worth_c)), (a_wayBy, .inl (cs 0, 2048, .inl a_wayBy_c))] := hD
                  refine W.widen (k := 0) (n := 0) (Nat.le_of_ble_eq_true rfl) (Nat.le_of_ble_eq_true rfl) ?_
                  exact W.vret hx hb hr (fun t ht hW => ⟨⟨(fun k => match k with | 0 => 0 | 1 => v14 | 2 => (-1) | 3 => p1 | _ => 0, fun _ _ => 0), rfl, (trivial), by rw [ht]; exact hP.sub [0, 1, 2, 3] rfl, hD.sub [0, 1, 2, 3] (by decide) rfl⟩, hS.F ht⟩) hS.2.2 dX12_offers_195
            · have t78 : r27.toInt = 0 := lin_eqN c28 rfl (by decide)
              have h79 : IV 0 0 r27 := iv_eq1 c28 iv_top (iv_c (a := 0) (b := 0) (by decide)) (by decide) (by decide)
              have ii80 : 0 ≤ r27.toInt ∧ r27.toInt ≤ 0 := h79
              refine W.widen (k := 0) (n := 0) (Nat.le_of_ble_eq_true rfl) (Nat.le_of_ble_eq_true rfl) ?_
              exact W.vret hx hb hr (fun t ht hW => ⟨⟨(fun k => match k with | 0 => 0 | 1 => a__walkMost | 2 => a__walkGoing | 3 => a__walkSet | _ => 0, fun _ _ => 0), rfl, (trivial), by rw [ht]; exact hP.sub [0, 1, 2, 3] rfl, hD.sub [0, 1, 2, 3] (by decide) rfl⟩, hS.F ht⟩) hS.2.2 dX12_offers_117
          · have t81 : v14.toInt < a__walkMost.toInt := lin_geN c25 rfl rfl
            have h82 : IV (-2147483648) 2147483646 v14 := iv_lt1 (Int32.not_le.mp c25) iv_top iv_top (by decide)
            have ii83 : (-2147483648) ≤ v14.toInt ∧ v14.toInt ≤ 2147483646 := h82
            have h84 : IV (-2147483647) 2147483647 a__walkMost := iv_lt2 (Int32.not_le.mp c25) iv_top iv_top (by decide)
            have ii85 : (-2147483647) ≤ a__walkMost.toInt ∧ a__walkMost.toInt ≤ 2147483647 := h84
            refine W.widen (k := 0) (n := 0) (Nat.le_of_ble_eq_true rfl) (Nat.le_of_ble_eq_true rfl) ?_
            exact W.vret hx hb hr (fun t ht hW => ⟨⟨(fun k => match k with | 0 => 0 | 1 => a__walkMost | 2 => a__walkGoing | 3 => a__walkSet | _ => 0, fun _ _ => 0), rfl, (trivial), by rw [ht]; exact hP.sub [0, 1, 2, 3] rfl, hD.sub [0, 1, 2, 3] (by decide) rfl⟩, hS.F ht⟩) hS.2.2 dX12_offers_103
      · have t86 : k8_L_5.toInt < v1.toInt := lin_geN c4 rfl rfl
        have h87 : IV 0 11 k8_L_5 := iv_lt1 (Int32.not_le.mp c4) q8_10 h2 (by decide)
        have ii88 : 0 ≤ k8_L_5.toInt ∧ k8_L_5.toInt ≤ 11 := h87
        have h89 : IV 1 12 v1 := iv_lt2 (Int32.not_le.mp c4) q8_10 h2 (by decide)
        have ii90 : 1 ≤ v1.toInt ∧ v1.toInt ≤ 12 := h89
        refine lv_iload_n hx hb dX12_offers_19 rfl (lv_at hl 5 rfl) ?_
        refine lv_iload hx hb dX12_offers_20 (lv_at hl 0 rfl) ?_
        refine va_calli (va_runS (As := [.int p1, .int k8_L_5]) (rest := []) ⟨hx, hb, hml, hown, hT⟩ (c_X12_isOf l D cs kK kV p1 k8_L_5) (va_cwS 2 hT (hz_gS q_1034 q_1035 q_701 q_1036) rfl rfl rfl (by decide +kernel) ⟨(Nat.le_of_ble_eq_true rfl), (Nat.le_of_ble_eq_true rfl)⟩) ⟨hz_P.blind, hz_P.mk (hP.sub (ws' := []) [] rfl) hE hS⟩ rfl rfl hl.1 rfl (lv_room (Nat.le_of_ble_eq_true rfl)) dX12_offers_22 ⟨(Nat.le_of_ble_eq_true rfl), (Nat.le_of_ble_eq_true rfl)⟩) hS (fun _ _ h => h.elim) (fun _ h => h.elim) (fun r91 u t H1 locs ht hvm hw hB hz1 hk1 hS => ?_)
        have hP := hz_keep hP hk1
        clear hk1 hB hz1
        generalize H1 = H at hP hS ⊢
        rcases hw with ⟨rfl, x92⟩ | ⟨rfl, x93⟩
        · refine lv_if_ne (tgt := 31) hx hb dX12_offers_25 (by decide) (fun z => absurd (by decide) z) (fun _ => ?_)
          refine lv_goto (tgt := 55) hx hb dX12_offers_28 (by decide) ?_
          obtain ⟨v94, ev94⟩ : ∃ z : Int32, z = k8_L_5 + 1 := ⟨_, rfl⟩
          have hv94 : IV 1 12 v94 := iv_add ev94 h87 (iv_c (a := 1) (b := 1) (by decide)) (by decide) (by decide)
          have dv94 : v94.toInt = k8_L_5.toInt + 1 := iv_addE ev94 h87 (iv_c (a := 1) (b := 1) (by decide)) (by decide) (by decide) (by decide)
          refine lv_iinc (v := v94) (lv' := [(5, .int v94), (4, .int k8_L_4), (3, .int k8_L_3), (0, .ref a), (1, .int p0), (2, .int p1)]) hx hb dX12_offers_55 hl (k := 0) rfl (by rw [ev94]; rfl) (by decide) rfl (fun ls hl => ?_)
          refine lv_goto (tgt := 8) hx hb dX12_offers_58 (by decide) ?_
          exact ih8 v94 k8_L_4 k8_L_3 (by have h9 := h87; unfold IV at h9; have := dv94; omega) (iv_w hv94 (by decide) (by decide)) H locs (hP.sub (ws' := [(a_said, .inl (cs 0, 123, .inl a_said_c)), (a, .inr (12, [.ref a_tape, .int a__taped, .int a__rules, .ref a_sign, .ref a_length, .ref a_clause, .ref a_clauses, .ref a_read, .int a__next, .int a__wrong, .int a__number, .int a__text, .int a__made, .int a__deep, .int a__lines, .ref a_open, .int a__opened, .ref a_stack, .int a__top, .ref a_word, .ref a_said, .int a__x, .ref a_worth, .ref a_mate, .ref a_wasSaid, .int a__undone, .int a__boughtNow, .ref a_wayBy, .ref a_wayThen, .int a__walkMost, .int a__walkGoing, .int a__walkSet, .ref a_kept, .long a__drawX, .ref a_images, .ref a_imageX, .ref a_isMade])), (a_worth, .inl (cs 0, 4096, .inl a_worth_c)), (a_wayBy, .inl (cs 0, 2048, .inl a_wayBy_c))]) [0, 1, 2, 3] rfl) (hD.sub (ws' := [(a_said, .inl (cs 0, 123, .inl a_said_c)), (a, .inr (12, [.ref a_tape, .int a__taped, .int a__rules, .ref a_sign, .ref a_length, .ref a_clause, .ref a_clauses, .ref a_read, .int a__next, .int a__wrong, .int a__number, .int a__text, .int a__made, .int a__deep, .int a__lines, .ref a_open, .int a__opened, .ref a_stack, .int a__top, .ref a_word, .ref a_said, .int a__x, .ref a_worth, .ref a_mate, .ref a_wasSaid, .int a__undone, .int a__boughtNow, .ref a_wayBy, .ref a_wayThen, .int a__walkMost, .int a__walkGoing, .int a__walkSet, .ref a_kept, .long a__drawX, .ref a_images, .ref a_imageX, .ref a_isMade])), (a_worth, .inl (cs 0, 4096, .inl a_worth_c)), (a_wayBy, .inl (cs 0, 2048, .inl a_wayBy_c))]) [0, 1, 2, 3] (by decide) rfl) hS ls (lv_sub hl [0, 1, 2, 3, 4, 5] rfl)
        · refine lv_if_ne (tgt := 31) hx hb dX12_offers_25 (by decide) (fun _ => ?_) (fun z => absurd z (by decide))
          refine lv_iload_n hx hb dX12_offers_31 rfl (lv_at hl 2 rfl) ?_
          refine lv_aload_n hx hb dX12_offers_32 rfl (lv_at hl 3 rfl) ?_
          refine lv_iload hx hb dX12_offers_33 (lv_at hl 0 rfl) ?_
          refine lv_iconst (v := 2) hx hb dX12_offers_35 (by decide) ?_
          refine va_calli (va_runV (As := [.int k8_L_5, .int 2]) (rest := [.int k8_L_3]) ⟨hx, hb, hml, hown, hT⟩ (c_X12_halfOf l D cs kK kV a k8_L_5 2 a_tape a__taped a__rules a_sign a_length a_clause a_clauses a_read a__next a__wrong a__number a__text a__made a__deep a__lines a_open a__opened a_stack a__top a_word a_said a__x a_worth a_mate a_wasSaid a__undone a__boughtNow a_wayBy a_wayThen a__walkMost a__walkGoing a__walkSet a_kept a__drawX a_images a_imageX a_isMade a_said_c h87 ((iv_c (by decide))) h_a__taped h_a__rules h_a__next h_a__text h_a__made h_a__lines h_a__opened h_a__top h_a__x h_a__undone) (cwV 2 hT (hz_gV q_1104 q_1105 q_1106 q_701 q_1107) rfl rfl rfl (by decide +kernel) ⟨(Nat.le_of_ble_eq_true rfl), (Nat.le_of_ble_eq_true rfl)⟩) ⟨hz_P.blind, va_recv hK hP (ci := 12) (q0 := 1) rfl rfl, hz_P.mk (hP.sub (ws' := [(a, .inr (12, [.ref a_tape, .int a__taped, .int a__rules, .ref a_sign, .ref a_length, .ref a_clause, .ref a_clauses, .ref a_read, .int a__next, .int a__wrong, .int a__number, .int a__text, .int a__made, .int a__deep, .int a__lines, .ref a_open, .int a__opened, .ref a_stack, .int a__top, .ref a_word, .ref a_said, .int a__x, .ref a_worth, .ref a_mate, .ref a_wasSaid, .int a__undone, .int a__boughtNow, .ref a_wayBy, .ref a_wayThen, .int a__walkMost, .int a__walkGoing, .int a__walkSet, .ref a_kept, .long a__drawX, .ref a_images, .ref a_imageX, .ref a_isMade])), (a_said, .inl (cs 0, 123, .inl a_said_c))]) [1,0] rfl) hE hS⟩ rfl rfl hl.1 rfl (lv_room (Nat.le_of_ble_eq_true rfl)) dX12_offers_36 ⟨(Nat.le_of_ble_eq_true rfl), (Nat.le_of_ble_eq_true rfl)⟩) hS (fun _ _ h => h.elim) (fun _ h => h.elim) (fun r95 u t H1 locs ht hvm hw hB hz1 hk1 hS => ?_)
          have hP := hz_keep hP hk1
          clear hk1 hB hz1
          generalize H1 = H at hP hS ⊢
          have x96 := hw
          have z2 : (2 : Int32).toInt = 2 := by decide
          refine lv_iadd hx hb dX12_offers_39 ?_
          refine lv_topi (fun v97 ev97 => ?_)
          refine lv_istore_n (lv' := [(3, .int v97), (5, .int k8_L_5), (4, .int k8_L_4), (0, .ref a), (1, .int p0), (2, .int p1)]) hx hb dX12_offers_40 rfl hl (by decide) rfl (fun ls hl => ?_)
          refine lv_iload hx hb dX12_offers_41 (lv_at hl 2 rfl) ?_
          refine lv_iconst (v := 1) hx hb dX12_offers_43 (by decide) ?_
          refine lv_aload_n hx hb dX12_offers_44 rfl (lv_at hl 3 rfl) ?_
          refine lv_iload hx hb dX12_offers_45 (lv_at hl 1 rfl) ?_
          refine lv_iconst (v := 3) hx hb dX12_offers_47 (by decide) ?_
          refine va_calli (va_runV (As := [.int k8_L_5, .int 3]) (rest := [.int 1, .int k8_L_4]) ⟨hx, hb, hml, hown, hT⟩ (c_X12_halfOf l D cs kK kV a k8_L_5 3 a_tape a__taped a__rules a_sign a_length a_clause a_clauses a_read a__next a__wrong a__number a__text a__made a__deep a__lines a_open a__opened a_stack a__top a_word a_said a__x a_worth a_mate a_wasSaid a__undone a__boughtNow a_wayBy a_wayThen a__walkMost a__walkGoing a__walkSet a_kept a__drawX a_images a_imageX a_isMade a_said_c h87 ((iv_c (by decide))) h_a__taped h_a__rules h_a__next h_a__text h_a__made h_a__lines h_a__opened h_a__top h_a__x h_a__undone) (cwV 2 hT (hz_gV q_1104 q_1105 q_1106 q_701 q_1107) rfl rfl rfl (by decide +kernel) ⟨(Nat.le_of_ble_eq_true rfl), (Nat.le_of_ble_eq_true rfl)⟩) ⟨hz_P.blind, va_recv hK hP (ci := 12) (q0 := 1) rfl rfl, hz_P.mk (hP.sub (ws' := [(a, .inr (12, [.ref a_tape, .int a__taped, .int a__rules, .ref a_sign, .ref a_length, .ref a_clause, .ref a_clauses, .ref a_read, .int a__next, .int a__wrong, .int a__number, .int a__text, .int a__made, .int a__deep, .int a__lines, .ref a_open, .int a__opened, .ref a_stack, .int a__top, .ref a_word, .ref a_said, .int a__x, .ref a_worth, .ref a_mate, .ref a_wasSaid, .int a__undone, .int a__boughtNow, .ref a_wayBy, .ref a_wayThen, .int a__walkMost, .int a__walkGoing, .int a__walkSet, .ref a_kept, .long a__drawX, .ref a_images, .ref a_imageX, .ref a_isMade])), (a_said, .inl (cs 0, 123, .inl a_said_c))]) [1,0] rfl) hE hS⟩ rfl rfl hl.1 rfl (lv_room (Nat.le_of_ble_eq_true rfl)) dX12_offers_48 ⟨(Nat.le_of_ble_eq_true rfl), (Nat.le_of_ble_eq_true rfl)⟩) hS (fun _ _ h => h.elim) (fun _ h => h.elim) (fun r98 u t H1 locs ht hvm hw hB hz1 hk1 hS => ?_)
          have hP := hz_keep hP hk1
          clear hk1 hB hz1
          generalize H1 = H at hP hS ⊢
          have x99 := hw
          have z3 : (3 : Int32).toInt = 3 := by decide
          refine lv_ishl hx hb dX12_offers_51 ?_
          refine lv_topi (fun v100 ev100 => ?_)
          refine lv_ior hx hb dX12_offers_52 ?_
          refine lv_topi (fun v101 ev101 => ?_)
          refine lv_istore (lv' := [(4, .int v101), (3, .int v97), (5, .int k8_L_5), (0, .ref a), (1, .int p0), (2, .int p1)]) hx hb dX12_offers_53 hl (by decide) rfl (fun ls hl => ?_)
          obtain ⟨v102, ev102⟩ : ∃ z : Int32, z = k8_L_5 + 1 := ⟨_, rfl⟩
          have hv102 : IV 1 12 v102 := iv_add ev102 h87 (iv_c (a := 1) (b := 1) (by decide)) (by decide) (by decide)
          have dv102 : v102.toInt = k8_L_5.toInt + 1 := iv_addE ev102 h87 (iv_c (a := 1) (b := 1) (by decide)) (by decide) (by decide) (by decide)
          refine lv_iinc (v := v102) (lv' := [(5, .int v102), (4, .int v101), (3, .int v97), (0, .ref a), (1, .int p0), (2, .int p1)]) hx hb dX12_offers_55 hl (k := 2) rfl (by rw [ev102]; rfl) (by decide) rfl (fun ls hl => ?_)
          refine lv_goto (tgt := 8) hx hb dX12_offers_58 (by decide) ?_
          exact ih8 v102 v101 v97 (by have h9 := h87; unfold IV at h9; have := dv102; omega) (iv_w hv102 (by decide) (by decide)) H locs (hP.sub (ws' := [(a_said, .inl (cs 0, 123, .inl a_said_c)), (a, .inr (12, [.ref a_tape, .int a__taped, .int a__rules, .ref a_sign, .ref a_length, .ref a_clause, .ref a_clauses, .ref a_read, .int a__next, .int a__wrong, .int a__number, .int a__text, .int a__made, .int a__deep, .int a__lines, .ref a_open, .int a__opened, .ref a_stack, .int a__top, .ref a_word, .ref a_said, .int a__x, .ref a_worth, .ref a_mate, .ref a_wasSaid, .int a__undone, .int a__boughtNow, .ref a_wayBy, .ref a_wayThen, .int a__walkMost, .int a__walkGoing, .int a__walkSet, .ref a_kept, .long a__drawX, .ref a_images, .ref a_imageX, .ref a_isMade])), (a_worth, .inl (cs 0, 4096, .inl a_worth_c)), (a_wayBy, .inl (cs 0, 2048, .inl a_wayBy_c))]) [0, 1, 2, 3] rfl) (hD.sub (ws' := [(a_said, .inl (cs 0, 123, .inl a_said_c)), (a, .inr (12, [.ref a_tape, .int a__taped, .int a__rules, .ref a_sign, .ref a_length, .ref a_clause, .ref a_clauses, .ref a_read, .int a__next, .int a__wrong, .int a__number, .int a__text, .int a__made, .int a__deep, .int a__lines, .ref a_open, .int a__opened, .ref a_stack, .int a__top, .ref a_word, .ref a_said, .int a__x, .ref a_worth, .ref a_mate, .ref a_wasSaid, .int a__undone, .int a__boughtNow, .ref a_wayBy, .ref a_wayThen, .int a__walkMost, .int a__walkGoing, .int a__walkSet, .ref a_kept, .long a__drawX, .ref a_images, .ref a_imageX, .ref a_isMade])), (a_worth, .inl (cs 0, 4096, .inl a_worth_c)), (a_wayBy, .inl (cs 0, 2048, .inl a_wayBy_c))]) [0, 1, 2, 3] (by decide) rfl) hS ls (lv_sub hl [0, 1, 2, 3, 4, 5] rfl)
  refine lv_iconst (v := 0) hx hb dX12_offers_0 (by decide) ?_
  refine lv_istore_n (lv' := [(3, .int 0), (0, .ref a), (1, .int p0), (2, .int p1)]) hx hb dX12_offers_1 rfl hl (by decide) rfl (fun ls hl => ?_)
  refine lv_iconst (v := 0) hx hb dX12_offers_2 (by decide) ?_
  refine lv_istore (lv' := [(4, .int 0), (3, .int 0), (0, .ref a), (1, .int p0), (2, .int p1)]) hx hb dX12_offers_3 hl (by decide) rfl (fun ls hl => ?_)
  refine lv_iconst (v := 0) hx hb dX12_offers_5 (by decide) ?_
  refine lv_istore (lv' := [(5, .int 0), (4, .int 0), (3, .int 0), (0, .ref a), (1, .int p0), (2, .int p1)]) hx hb dX12_offers_6 hl (by decide) rfl (fun ls hl => ?_)
  exact K8 _ ((0 : Int32)) ((0 : Int32)) ((0 : Int32)) (Nat.le_refl _) (iv_c (by decide)) H locs (hP.sub (ws' := [(a_said, .inl (cs 0, 123, .inl a_said_c)), (a, .inr (12, [.ref a_tape, .int a__taped, .int a__rules, .ref a_sign, .ref a_length, .ref a_clause, .ref a_clauses, .ref a_read, .int a__next, .int a__wrong, .int a__number, .int a__text, .int a__made, .int a__deep, .int a__lines, .ref a_open, .int a__opened, .ref a_stack, .int a__top, .ref a_word, .ref a_said, .int a__x, .ref a_worth, .ref a_mate, .ref a_wasSaid, .int a__undone, .int a__boughtNow, .ref a_wayBy, .ref a_wayThen, .int a__walkMost, .int a__walkGoing, .int a__walkSet, .ref a_kept, .long a__drawX, .ref a_images, .ref a_imageX, .ref a_isMade])), (a_worth, .inl (cs 0, 4096, .inl a_worth_c)), (a_wayBy, .inl (cs 0, 2048, .inl a_wayBy_c))]) [0, 1, 2, 3] rfl) (hD.sub (ws' := [(a_said, .inl (cs 0, 123, .inl a_said_c)), (a, .inr (12, [.ref a_tape, .int a__taped, .int a__rules, .ref a_sign, .ref a_length, .ref a_clause, .ref a_clauses, .ref a_read, .int a__next, .int a__wrong, .int a__number, .int a__text, .int a__made, .int a__deep, .int a__lines, .ref a_open, .int a__opened, .ref a_stack, .int a__top, .ref a_word, .ref a_said, .int a__x, .ref a_worth, .ref a_mate, .ref a_wasSaid, .int a__undone, .int a__boughtNow, .ref a_wayBy, .ref a_wayThen, .int a__walkMost, .int a__walkGoing, .int a__walkSet, .ref a_kept, .long a__drawX, .ref a_images, .ref a_imageX, .ref a_isMade])), (a_worth, .inl (cs 0, 4096, .inl a_worth_c)), (a_wayBy, .inl (cs 0, 2048, .inl a_wayBy_c))]) [0, 1, 2, 3] (by decide) rfl) hS ls (lv_sub hl [0, 1, 2, 3, 4, 5] rfl)
theorem dX12_walk_0 : decode cX12_walk 0 = .ok (.aload_n 0, 1) := by decide +kernel
theorem dX12_walk_1 : decode cX12_walk 1 = .ok (.iload_n 1, 1) := by decide +kernel
theorem dX12_walk_2 : decode cX12_walk 2 = .ok (.invokevirtual 343, 3) := by decide +kernel
theorem dX12_walk_5 : decode cX12_walk 5 = .ok (.ifCond .eq 15, 3) := by decide +kernel
theorem dX12_walk_8 : decode cX12_walk 8 = .ok (.iload_n 2, 1) := by decide +kernel
theorem dX12_walk_9 : decode cX12_walk 9 = .ok (.i2l, 1) := by decide +kernel
theorem dX12_walk_10 : decode cX12_walk 10 = .ok (.lconst 0, 1) := by decide +kernel
theorem dX12_walk_11 : decode cX12_walk 11 = .ok (.ldc2_w 440, 3) := by decide +kernel
theorem dX12_walk_14 : decode cX12_walk 14 = .ok (.invokestatic 109, 3) := by decide +kernel
theorem dX12_walk_17 : decode cX12_walk 17 = .ok (.ifCond .ne 6, 3) := by decide +kernel
theorem dX12_walk_20 : decode cX12_walk 20 = .ok (.bipush (-3), 2) := by decide +kernel
theorem dX12_walk_22 : decode cX12_walk 22 = .ok (.ireturn, 1) := by decide +kernel
theorem dX12_walk_23 : decode cX12_walk 23 = .ok (.aload_n 0, 1) := by decide +kernel
theorem dX12_walk_24 : decode cX12_walk 24 = .ok (.invokevirtual 298, 3) := by decide +kernel
theorem dX12_walk_27 : decode cX12_walk 27 = .ok (.ifCond .eq 7, 3) := by decide +kernel
theorem dX12_walk_30 : decode cX12_walk 30 = .ok (.iconst 0, 1) := by decide +kernel
theorem dX12_walk_31 : decode cX12_walk 31 = .ok (.goto 17, 3) := by decide +kernel
theorem dX12_walk_34 : decode cX12_walk 34 = .ok (.aload_n 0, 1) := by decide +kernel
theorem dX12_walk_35 : decode cX12_walk 35 = .ok (.getfield 39, 3) := by decide +kernel
theorem dX12_walk_38 : decode cX12_walk 38 = .ok (.bipush 6, 2) := by decide +kernel
theorem dX12_walk_40 : decode cX12_walk 40 = .ok (.iaload, 1) := by decide +kernel
theorem dX12_walk_41 : decode cX12_walk 41 = .ok (.aload_n 0, 1) := by decide +kernel
theorem dX12_walk_42 : decode cX12_walk 42 = .ok (.getfield 39, 3) := by decide +kernel
theorem dX12_walk_45 : decode cX12_walk 45 = .ok (.iconst 3, 1) := by decide +kernel
theorem dX12_walk_46 : decode cX12_walk 46 = .ok (.iaload, 1) := by decide +kernel
theorem dX12_walk_47 : decode cX12_walk 47 = .ok (.isub, 1) := by decide +kernel
theorem dX12_walk_48 : decode cX12_walk 48 = .ok (.istore_n 3, 1) := by decide +kernel
theorem dX12_walk_49 : decode cX12_walk 49 = .ok (.iload_n 3, 1) := by decide +kernel
theorem dX12_walk_50 : decode cX12_walk 50 = .ok (.bipush 12, 2) := by decide +kernel
theorem dX12_walk_52 : decode cX12_walk 52 = .ok (.if_icmp .le 6, 3) := by decide +kernel
theorem dX12_walk_55 : decode cX12_walk 55 = .ok (.bipush (-4), 2) := by decide +kernel
theorem dX12_walk_57 : decode cX12_walk 57 = .ok (.ireturn, 1) := by decide +kernel
theorem dX12_walk_58 : decode cX12_walk 58 = .ok (.iload_n 3, 1) := by decide +kernel
theorem dX12_walk_59 : decode cX12_walk 59 = .ok (.ifCond .ne 39, 3) := by decide +kernel
theorem dX12_walk_62 : decode cX12_walk 62 = .ok (.iload_n 2, 1) := by decide +kernel
theorem dX12_walk_63 : decode cX12_walk 63 = .ok (.ifCond .ne 23, 3) := by decide +kernel
theorem dX12_walk_66 : decode cX12_walk 66 = .ok (.aload_n 0, 1) := by decide +kernel
theorem dX12_walk_67 : decode cX12_walk 67 = .ok (.getfield 42, 3) := by decide +kernel
theorem dX12_walk_70 : decode cX12_walk 70 = .ok (.aload_n 0, 1) := by decide +kernel
theorem dX12_walk_71 : decode cX12_walk 71 = .ok (.iload_n 1, 1) := by decide +kernel
theorem dX12_walk_72 : decode cX12_walk 72 = .ok (.invokevirtual 346, 3) := by decide +kernel
theorem dX12_walk_75 : decode cX12_walk 75 = .ok (.iaload, 1) := by decide +kernel
theorem dX12_walk_76 : decode cX12_walk 76 = .ok (.aload_n 0, 1) := by decide +kernel
theorem dX12_walk_77 : decode cX12_walk 77 = .ok (.iload_n 1, 1) := by decide +kernel
theorem dX12_walk_78 : decode cX12_walk 78 = .ok (.iconst 0, 1) := by decide +kernel
theorem dX12_walk_79 : decode cX12_walk 79 = .ok (.invokevirtual 314, 3) := by decide +kernel
theorem dX12_walk_82 : decode cX12_walk 82 = .ok (.iadd, 1) := by decide +kernel
theorem dX12_walk_83 : decode cX12_walk 83 = .ok (.goto 14, 3) := by decide +kernel
theorem dX12_walk_86 : decode cX12_walk 86 = .ok (.iload_n 2, 1) := by decide +kernel
theorem dX12_walk_87 : decode cX12_walk 87 = .ok (.iconst 1, 1) := by decide +kernel
theorem dX12_walk_88 : decode cX12_walk 88 = .ok (.if_icmp .ne 8, 3) := by decide +kernel
theorem dX12_walk_91 : decode cX12_walk 91 = .ok (.bipush (-2), 2) := by decide +kernel
theorem dX12_walk_93 : decode cX12_walk 93 = .ok (.goto 4, 3) := by decide +kernel
theorem dX12_walk_96 : decode cX12_walk 96 = .ok (.iconst 0, 1) := by decide +kernel
theorem dX12_walk_97 : decode cX12_walk 97 = .ok (.ireturn, 1) := by decide +kernel
theorem dX12_walk_98 : decode cX12_walk 98 = .ok (.aload_n 0, 1) := by decide +kernel
theorem dX12_walk_99 : decode cX12_walk 99 = .ok (.iload_n 1, 1) := by decide +kernel
theorem dX12_walk_100 : decode cX12_walk 100 = .ok (.iload_n 3, 1) := by decide +kernel
theorem dX12_walk_101 : decode cX12_walk 101 = .ok (.invokevirtual 442, 3) := by decide +kernel
theorem dX12_walk_104 : decode cX12_walk 104 = .ok (.aload_n 0, 1) := by decide +kernel
theorem dX12_walk_105 : decode cX12_walk 105 = .ok (.iconst (-1), 1) := by decide +kernel
theorem dX12_walk_106 : decode cX12_walk 106 = .ok (.putfield 428, 3) := by decide +kernel
theorem dX12_walk_109 : decode cX12_walk 109 = .ok (.aload_n 0, 1) := by decide +kernel
theorem dX12_walk_110 : decode cX12_walk 110 = .ok (.invokevirtual 387, 3) := by decide +kernel
theorem dX12_walk_113 : decode cX12_walk 113 = .ok (.istore 4, 2) := by decide +kernel
theorem dX12_walk_115 : decode cX12_walk 115 = .ok (.iconst 0, 1) := by decide +kernel
theorem dX12_walk_116 : decode cX12_walk 116 = .ok (.istore 5, 2) := by decide +kernel
theorem dX12_walk_118 : decode cX12_walk 118 = .ok (.iload 5, 2) := by decide +kernel
theorem dX12_walk_120 : decode cX12_walk 120 = .ok (.iconst 1, 1) := by decide +kernel
theorem dX12_walk_121 : decode cX12_walk 121 = .ok (.aload_n 0, 1) := by decide +kernel
theorem dX12_walk_122 : decode cX12_walk 122 = .ok (.getfield 39, 3) := by decide +kernel
theorem dX12_walk_125 : decode cX12_walk 125 = .ok (.iconst 1, 1) := by decide +kernel
theorem dX12_walk_126 : decode cX12_walk 126 = .ok (.iaload, 1) := by decide +kernel
theorem dX12_walk_127 : decode cX12_walk 127 = .ok (.ishl, 1) := by decide +kernel
theorem dX12_walk_128 : decode cX12_walk 128 = .ok (.if_icmp .ge 26, 3) := by decide +kernel
theorem dX12_walk_131 : decode cX12_walk 131 = .ok (.iload 5, 2) := by decide +kernel
theorem dX12_walk_133 : decode cX12_walk 133 = .ok (.iload 4, 2) := by decide +kernel
theorem dX12_walk_135 : decode cX12_walk 135 = .ok (.iconst (-1), 1) := by decide +kernel
theorem dX12_walk_136 : decode cX12_walk 136 = .ok (.ixor, 1) := by decide +kernel
theorem dX12_walk_137 : decode cX12_walk 137 = .ok (.iand, 1) := by decide +kernel
theorem dX12_walk_138 : decode cX12_walk 138 = .ok (.ifCond .ne 10, 3) := by decide +kernel
theorem dX12_walk_141 : decode cX12_walk 141 = .ok (.aload_n 0, 1) := by decide +kernel
theorem dX12_walk_142 : decode cX12_walk 142 = .ok (.iload_n 1, 1) := by decide +kernel
theorem dX12_walk_143 : decode cX12_walk 143 = .ok (.iload 5, 2) := by decide +kernel
theorem dX12_walk_145 : decode cX12_walk 145 = .ok (.invokevirtual 445, 3) := by decide +kernel
theorem dX12_walk_148 : decode cX12_walk 148 = .ok (.iinc 5 1, 3) := by decide +kernel
theorem dX12_walk_151 : decode cX12_walk 151 = .ok (.goto (-33), 3) := by decide +kernel
theorem dX12_walk_154 : decode cX12_walk 154 = .ok (.iload_n 2, 1) := by decide +kernel
theorem dX12_walk_155 : decode cX12_walk 155 = .ok (.ifCond .ne 10, 3) := by decide +kernel
theorem dX12_walk_158 : decode cX12_walk 158 = .ok (.aload_n 0, 1) := by decide +kernel
theorem dX12_walk_159 : decode cX12_walk 159 = .ok (.getfield 428, 3) := by decide +kernel
theorem dX12_walk_162 : decode cX12_walk 162 = .ok (.goto 19, 3) := by decide +kernel
theorem dX12_walk_165 : decode cX12_walk 165 = .ok (.iload_n 2, 1) := by decide +kernel
theorem dX12_walk_166 : decode cX12_walk 166 = .ok (.iconst 1, 1) := by decide +kernel
theorem dX12_walk_167 : decode cX12_walk 167 = .ok (.if_icmp .ne 10, 3) := by decide +kernel
theorem dX12_walk_170 : decode cX12_walk 170 = .ok (.aload_n 0, 1) := by decide +kernel
theorem dX12_walk_171 : decode cX12_walk 171 = .ok (.getfield 434, 3) := by decide +kernel
theorem dX12_walk_174 : decode cX12_walk 174 = .ok (.goto 7, 3) := by decide +kernel
theorem dX12_walk_177 : decode cX12_walk 177 = .ok (.aload_n 0, 1) := by decide +kernel
theorem dX12_walk_178 : decode cX12_walk 178 = .ok (.getfield 437, 3) := by decide +kernel
theorem dX12_walk_181 : decode cX12_walk 181 = .ok (.ireturn, 1) := by decide +kernel
set_option maxHeartbeats 4000000 in
set_option maxRecDepth 100000 in
theorem c_X12_walk (l : Launch) (D : va_G) (cs : Nat → ClassId) (kK kV : Nat → Nat) (a : Nat) (p0 : Int32) (p1 : Int32) (a_said : Nat) (a_said_c : Nat → Int32) (a_tape : Nat) (a__taped : Int32) (a__rules : Int32) (a_sign : Nat) (a_length : Nat) (a_clause : Nat) (a_clauses : Nat) (a_read : Nat) (a__next : Int32) (a__wrong : Int32) (a__number : Int32) (a__text : Int32) (a__made : Int32) (a__deep : Int32) (a__lines : Int32) (a_open : Nat) (a__opened : Int32) (a_stack : Nat) (a__top : Int32) (a_word : Nat) (a__x : Int32) (a_worth : Nat) (a_mate : Nat) (a_wasSaid : Nat) (a__undone : Int32) (a__boughtNow : Int32) (a_wayBy : Nat) (a_wayThen : Nat) (a__walkMost : Int32) (a__walkGoing : Int32) (a__walkSet : Int32) (a_kept : Nat) (a__drawX : Int64) (a_images : Nat) (a_imageX : Nat) (a_isMade : Nat) (a_wayBy_c : Nat → Int32) (a_wayThen_c : Nat → Int32) (a_worth_c : Nat → Int32) (h_a__taped : IV 0 400 a__taped) (h_a__rules : IV 0 6 a__rules) (h_a__next : IV 0 400 a__next) (h_a__text : IV 0 6 a__text) (h_a__made : IV 0 60 a__made) (h_a__lines : IV 0 40 a__lines) (h_a__opened : IV 0 400 a__opened) (h_a__top : IV 0 64 a__top) (h_a__x : IV 0 2147483647 a__x) (h_a__undone : IV 0 20 a__undone) (hf0 : BS a_said_c 200) (hf1 : TR a_said_c) (hf2 : (a_said_c 3).toInt ≤ 99) (sz : Nat) : Met l yX12_walk (hz_w yX12_walk cX12_walk 6 (some .int)) ({ frames := 4, cells := 0, slots := 0, locals := 96 }) (va_Pc [.ref a, .int p0, .int p1] (hz_C D cs kK kV sz [(a_said, .inl (cs 0, 123, .inl a_said_c)), (a, .inr (12, [.ref a_tape, .int a__taped, .int a__rules, .ref a_sign, .ref a_length, .ref a_clause, .ref a_clauses, .ref a_read, .int a__next, .int a__wrong, .int a__number, .int a__text, .int a__made, .int a__deep, .int a__lines, .ref a_open, .int a__opened, .ref a_stack, .int a__top, .ref a_word, .ref a_said, .int a__x, .ref a_worth, .ref a_mate, .ref a_wasSaid, .int a__undone, .int a__boughtNow, .ref a_wayBy, .ref a_wayThen, .int a__walkMost, .int a__walkGoing, .int a__walkSet, .ref a_kept, .long a__drawX, .ref a_images, .ref a_imageX, .ref a_isMade])), (a_wayBy, .inl (cs 0, 2048, .inl a_wayBy_c)), (a_wayThen, .inl (cs 0, 2048, .inl a_wayThen_c)), (a_worth, .inl (cs 0, 4096, .inl a_worth_c))])) (va_Qi (fun (r : Int32) (u : (Nat → Int32) × (Nat → Nat → Int32)) => (IV (-2147483648) 2147483647 p0)) (fun u t => va_P D classes [(a_said, .inl (cs 0, 123, .inl a_said_c)), (a, .inr (12, [.ref a_tape, .int a__taped, .int a__rules, .ref a_sign, .ref a_length, .ref a_clause, .ref a_clauses, .ref a_read, .int a__next, .int a__wrong, .int a__number, .int a__text, .int a__made, .int a__deep, .int a__lines, .ref a_open, .int a__opened, .ref a_stack, .int a__top, .ref a_word, .ref a_said, .int a__x, .ref a_worth, .ref a_mate, .ref a_wasSaid, .int a__undone, .int a__boughtNow, .ref a_wayBy, .ref a_wayThen, .int (u.1 1), .int (u.1 2), .int (u.1 3), .ref a_kept, .long a__drawX, .ref a_images, .ref a_imageX, .ref a_isMade])), (a_wayBy, .inl (cs 0, 2048, .inl (u.2 0))), (a_wayThen, .inl (cs 0, 2048, .inl (u.2 1))), (a_worth, .inl (cs 0, 4096, .inl a_worth_c))] t.heap ∧ va_D (va_A [(a_said, .inl (cs 0, 123, .inl a_said_c)), (a, .inr (12, [.ref a_tape, .int a__taped, .int a__rules, .ref a_sign, .ref a_length, .ref a_clause, .ref a_clauses, .ref a_read, .int a__next, .int a__wrong, .int a__number, .int a__text, .int a__made, .int a__deep, .int a__lines, .ref a_open, .int a__opened, .ref a_stack, .int a__top, .ref a_word, .ref a_said, .int a__x, .ref a_worth, .ref a_mate, .ref a_wasSaid, .int a__undone, .int a__boughtNow, .ref a_wayBy, .ref a_wayThen, .int a__walkMost, .int a__walkGoing, .int a__walkSet, .ref a_kept, .long a__drawX, .ref a_images, .ref a_imageX, .ref a_isMade])), (a_wayBy, .inl (cs 0, 2048, .inl a_wayBy_c)), (a_wayThen, .inl (cs 0, 2048, .inl a_wayThen_c)), (a_worth, .inl (cs 0, 4096, .inl a_worth_c))] sz) [(a_said, .inl (cs 0, 123, .inl a_said_c)), (a, .inr (12, [.ref a_tape, .int a__taped, .int a__rules, .ref a_sign, .ref a_length, .ref a_clause, .ref a_clauses, .ref a_read, .int a__next, .int a__wrong, .int a__number, .int a__text, .int a__made, .int a__deep, .int a__lines, .ref a_open, .int a__opened, .ref a_stack, .int a__top, .ref a_word, .ref a_said, .int a__x, .ref a_worth, .ref a_mate, .ref a_wasSaid, .int a__undone, .int a__boughtNow, .ref a_wayBy, .ref a_wayThen, .int (u.1 1), .int (u.1 2), .int (u.1 3), .ref a_kept, .long a__drawX, .ref a_images, .ref a_imageX, .ref a_isMade])), (a_wayBy, .inl (cs 0, 2048, .inl (u.2 0))), (a_wayThen, .inl (cs 0, 2048, .inl (u.2 1))), (a_worth, .inl (cs 0, 4096, .inl a_worth_c))]) (va_A [(a_said, .inl (cs 0, 123, .inl a_said_c)), (a, .inr (12, [.ref a_tape, .int a__taped, .int a__rules, .ref a_sign, .ref a_length, .ref a_clause, .ref a_clauses, .ref a_read, .int a__next, .int a__wrong, .int a__number, .int a__text, .int a__made, .int a__deep, .int a__lines, .ref a_open, .int a__opened, .ref a_stack, .int a__top, .ref a_word, .ref a_said, .int a__x, .ref a_worth, .ref a_mate, .ref a_wasSaid, .int a__undone, .int a__boughtNow, .ref a_wayBy, .ref a_wayThen, .int a__walkMost, .int a__walkGoing, .int a__walkSet, .ref a_kept, .long a__drawX, .ref a_images, .ref a_imageX, .ref a_isMade])), (a_wayBy, .inl (cs 0, 2048, .inl a_wayBy_c)), (a_wayThen, .inl (cs 0, 2048, .inl a_wayThen_c)), (a_worth, .inl (cs 0, 4096, .inl a_worth_c))] sz)) 0 0 (va_A [(a_said, .inl (cs 0, 123, .inl a_said_c)), (a, .inr (12, [.ref a_tape, .int a__taped, .int a__rules, .ref a_sign, .ref a_length, .ref a_clause, .ref a_clauses, .ref a_read, .int a__next, .int a__wrong, .int a__number, .int a__text, .int a__made, .int a__deep, .int a__lines, .ref a_open, .int a__opened, .ref a_stack, .int a__top, .ref a_word, .ref a_said, .int a__x, .ref a_worth, .ref a_mate, .ref a_wasSaid, .int a__undone, .int a__boughtNow, .ref a_wayBy, .ref a_wayThen, .int a__walkMost, .int a__walkGoing, .int a__walkSet, .ref a_kept, .long a__drawX, .ref a_images, .ref a_imageX, .ref a_isMade])), (a_wayBy, .inl (cs 0, 2048, .inl a_wayBy_c)), (a_wayThen, .inl (cs 0, 2048, .inl a_wayThen_c)), (a_worth, .inl (cs 0, 4096, .inl a_worth_c))] sz) := by
  refine Met.ofW (cc := cX12_walk) (maxL := 6) (ret := (some .int)) (by decide) rfl ?_
  intro p e s m args below meth c s₁ B hml hv
  obtain ⟨rfl, hsz, hP, hD0, hE⟩ := hv
  have hx := B.exec
  have hb := B.bytes
  have hr := B.returns
  have hT : ∀ w ∈ TB, w.before _ s = true := fun w h => atoms_spec (ws := hz_w yX12_walk cX12_walk 6 (some .int)) B.pre w (List.mem_cons_of_mem _ h)
  have hown : s.vm.findClass RX12 = some m.cls := findClass_of_methodNamed B.named
  have hlocks := B.notSynchronized
  clear B
  subst hsz
  have hD := hD0.self (sz := s.heap.size)
  generalize hAe : va_A [(a_said, .inl (cs 0, 123, .inl a_said_c)), (a, .inr (12, [.ref a_tape, .int a__taped, .int a__rules, .ref a_sign, .ref a_length, .ref a_clause, .ref a_clauses, .ref a_read, .int a__next, .int a__wrong, .int a__number, .int a__text, .int a__made, .int a__deep, .int a__lines, .ref a_open, .int a__opened, .ref a_stack, .int a__top, .ref a_word, .ref a_said, .int a__x, .ref a_worth, .ref a_mate, .ref a_wasSaid, .int a__undone, .int a__boughtNow, .ref a_wayBy, .ref a_wayThen, .int a__walkMost, .int a__walkGoing, .int a__walkSet, .ref a_kept, .long a__drawX, .ref a_images, .ref a_imageX, .ref a_isMade])), (a_wayBy, .inl (cs 0, 2048, .inl a_wayBy_c)), (a_wayThen, .inl (cs 0, 2048, .inl a_wayThen_c)), (a_worth, .inl (cs 0, 4096, .inl a_worth_c))] s.heap.size = A at hD hE ⊢
  have hA : ∀ q : Nat, s.heap.size ≤ q → A q := fun q h => by rw [← hAe]; exact Or.inr h
  clear hAe hD0
  have hS : va_S A s.heap s.heap [] := va_S.rf
  have hK := hE.1
  have hl := lv_entry ([.ref a, .int p0, .int p1]) (n := 6) (Nat.le_of_ble_eq_true rfl)
  rw [lg_entry_eq]
  generalize (lg_sl ([.ref a, .int p0, .int p1]) ++ List.replicate (6 - (lg_sl ([.ref a, .int p0, .int p1])).length) Slot.unset).toArray = ls at hl ⊢
  have hl : lv_has ls 6 [(0, .ref a), (1, .int p0), (2, .int p1)] := hl
  obtain ⟨H, eH⟩ : ∃ z, z = s.heap := ⟨_, rfl⟩
  have hP : va_P D classes [(a_said, .inl (cs 0, 123, .inl a_said_c)), (a, .inr (12, [.ref a_tape, .int a__taped, .int a__rules, .ref a_sign, .ref a_length, .ref a_clause, .ref a_clauses, .ref a_read, .int a__next, .int a__wrong, .int a__number, .int a__text, .int a__made, .int a__deep, .int a__lines, .ref a_open, .int a__opened, .ref a_stack, .int a__top, .ref a_word, .ref a_said, .int a__x, .ref a_worth, .ref a_mate, .ref a_wasSaid, .int a__undone, .int a__boughtNow, .ref a_wayBy, .ref a_wayThen, .int a__walkMost, .int a__walkGoing, .int a__walkSet, .ref a_kept, .long a__drawX, .ref a_images, .ref a_imageX, .ref a_isMade])), (a_wayBy, .inl (cs 0, 2048, .inl a_wayBy_c)), (a_wayThen, .inl (cs 0, 2048, .inl a_wayThen_c)), (a_worth, .inl (cs 0, 4096, .inl a_worth_c))] H := by rw [eH]; exact hP
  have hS : va_S A s.heap H [] := by rw [eH]; exact hS
  rw [← eH]
  clear eH
  obtain ⟨locs, el⟩ : ∃ z : List Loc, z = [] := ⟨_, rfl⟩
  rw [← el] at hS ⊢
  clear el
  have z0 : (0 : Int32).toInt = 0 := by decide
  have z1 : (1 : Int32).toInt = 1 := by decide
  have zm1 : (-1 : Int32).toInt = -1 := by decide
  have i_a__lines : 0 ≤ a__lines.toInt ∧ a__lines.toInt ≤ 40 := h_a__lines
  have i_a__made : 0 ≤ a__made.toInt ∧ a__made.toInt ≤ 60 := h_a__made
  have i_a__next : 0 ≤ a__next.toInt ∧ a__next.toInt ≤ 400 := h_a__next
  have i_a__opened : 0 ≤ a__opened.toInt ∧ a__opened.toInt ≤ 400 := h_a__opened
  have i_a__rules : 0 ≤ a__rules.toInt ∧ a__rules.toInt ≤ 6 := h_a__rules
  have i_a__taped : 0 ≤ a__taped.toInt ∧ a__taped.toInt ≤ 400 := h_a__taped
  have i_a__text : 0 ≤ a__text.toInt ∧ a__text.toInt ≤ 6 := h_a__text
  have i_a__top : 0 ≤ a__top.toInt ∧ a__top.toInt ≤ 64 := h_a__top
  have i_a__undone : 0 ≤ a__undone.toInt ∧ a__undone.toInt ≤ 20 := h_a__undone
  have i_a__x : 0 ≤ a__x.toInt ∧ a__x.toInt ≤ 2147483647 := h_a__x
  have K118 : ∀ (n : Nat) (k118_L_5 : Int32) (k118_L_4 : Int32) (k118_L_3 : Int32) (k118_F_a_29 : Int32) (k118_F_a_30 : Int32) (k118_F_a_31 : Int32) (k118_C_a_wayBy : Nat → Int32) (k118_C_a_wayThen : Nat → Int32), (4096 - k118_L_5.toInt + 1).toNat ≤ n → IV (-2147483648) 12 k118_L_3 → IV 0 4095 k118_L_4 → IV 0 4096 k118_L_5 → IV 0 3 p0 → IV 0 2 p1 → ∀ (H : Heap) (locs : List Loc), va_P D classes [(a_worth, .inl (cs 0, 4096, .inl a_worth_c)), (a_said, .inl (cs 0, 123, .inl a_said_c)), (a, .inr (12, [.ref a_tape, .int a__taped, .int a__rules, .ref a_sign, .ref a_length, .ref a_clause, .ref a_clauses, .ref a_read, .int a__next, .int a__wrong, .int a__number, .int a__text, .int a__made, .int a__deep, .int a__lines, .ref a_open, .int a__opened, .ref a_stack, .int a__top, .ref a_word, .ref a_said, .int a__x, .ref a_worth, .ref a_mate, .ref a_wasSaid, .int a__undone, .int a__boughtNow, .ref a_wayBy, .ref a_wayThen, .int k118_F_a_29, .int k118_F_a_30, .int k118_F_a_31, .ref a_kept, .long a__drawX, .ref a_images, .ref a_imageX, .ref a_isMade])), (a_wayBy, .inl (cs 0, 2048, .inl k118_C_a_wayBy)), (a_wayThen, .inl (cs 0, 2048, .inl k118_C_a_wayThen))] H → va_D A [(a_worth, .inl (cs 0, 4096, .inl a_worth_c)), (a_said, .inl (cs 0, 123, .inl a_said_c)), (a, .inr (12, [.ref a_tape, .int a__taped, .int a__rules, .ref a_sign, .ref a_length, .ref a_clause, .ref a_clauses, .ref a_read, .int a__next, .int a__wrong, .int a__number, .int a__text, .int a__made, .int a__deep, .int a__lines, .ref a_open, .int a__opened, .ref a_stack, .int a__top, .ref a_word, .ref a_said, .int a__x, .ref a_worth, .ref a_mate, .ref a_wasSaid, .int a__undone, .int a__boughtNow, .ref a_wayBy, .ref a_wayThen, .int k118_F_a_29, .int k118_F_a_30, .int k118_F_a_31, .ref a_kept, .long a__drawX, .ref a_images, .ref a_imageX, .ref a_isMade])), (a_wayBy, .inl (cs 0, 2048, .inl k118_C_a_wayBy)), (a_wayThen, .inl (cs 0, 2048, .inl k118_C_a_wayThen))] → va_S A s.heap H locs → ∀ ls : Array Slot, lv_has ls 6 [(5, .int k118_L_5), (4, .int k118_L_4), (3, .int k118_L_3), (0, .ref a), (1, .int p0), (2, .int p1)] → W p l e (headSpec (hz_w yX12_walk cX12_walk 6 (some .int)) ({ frames := 4, cells := 0, slots := 0, locals := 96 })).room s m [.ref a, .int p0, .int p1].toArray below meth c H locs 0 0 (MQ below (va_Qi (fun (r : Int32) (u : (Nat → Int32) × (Nat → Nat → Int32)) => (IV (-2147483648) 2147483647 p0)) (fun u t => va_P D classes [(a_said, .inl (cs 0, 123, .inl a_said_c)), (a, .inr (12, [.ref a_tape, .int a__taped, .int a__rules, .ref a_sign, .ref a_length, .ref a_clause, .ref a_clauses, .ref a_read, .int a__next, .int a__wrong, .int a__number, .int a__text, .int a__made, .int a__deep, .int a__lines, .ref a_open, .int a__opened, .ref a_stack, .int a__top, .ref a_word, .ref a_said, .int a__x, .ref a_worth, .ref a_mate, .ref a_wasSaid, .int a__undone, .int a__boughtNow, .ref a_wayBy, .ref a_wayThen, .int (u.1 1), .int (u.1 2), .int (u.1 3), .ref a_kept, .long a__drawX, .ref a_images, .ref a_imageX, .ref a_isMade])), (a_wayBy, .inl (cs 0, 2048, .inl (u.2 0))), (a_wayThen, .inl (cs 0, 2048, .inl (u.2 1))), (a_worth, .inl (cs 0, 4096, .inl a_worth_c))] t.heap ∧ va_D A [(a_said, .inl (cs 0, 123, .inl a_said_c)), (a, .inr (12, [.ref a_tape, .int a__taped, .int a__rules, .ref a_sign, .ref a_length, .ref a_clause, .ref a_clauses, .ref a_read, .int a__next, .int a__wrong, .int a__number, .int a__text, .int a__made, .int a__deep, .int a__lines, .ref a_open, .int a__opened, .ref a_stack, .int a__top, .ref a_word, .ref a_said, .int a__x, .ref a_worth, .ref a_mate, .ref a_wasSaid, .int a__undone, .int a__boughtNow, .ref a_wayBy, .ref a_wayThen, .int (u.1 1), .int (u.1 2), .int (u.1 3), .ref a_kept, .long a__drawX, .ref a_images, .ref a_imageX, .ref a_isMade])), (a_wayBy, .inl (cs 0, 2048, .inl (u.2 0))), (a_wayThen, .inl (cs 0, 2048, .inl (u.2 1))), (a_worth, .inl (cs 0, 4096, .inl a_worth_c))]) A) [.ref a, .int p0, .int p1].toArray s 0 0 A) (F0 m 118 ls []) := by
    intro n
    induction n with
    | zero =>
      intro k118_L_5 k118_L_4 k118_L_3 k118_F_a_29 k118_F_a_30 k118_F_a_31 k118_C_a_wayBy k118_C_a_wayThen hn q118_10 q118_11 q118_12 q118_13 q118_14 H locs hP hD hS ls hl
      exact absurd hn (by unfold IV at q118_12; omega)
    | succ n ih118 =>
      intro k118_L_5 k118_L_4 k118_L_3 k118_F_a_29 k118_F_a_30 k118_F_a_31 k118_C_a_wayBy k118_C_a_wayThen hn q118_10 q118_11 q118_12 q118_13 q118_14 H locs hP hD hS ls hl
      have i_a__lines : 0 ≤ a__lines.toInt ∧ a__lines.toInt ≤ 40 := h_a__lines
      have i_a__made : 0 ≤ a__made.toInt ∧ a__made.toInt ≤ 60 := h_a__made
      have i_a__next : 0 ≤ a__next.toInt ∧ a__next.toInt ≤ 400 := h_a__next
      have i_a__opened : 0 ≤ a__opened.toInt ∧ a__opened.toInt ≤ 400 := h_a__opened
      have i_a__rules : 0 ≤ a__rules.toInt ∧ a__rules.toInt ≤ 6 := h_a__rules
      have i_a__taped : 0 ≤ a__taped.toInt ∧ a__taped.toInt ≤ 400 := h_a__taped
      have i_a__text : 0 ≤ a__text.toInt ∧ a__text.toInt ≤ 6 := h_a__text
      have i_a__top : 0 ≤ a__top.toInt ∧ a__top.toInt ≤ 64 := h_a__top
      have i_a__undone : 0 ≤ a__undone.toInt ∧ a__undone.toInt ≤ 20 := h_a__undone
      have i_a__x : 0 ≤ a__x.toInt ∧ a__x.toInt ≤ 2147483647 := h_a__x
      have i_k118_L_3 : (-2147483648) ≤ k118_L_3.toInt ∧ k118_L_3.toInt ≤ 12 := q118_10
      have i_k118_L_4 : 0 ≤ k118_L_4.toInt ∧ k118_L_4.toInt ≤ 4095 := q118_11
      have i_k118_L_5 : 0 ≤ k118_L_5.toInt ∧ k118_L_5.toInt ≤ 4096 := q118_12
      have i_p0 : 0 ≤ p0.toInt ∧ p0.toInt ≤ 3 := q118_13
      have i_p1 : 0 ≤ p1.toInt ∧ p1.toInt ≤ 2 := q118_14
      refine lv_iload hx hb dX12_walk_118 (lv_at hl 0 rfl) ?_
      refine lv_iconst (v := 1) hx hb dX12_walk_120 (by decide) ?_
      refine lv_aload_n hx hb dX12_walk_121 rfl (lv_at hl 3 rfl) ?_
      refine va_get (D := D) (ci := 12) (v := .ref a_said) (C := RX12) (T := TX12) (N := 37) hx hb hT i_X12 hown hK hP 2 rfl rfl 20 (by decide) (hT _ q_185) (fun _ h9 => h9) rfl dX12_walk_122 ?_
      refine lv_iconst (v := 1) hx hb dX12_walk_125 (by decide) ?_
      refine va_iald hx hb hK hP 1 0 rfl rfl (iv_vc (by decide)) dX12_walk_126 ?_
      refine lv_topi (fun v1 ev1 => ?_)
      have h2 : IV 0 12 v1 := (by rw [ev1]; exact bs_i1 hf0)
      have ii3 : 0 ≤ v1.toInt ∧ v1.toInt ≤ 12 := h2
      have lv1 : v1.toInt = (a_said_c 1).toInt := by rw [ev1]; rfl
      refine lv_ishl hx hb dX12_walk_127 ?_
      refine lv_topi (fun v4 ev4 => ?_)
      have hv4 : IV 1 4096 v4 := iv_shl1 ev4 h2 (by decide) (by decide) (by decide)
      have ii5 : 1 ≤ v4.toInt ∧ v4.toInt ≤ 4096 := hv4
      refine lv_icmp_ge (tgt := 154) hx hb dX12_walk_128 (by decide) (fun c6 => ?_) (fun c6 => ?_)
      · have t7 : k118_L_5.toInt ≥ v4.toInt := lin_ge c6 rfl rfl
        have h8 : IV 1 4096 k118_L_5 := iv_le2 c6 hv4 q118_12 (by decide)
        have ii9 : 1 ≤ k118_L_5.toInt ∧ k118_L_5.toInt ≤ 4096 := h8
        refine lv_iload_n hx hb dX12_walk_154 rfl (lv_at hl 5 rfl) ?_
        refine lv_if_ne (tgt := 165) hx hb dX12_walk_155 (by decide) (fun c10 => ?_) (fun c10 => ?_)
        · have t11 : p1.toInt ≠ 0 := lin_ne c10 rfl (by decide)
          have h12 : IV 1 2 p1 := iv_neL c10 q118_14 (by decide)
          have ii13 : 1 ≤ p1.toInt ∧ p1.toInt ≤ 2 := h12
          refine lv_iload_n hx hb dX12_walk_165 rfl (lv_at hl 5 rfl) ?_
          refine lv_iconst (v := 1) hx hb dX12_walk_166 (by decide) ?_
          refine lv_icmp_ne (tgt := 177) hx hb dX12_walk_167 (by decide) (fun c14 => ?_) (fun c14 => ?_)
          · have t15 : p1.toInt ≠ 1 := lin_ne c14 rfl (by decide)
            have h16 : IV 2 2 p1 := iv_neL c14 h12 (by decide)
            have ii17 : 2 ≤ p1.toInt ∧ p1.toInt ≤ 2 := h16
            refine lv_aload_n hx hb dX12_walk_177 rfl (lv_at hl 3 rfl) ?_
            refine va_get (D := D) (ci := 12) (v := .int k118_F_a_31) (C := RX12) (T := TX12) (N := 37) hx hb hT i_X12 hown hK hP 2 rfl rfl 31 (by decide) (hT _ q_210) (fun _ h9 => h9) rfl dX12_walk_178 ?_
            refine W.widen (k := 0) (n := 0) (Nat.le_of_ble_eq_true rfl) (Nat.le_of_ble_eq_true rfl) ?_
            exact W.iret (v := k118_F_a_31) hx hb hr (fun t ht hW => ⟨⟨k118_F_a_31, (fun k => match k with | 0 => 0 | 1 => k118_F_a_29 | 2 => k118_F_a_30 | 3 => k118_F_a_31 | _ => 0, fun k => match k with | 0 => k118_C_a_wayBy | 1 => k118_C_a_wayThen | _ => fun _ => 0), rfl, ((iv_w q118_13 (by decide) (by decide))), by rw [ht]; exact hP.sub [1, 2, 3, 4, 0] rfl, hD.sub [1, 2, 3, 4, 0] (by decide) rfl⟩, hS.F ht⟩) hS.2.2 dX12_walk_181
          · have t18 : p1.toInt = 1 := lin_eqN c14 rfl (by decide)
            have h19 : IV 1 1 p1 := iv_eq1 c14 h12 (iv_c (a := 1) (b := 1) (by decide)) (by decide) (by decide)
            have ii20 : 1 ≤ p1.toInt ∧ p1.toInt ≤ 1 := h19
            refine lv_aload_n hx hb dX12_walk_170 rfl (lv_at hl 3 rfl) ?_
            refine va_get (D := D) (ci := 12) (v := .int k118_F_a_30) (C := RX12) (T := TX12) (N := 37) hx hb hT i_X12 hown hK hP 2 rfl rfl 30 (by decide) (hT _ q_209) (fun _ h9 => h9) rfl dX12_walk_171 ?_
            refine lv_goto (tgt := 181) hx hb dX12_walk_174 (by decide) ?_
            refine W.widen (k := 0) (n := 0) (Nat.le_of_ble_eq_true rfl) (Nat.le_of_ble_eq_true rfl) ?_
            exact W.iret (v := k118_F_a_30) hx hb hr (fun t ht hW => ⟨⟨k118_F_a_30, (fun k => match k with | 0 => 0 | 1 => k118_F_a_29 | 2 => k118_F_a_30 | 3 => k118_F_a_31 | _ => 0, fun k => match k with | 0 => k118_C_a_wayBy | 1 => k118_C_a_wayThen | _ => fun _ => 0), rfl, ((iv_w q118_13 (by decide) (by decide))), by rw [ht]; exact hP.sub [1, 2, 3, 4, 0] rfl, hD.sub [1, 2, 3, 4, 0] (by decide) rfl⟩, hS.F ht⟩) hS.2.2 dX12_walk_181
        · have t21 : p1.toInt = 0 := lin_eqN c10 rfl (by decide)
          have h22 : IV 0 0 p1 := iv_eq1 c10 q118_14 (iv_c (a := 0) (b := 0) (by decide)) (by decide) (by decide)
          have ii23 : 0 ≤ p1.toInt ∧ p1.toInt ≤ 0 := h22
          refine lv_aload_n hx hb dX12_walk_158 rfl (lv_at hl 3 rfl) ?_
          refine va_get (D := D) (ci := 12) (v := .int k118_F_a_29) (C := RX12) (T := TX12) (N := 37) hx hb hT i_X12 hown hK hP 2 rfl rfl 29 (by decide) (hT _ q_208) (fun _ h9 => h9) rfl dX12_walk_159 ?_
          refine lv_goto (tgt := 181) hx hb dX12_walk_162 (by decide) ?_
          refine W.widen (k := 0) (n := 0) (Nat.le_of_ble_eq_true rfl) (Nat.le_of_ble_eq_true rfl) ?_
          exact W.iret (v := k118_F_a_29) hx hb hr (fun t ht hW => ⟨⟨k118_F_a_29, (fun k => match k with | 0 => 0 | 1 => k118_F_a_29 | 2 => k118_F_a_30 | 3 => k118_F_a_31 | _ => 0, fun k => match k with | 0 => k118_C_a_wayBy | 1 => k118_C_a_wayThen | _ => fun _ => 0), rfl, ((iv_w q118_13 (by decide) (by decide))), by rw [ht]; exact hP.sub [1, 2, 3, 4, 0] rfl, hD.sub [1, 2, 3, 4, 0] (by decide) rfl⟩, hS.F ht⟩) hS.2.2 dX12_walk_181
      · have t24 : k118_L_5.toInt < v4.toInt := lin_geN c6 rfl rfl
        have h25 : IV 0 4095 k118_L_5 := iv_lt1 (Int32.not_le.mp c6) q118_12 hv4 (by decide)
        have ii26 : 0 ≤ k118_L_5.toInt ∧ k118_L_5.toInt ≤ 4095 := h25
        refine lv_iload hx hb dX12_walk_131 (lv_at hl 0 rfl) ?_
        refine lv_iload hx hb dX12_walk_133 (lv_at hl 1 rfl) ?_
        refine lv_iconst (v := (-1)) hx hb dX12_walk_135 (by decide) ?_
        refine lv_ixor hx hb dX12_walk_136 ?_
        refine lv_topi (fun v27 ev27 => ?_)
        refine lv_iand hx hb dX12_walk_137 ?_
        refine lv_topi (fun v28 ev28 => ?_)
        have hv28 : IV 0 4095 v28 := iv_and1 ev28 h25
        have ii29 : 0 ≤ v28.toInt ∧ v28.toInt ≤ 4095 := hv28
        refine lv_if_ne (tgt := 148) hx hb dX12_walk_138 (by decide) (fun c30 => ?_) (fun c30 => ?_)
        · have t31 : v28.toInt ≠ 0 := lin_ne c30 rfl (by decide)
          have h32 : IV 1 4095 v28 := iv_neL c30 hv28 (by decide)
          have ii33 : 1 ≤ v28.toInt ∧ v28.toInt ≤ 4095 := h32
          obtain ⟨v34, ev34⟩ : ∃ z : Int32, z = k118_L_5 + 1 := ⟨_, rfl⟩
          have hv34 : IV 1 4096 v34 := iv_add ev34 h25 (iv_c (a := 1) (b := 1) (by decide)) (by decide) (by decide)
          have dv34 : v34.toInt = k118_L_5.toInt + 1 := iv_addE ev34 h25 (iv_c (a := 1) (b := 1) (by decide)) (by decide) (by decide) (by decide)
          refine lv_iinc (v := v34) (lv' := [(5, .int v34), (4, .int k118_L_4), (3, .int k118_L_3), (0, .ref a), (1, .int p0), (2, .int p1)]) hx hb dX12_walk_148 hl (k := 0) rfl (by rw [ev34]; rfl) (by decide) rfl (fun ls hl => ?_)
          refine lv_goto (tgt := 118) hx hb dX12_walk_151 (by decide) ?_
          exact ih118 v34 k118_L_4 k118_L_3 k118_F_a_29 k118_F_a_30 k118_F_a_31 k118_C_a_wayBy k118_C_a_wayThen (by have h9 := h25; unfold IV at h9; have := dv34; omega) q118_10 q118_11 (iv_w hv34 (by decide) (by decide)) q118_13 q118_14 H locs (hP.sub (ws' := [(a_worth, .inl (cs 0, 4096, .inl a_worth_c)), (a_said, .inl (cs 0, 123, .inl a_said_c)), (a, .inr (12, [.ref a_tape, .int a__taped, .int a__rules, .ref a_sign, .ref a_length, .ref a_clause, .ref a_clauses, .ref a_read, .int a__next, .int a__wrong, .int a__number, .int a__text, .int a__made, .int a__deep, .int a__lines, .ref a_open, .int a__opened, .ref a_stack, .int a__top, .ref a_word, .ref a_said, .int a__x, .ref a_worth, .ref a_mate, .ref a_wasSaid, .int a__undone, .int a__boughtNow, .ref a_wayBy, .ref a_wayThen, .int k118_F_a_29, .int k118_F_a_30, .int k118_F_a_31, .ref a_kept, .long a__drawX, .ref a_images, .ref a_imageX, .ref a_isMade])), (a_wayBy, .inl (cs 0, 2048, .inl k118_C_a_wayBy)), (a_wayThen, .inl (cs 0, 2048, .inl k118_C_a_wayThen))]) [0, 1, 2, 3, 4] rfl) (hD.sub (ws' := [(a_worth, .inl (cs 0, 4096, .inl a_worth_c)), (a_said, .inl (cs 0, 123, .inl a_said_c)), (a, .inr (12, [.ref a_tape, .int a__taped, .int a__rules, .ref a_sign, .ref a_length, .ref a_clause, .ref a_clauses, .ref a_read, .int a__next, .int a__wrong, .int a__number, .int a__text, .int a__made, .int a__deep, .int a__lines, .ref a_open, .int a__opened, .ref a_stack, .int a__top, .ref a_word, .ref a_said, .int a__x, .ref a_worth, .ref a_mate, .ref a_wasSaid, .int a__undone, .int a__boughtNow, .ref a_wayBy, .ref a_wayThen, .int k118_F_a_29, .int k118_F_a_30, .int k118_F_a_31, .ref a_kept, .long a__drawX, .ref a_images, .ref a_imageX, .ref a_isMade])), (a_wayBy, .inl (cs 0, 2048, .inl k118_C_a_wayBy)), (a_wayThen, .inl (cs 0, 2048, .inl k118_C_a_wayThen))]) [0, 1, 2, 3, 4] (by decide) rfl) hS ls (lv_sub hl [0, 1, 2, 3, 4, 5] rfl)
        · have t35 : v28.toInt = 0 := lin_eqN c30 rfl (by decide)
          have h36 : IV 0 0 v28 := iv_eq1 c30 hv28 (iv_c (a := 0) (b := 0) (by decide)) (by decide) (by decide)
          have ii37 : 0 ≤ v28.toInt ∧ v28.toInt ≤ 0 := h36
          refine lv_aload_n hx hb dX12_walk_141 rfl (lv_at hl 3 rfl) ?_
          refine lv_iload_n hx hb dX12_walk_142 rfl (lv_at hl 4 rfl) ?_
          refine lv_iload hx hb dX12_walk_143 (lv_at hl 0 rfl) ?_
          have hFc := va_free (wc := [(a_said, .inl (cs 0, 123, .inl a_said_c)), (a, .inr (12, [.ref a_tape, .int a__taped, .int a__rules, .ref a_sign, .ref a_length, .ref a_clause, .ref a_clauses, .ref a_read, .int a__next, .int a__wrong, .int a__number, .int a__text, .int a__made, .int a__deep, .int a__lines, .ref a_open, .int a__opened, .ref a_stack, .int a__top, .ref a_word, .ref a_said, .int a__x, .ref a_worth, .ref a_mate, .ref a_wasSaid, .int a__undone, .int a__boughtNow, .ref a_wayBy, .ref a_wayThen, .int k118_F_a_29, .int k118_F_a_30, .int k118_F_a_31, .ref a_kept, .long a__drawX, .ref a_images, .ref a_imageX, .ref a_isMade])), (a_worth, .inl (cs 0, 4096, .inl a_worth_c)), (a_wayBy, .inl (cs 0, 2048, .inl k118_C_a_wayBy))]) hD hS hA [1,2,0,3] rfl
          refine va_callv (va_runV (As := [.int p0, .int k118_L_5]) (rest := []) ⟨hx, hb, hml, hown, hT⟩ (c_X12_offers l D cs kK kV a p0 k118_L_5 a_said a_said_c a_tape a__taped a__rules a_sign a_length a_clause a_clauses a_read a__next a__wrong a__number a__text a__made a__deep a__lines a_open a__opened a_stack a__top a_word a__x a_worth a_mate a_wasSaid a__undone a__boughtNow a_wayBy a_wayThen k118_F_a_29 k118_F_a_30 k118_F_a_31 a_kept a__drawX a_images a_imageX a_isMade a_worth_c k118_C_a_wayBy q118_13 h25 h_a__taped h_a__rules h_a__next h_a__text h_a__made h_a__lines h_a__opened h_a__top h_a__x h_a__undone hf0 H.size) (cwV 2 hT (hz_gV q_1258 q_1259 q_1260 q_701 q_1261) rfl rfl rfl (by decide +kernel) ⟨(Nat.le_of_ble_eq_true rfl), (Nat.le_of_ble_eq_true rfl)⟩) ⟨hz_C.blind, va_recv hK hP (ci := 12) (q0 := 2) rfl rfl, hz_C.mk (hP.sub (ws' := [(a_said, .inl (cs 0, 123, .inl a_said_c)), (a, .inr (12, [.ref a_tape, .int a__taped, .int a__rules, .ref a_sign, .ref a_length, .ref a_clause, .ref a_clauses, .ref a_read, .int a__next, .int a__wrong, .int a__number, .int a__text, .int a__made, .int a__deep, .int a__lines, .ref a_open, .int a__opened, .ref a_stack, .int a__top, .ref a_word, .ref a_said, .int a__x, .ref a_worth, .ref a_mate, .ref a_wasSaid, .int a__undone, .int a__boughtNow, .ref a_wayBy, .ref a_wayThen, .int k118_F_a_29, .int k118_F_a_30, .int k118_F_a_31, .ref a_kept, .long a__drawX, .ref a_images, .ref a_imageX, .ref a_isMade])), (a_worth, .inl (cs 0, 4096, .inl a_worth_c)), (a_wayBy, .inl (cs 0, 2048, .inl k118_C_a_wayBy))]) [1,2,0,3] rfl) (hD.sub (ws' := [(a_said, .inl (cs 0, 123, .inl a_said_c)), (a, .inr (12, [.ref a_tape, .int a__taped, .int a__rules, .ref a_sign, .ref a_length, .ref a_clause, .ref a_clauses, .ref a_read, .int a__next, .int a__wrong, .int a__number, .int a__text, .int a__made, .int a__deep, .int a__lines, .ref a_open, .int a__opened, .ref a_stack, .int a__top, .ref a_word, .ref a_said, .int a__x, .ref a_worth, .ref a_mate, .ref a_wasSaid, .int a__undone, .int a__boughtNow, .ref a_wayBy, .ref a_wayThen, .int k118_F_a_29, .int k118_F_a_30, .int k118_F_a_31, .ref a_kept, .long a__drawX, .ref a_images, .ref a_imageX, .ref a_isMade])), (a_worth, .inl (cs 0, 4096, .inl a_worth_c)), (a_wayBy, .inl (cs 0, 2048, .inl k118_C_a_wayBy))]) [1,2,0,3] (by decide) rfl) hE hS hFc⟩ rfl rfl hl.1 rfl (lv_room (Nat.le_of_ble_eq_true rfl)) dX12_walk_145 ⟨(Nat.le_of_ble_eq_true rfl), (Nat.le_of_ble_eq_true rfl)⟩) hS (fun q _ h => hFc q h) hFc (fun o39 t H1 locs ht hvm hw hB hz1 hk1 hS => ?_)
          obtain ⟨hP1, hD1⟩ := hB
          rw [ht] at hP1
          obtain ⟨hP, hD⟩ := va_join (wr := [(a_wayThen, .inl (cs 0, 2048, .inl k118_C_a_wayThen))]) (w1 := [(a_said, .inl (cs 0, 123, .inl a_said_c)), (a, .inr (12, [.ref a_tape, .int a__taped, .int a__rules, .ref a_sign, .ref a_length, .ref a_clause, .ref a_clauses, .ref a_read, .int a__next, .int a__wrong, .int a__number, .int a__text, .int a__made, .int a__deep, .int a__lines, .ref a_open, .int a__opened, .ref a_stack, .int a__top, .ref a_word, .ref a_said, .int a__x, .ref a_worth, .ref a_mate, .ref a_wasSaid, .int a__undone, .int a__boughtNow, .ref a_wayBy, .ref a_wayThen, .int (o39.1 1), .int (o39.1 2), .int (o39.1 3), .ref a_kept, .long a__drawX, .ref a_images, .ref a_imageX, .ref a_isMade])), (a_worth, .inl (cs 0, 4096, .inl a_worth_c)), (a_wayBy, .inl (cs 0, 2048, .inl k118_C_a_wayBy))]) hP hD [1, 2, 0, 3] [4] rfl rfl (by decide) (by decide) hk1 hFc hP1 hD1
          generalize H1 = H at hP hS ⊢
          have hP : va_P D classes [(a_wayThen, .inl (cs 0, 2048, .inl k118_C_a_wayThen)), (a_said, .inl (cs 0, 123, .inl a_said_c)), (a, .inr (12, [.ref a_tape, .int a__taped, .int a__rules, .ref a_sign, .ref a_length, .ref a_clause, .ref a_clauses, .ref a_read, .int a__next, .int a__wrong, .int a__number, .int a__text, .int a__made, .int a__deep, .int a__lines, .ref a_open, .int a__opened, .ref a_stack, .int a__top, .ref a_word, .ref a_said, .int a__x, .ref a_worth, .ref a_mate, .ref a_wasSaid, .int a__undone, .int a__boughtNow, .ref a_wayBy, .ref a_wayThen, .int (o39.1 1), .int (o39.1 2), .int (o39.1 3), .ref a_kept, .long a__drawX, .ref a_images, .ref a_imageX, .ref a_isMade])), (a_worth, .inl (cs 0, 4096, .inl a_worth_c)), (a_wayBy, .inl (cs 0, 2048, .inl k118_C_a_wayBy))] H := hP
          have hD : va_D A [(a_wayThen, .inl (cs 0, 2048, .inl k118_C_a_wayThen)), (a_said, .inl (cs 0, 123, .inl a_said_c)), (a, .inr (12, [.ref a_tape, .int a__taped, .int a__rules, .ref a_sign, .ref a_length, .ref a_clause, .ref a_clauses, .ref a_read, .int a__next, .int a__wrong, .int a__number, .int a__text, .int a__made, .int a__deep, .int a__lines, .ref a_open, .int a__opened, .ref a_stack, .int a__top, .ref a_word, .ref a_said, .int a__x, .ref a_worth, .ref a_mate, .ref a_wasSaid, .int a__undone, .int a__boughtNow, .ref a_wayBy, .ref a_wayThen, .int (o39.1 1), .int (o39.1 2), .int (o39.1 3), .ref a_kept, .long a__drawX, .ref a_images, .ref a_imageX, .ref a_isMade])), (a_worth, .inl (cs 0, 4096, .inl a_worth_c)), (a_wayBy, .inl (cs 0, 2048, .inl k118_C_a_wayBy))] := hD
          clear hk1 hFc hP1 hD1 hz1
          obtain ⟨v40, ev40⟩ : ∃ z : Int32, z = k118_L_5 + 1 := ⟨_, rfl⟩
          have hv40 : IV 1 4096 v40 := iv_add ev40 h25 (iv_c (a := 1) (b := 1) (by decide)) (by decide) (by decide)
          have dv40 : v40.toInt = k118_L_5.toInt + 1 := iv_addE ev40 h25 (iv_c (a := 1) (b := 1) (by decide)) (by decide) (by decide) (by decide)
          refine lv_iinc (v := v40) (lv' := [(5, .int v40), (4, .int k118_L_4), (3, .int k118_L_3), (0, .ref a), (1, .int p0), (2, .int p1)]) hx hb dX12_walk_148 hl (k := 0) rfl (by rw [ev40]; rfl) (by decide) rfl (fun ls hl => ?_)
          refine lv_goto (tgt := 118) hx hb dX12_walk_151 (by decide) ?_
          exact ih118 v40 k118_L_4 k118_L_3 (o39.1 1) (o39.1 2) (o39.1 3) k118_C_a_wayBy k118_C_a_wayThen (by have h9 := h25; unfold IV at h9; have := dv40; omega) q118_10 q118_11 (iv_w hv40 (by decide) (by decide)) q118_13 q118_14 H locs (hP.sub (ws' := [(a_worth, .inl (cs 0, 4096, .inl a_worth_c)), (a_said, .inl (cs 0, 123, .inl a_said_c)), (a, .inr (12, [.ref a_tape, .int a__taped, .int a__rules, .ref a_sign, .ref a_length, .ref a_clause, .ref a_clauses, .ref a_read, .int a__next, .int a__wrong, .int a__number, .int a__text, .int a__made, .int a__deep, .int a__lines, .ref a_open, .int a__opened, .ref a_stack, .int a__top, .ref a_word, .ref a_said, .int a__x, .ref a_worth, .ref a_mate, .ref a_wasSaid, .int a__undone, .int a__boughtNow, .ref a_wayBy, .ref a_wayThen, .int (o39.1 1), .int (o39.1 2), .int (o39.1 3), .ref a_kept, .long a__drawX, .ref a_images, .ref a_imageX, .ref a_isMade])), (a_wayBy, .inl (cs 0, 2048, .inl k118_C_a_wayBy)), (a_wayThen, .inl (cs 0, 2048, .inl k118_C_a_wayThen))]) [3, 1, 2, 4, 0] rfl) (hD.sub (ws' := [(a_worth, .inl (cs 0, 4096, .inl a_worth_c)), (a_said, .inl (cs 0, 123, .inl a_said_c)), (a, .inr (12, [.ref a_tape, .int a__taped, .int a__rules, .ref a_sign, .ref a_length, .ref a_clause, .ref a_clauses, .ref a_read, .int a__next, .int a__wrong, .int a__number, .int a__text, .int a__made, .int a__deep, .int a__lines, .ref a_open, .int a__opened, .ref a_stack, .int a__top, .ref a_word, .ref a_said, .int a__x, .ref a_worth, .ref a_mate, .ref a_wasSaid, .int a__undone, .int a__boughtNow, .ref a_wayBy, .ref a_wayThen, .int (o39.1 1), .int (o39.1 2), .int (o39.1 3), .ref a_kept, .long a__drawX, .ref a_images, .ref a_imageX, .ref a_isMade])), (a_wayBy, .inl (cs 0, 2048, .inl k118_C_a_wayBy)), (a_wayThen, .inl (cs 0, 2048, .inl k118_C_a_wayThen))]) [3, 1, 2, 4, 0] (by decide) rfl) hS ls (lv_sub hl [0, 1, 2, 3, 4, 5] rfl)
  refine lv_aload_n hx hb dX12_walk_0 rfl (lv_at hl 0 rfl) ?_
  refine lv_iload_n hx hb dX12_walk_1 rfl (lv_at hl 1 rfl) ?_
  refine va_calli (va_runV (As := [.int p0]) (rest := []) ⟨hx, hb, hml, hown, hT⟩ (c_X12_isBuyer l D cs kK kV a p0 a_said a_said_c a_tape a__taped a__rules a_sign a_length a_clause a_clauses a_read a__next a__wrong a__number a__text a__made a__deep a__lines a_open a__opened a_stack a__top a_word a__x a_worth a_mate a_wasSaid a__undone a__boughtNow a_wayBy a_wayThen a__walkMost a__walkGoing a__walkSet a_kept a__drawX a_images a_imageX a_isMade h_a__taped h_a__rules h_a__next h_a__text h_a__made h_a__lines h_a__opened h_a__top h_a__x h_a__undone hf0) (cwV 1 hT (hz_gV q_1156 q_1157 q_1158 q_701 q_1159) rfl rfl rfl (by decide +kernel) ⟨(Nat.le_of_ble_eq_true rfl), (Nat.le_of_ble_eq_true rfl)⟩) ⟨hz_P.blind, va_recv hK hP (ci := 12) (q0 := 1) rfl rfl, hz_P.mk (hP.sub (ws' := [(a_said, .inl (cs 0, 123, .inl a_said_c)), (a, .inr (12, [.ref a_tape, .int a__taped, .int a__rules, .ref a_sign, .ref a_length, .ref a_clause, .ref a_clauses, .ref a_read, .int a__next, .int a__wrong, .int a__number, .int a__text, .int a__made, .int a__deep, .int a__lines, .ref a_open, .int a__opened, .ref a_stack, .int a__top, .ref a_word, .ref a_said, .int a__x, .ref a_worth, .ref a_mate, .ref a_wasSaid, .int a__undone, .int a__boughtNow, .ref a_wayBy, .ref a_wayThen, .int a__walkMost, .int a__walkGoing, .int a__walkSet, .ref a_kept, .long a__drawX, .ref a_images, .ref a_imageX, .ref a_isMade]))]) [0,1] rfl) hE hS⟩ rfl rfl hl.1 rfl (lv_room (Nat.le_of_ble_eq_true rfl)) dX12_walk_2 ⟨(Nat.le_of_ble_eq_true rfl), (Nat.le_of_ble_eq_true rfl)⟩) hS (fun _ _ h => h.elim) (fun _ h => h.elim) (fun r41 u t H1 locs ht hvm hw hB hz1 hk1 hS => ?_)
  have hP := hz_keep hP hk1
  clear hk1 hB hz1
  generalize H1 = H at hP hS ⊢
  rcases hw with ⟨rfl, h42⟩ | ⟨rfl, h43, x44, x45⟩
  · have ii46 : (-2147483648) ≤ p0.toInt ∧ p0.toInt ≤ 2147483647 := h42
    refine lv_if_eq (tgt := 20) hx hb dX12_walk_5 (by decide) (fun _ => ?_) (fun z => absurd (by decide) z)
    refine lv_bipush (v := (-3)) hx hb dX12_walk_20 (by decide) ?_
    refine W.widen (k := 0) (n := 0) (Nat.le_of_ble_eq_true rfl) (Nat.le_of_ble_eq_true rfl) ?_
    exact W.iret (v := (-3)) hx hb hr (fun t ht hW => ⟨⟨(-3), (fun k => match k with | 0 => 0 | 1 => a__walkMost | 2 => a__walkGoing | 3 => a__walkSet | _ => 0, fun k => match k with | 0 => a_wayBy_c | 1 => a_wayThen_c | _ => fun _ => 0), rfl, (h42), by rw [ht]; exact hP.sub [0, 1, 2, 3, 4] rfl, hD.sub [0, 1, 2, 3, 4] (by decide) rfl⟩, hS.F ht⟩) hS.2.2 dX12_walk_22
  · have ii47 : 0 ≤ p0.toInt ∧ p0.toInt ≤ 3 := h43
    refine lv_if_eq (tgt := 20) hx hb dX12_walk_5 (by decide) (fun z => absurd z (by decide)) (fun _ => ?_)
    refine lv_iload_n hx hb dX12_walk_8 rfl (lv_at hl 2 rfl) ?_
    refine lv_i2l (v := p1.toInt64) hx hb dX12_walk_9 rfl ?_
    refine lv_lconst (v := 0) hx hb dX12_walk_10 (by decide) ?_
    refine lv_ldc2 hx hb hown (hT _ q_1421) dX12_walk_11 ?_
    refine va_calli (va_runS (As := [.long p1.toInt64, .long 0, .long 2]) (rest := []) ⟨hx, hb, hml, hown, hT⟩ (c_X12_in l D cs kK kV p1.toInt64 0 2) (va_cwS 3 hT (hz_gS q_964 q_965 q_701 q_966) rfl rfl rfl (by decide +kernel) ⟨(Nat.le_of_ble_eq_true rfl), (Nat.le_of_ble_eq_true rfl)⟩) ⟨hz_P.blind, hz_P.mk (hP.sub (ws' := []) [] rfl) hE hS⟩ rfl rfl hl.1 rfl (lv_room (Nat.le_of_ble_eq_true rfl)) dX12_walk_14 ⟨(Nat.le_of_ble_eq_true rfl), (Nat.le_of_ble_eq_true rfl)⟩) hS (fun _ _ h => h.elim) (fun _ h => h.elim) (fun r48 u t H1 locs ht hvm hw hB hz1 hk1 hS => ?_)
    have hP := hz_keep hP hk1
    clear hk1 hB hz1
    generalize H1 = H at hP hS ⊢
    rcases hw with ⟨rfl, x49⟩ | ⟨rfl, x50, x51⟩
    · have t52 : ¬ (0 ≤ p1.toInt ∧ p1.toInt ≤ 2) := fun z => x49 ⟨l64_clI z.1 (by decide), l64_lcI z.2 (by decide)⟩
      refine lv_if_ne (tgt := 23) hx hb dX12_walk_17 (by decide) (fun z => absurd (by decide) z) (fun _ => ?_)
      refine lv_bipush (v := (-3)) hx hb dX12_walk_20 (by decide) ?_
      refine W.widen (k := 0) (n := 0) (Nat.le_of_ble_eq_true rfl) (Nat.le_of_ble_eq_true rfl) ?_
      exact W.iret (v := (-3)) hx hb hr (fun t ht hW => ⟨⟨(-3), (fun k => match k with | 0 => 0 | 1 => a__walkMost | 2 => a__walkGoing | 3 => a__walkSet | _ => 0, fun k => match k with | 0 => a_wayBy_c | 1 => a_wayThen_c | _ => fun _ => 0), rfl, ((iv_w h43 (by decide) (by decide))), by rw [ht]; exact hP.sub [0, 1, 2, 3, 4] rfl, hD.sub [0, 1, 2, 3, 4] (by decide) rfl⟩, hS.F ht⟩) hS.2.2 dX12_walk_22
    · have h53 : IV 0 2147483647 p1 := ⟨l64_cle x50 (by decide), iv_top.2⟩
      have ii54 : 0 ≤ p1.toInt ∧ p1.toInt ≤ 2147483647 := h53
      have h55 : IV 0 2 p1 := ⟨(h53).1, l64_lec x51 (by decide)⟩
      have ii56 : 0 ≤ p1.toInt ∧ p1.toInt ≤ 2 := h55
      refine lv_if_ne (tgt := 23) hx hb dX12_walk_17 (by decide) (fun _ => ?_) (fun z => absurd z (by decide))
      refine lv_aload_n hx hb dX12_walk_23 rfl (lv_at hl 0 rfl) ?_
      refine va_calli (va_runV (As := []) (rest := []) ⟨hx, hb, hml, hown, hT⟩ (c_X12_isDusk l D cs kK kV a a_tape a__taped a__rules a_sign a_length a_clause a_clauses a_read a__next a__wrong a__number a__text a__made a__deep a__lines a_open a__opened a_stack a__top a_word a_said a__x a_worth a_mate a_wasSaid a__undone a__boughtNow a_wayBy a_wayThen a__walkMost a__walkGoing a__walkSet a_kept a__drawX a_images a_imageX a_isMade a_said_c h_a__taped h_a__rules h_a__next h_a__text h_a__made h_a__lines h_a__opened h_a__top h_a__x h_a__undone) (cwV 0 hT (hz_gV q_1100 q_1101 q_1102 q_701 q_1103) rfl rfl rfl (by decide +kernel) ⟨(Nat.le_of_ble_eq_true rfl), (Nat.le_of_ble_eq_true rfl)⟩) ⟨hz_P.blind, va_recv hK hP (ci := 12) (q0 := 1) rfl rfl, hz_P.mk (hP.sub (ws' := [(a, .inr (12, [.ref a_tape, .int a__taped, .int a__rules, .ref a_sign, .ref a_length, .ref a_clause, .ref a_clauses, .ref a_read, .int a__next, .int a__wrong, .int a__number, .int a__text, .int a__made, .int a__deep, .int a__lines, .ref a_open, .int a__opened, .ref a_stack, .int a__top, .ref a_word, .ref a_said, .int a__x, .ref a_worth, .ref a_mate, .ref a_wasSaid, .int a__undone, .int a__boughtNow, .ref a_wayBy, .ref a_wayThen, .int a__walkMost, .int a__walkGoing, .int a__walkSet, .ref a_kept, .long a__drawX, .ref a_images, .ref a_imageX, .ref a_isMade])), (a_said, .inl (cs 0, 123, .inl a_said_c))]) [1,0] rfl) hE hS⟩ rfl rfl hl.1 rfl (lv_room (Nat.le_of_ble_eq_true rfl)) dX12_walk_24 ⟨(Nat.le_of_ble_eq_true rfl), (Nat.le_of_ble_eq_true rfl)⟩) hS (fun _ _ h => h.elim) (fun _ h => h.elim) (fun r57 u t H1 locs ht hvm hw hB hz1 hk1 hS => ?_)
      have hP := hz_keep hP hk1
      clear hk1 hB hz1
      generalize H1 = H at hP hS ⊢
      rcases hw with ⟨rfl, x58⟩ | rfl
      · refine lv_if_eq (tgt := 34) hx hb dX12_walk_27 (by decide) (fun _ => ?_) (fun z => absurd (by decide) z)
        refine lv_aload_n hx hb dX12_walk_34 rfl (lv_at hl 0 rfl) ?_
        refine va_get (D := D) (ci := 12) (v := .ref a_said) (C := RX12) (T := TX12) (N := 37) hx hb hT i_X12 hown hK hP 1 rfl rfl 20 (by decide) (hT _ q_185) (fun _ h9 => h9) rfl dX12_walk_35 ?_
        refine lv_bipush (v := 6) hx hb dX12_walk_38 (by decide) ?_
        refine va_iald hx hb hK hP 0 0 rfl rfl (iv_vc (by decide)) dX12_walk_40 ?_
        refine lv_topi (fun v59 ev59 => ?_)
        have lv59 : v59.toInt = (a_said_c 6).toInt := by rw [ev59]; rfl
        refine lv_aload_n hx hb dX12_walk_41 rfl (lv_at hl 0 rfl) ?_
        refine va_get (D := D) (ci := 12) (v := .ref a_said) (C := RX12) (T := TX12) (N := 37) hx hb hT i_X12 hown hK hP 1 rfl rfl 20 (by decide) (hT _ q_185) (fun _ h9 => h9) rfl dX12_walk_42 ?_
        refine lv_iconst (v := 3) hx hb dX12_walk_45 (by decide) ?_
        refine va_iald hx hb hK hP 0 0 rfl rfl (iv_vc (by decide)) dX12_walk_46 ?_
        refine lv_topi (fun v60 ev60 => ?_)
        have h61 : IV 0 200 v60 := (by rw [ev60]; exact bs_i3 hf0)
        have ii62 : 0 ≤ v60.toInt ∧ v60.toInt ≤ 200 := h61
        have lv60 : v60.toInt = (a_said_c 3).toInt := by rw [ev60]; rfl
        refine lv_isub hx hb dX12_walk_47 ?_
        refine lv_topi (fun v63 ev63 => ?_)
        refine lv_istore_n (lv' := [(3, .int v63), (0, .ref a), (1, .int p0), (2, .int p1)]) hx hb dX12_walk_48 rfl hl (by decide) rfl (fun ls hl => ?_)
        refine lv_iload_n hx hb dX12_walk_49 rfl (lv_at hl 0 rfl) ?_
        refine lv_bipush (v := 12) hx hb dX12_walk_50 (by decide) ?_
        refine lv_icmp_le (tgt := 58) hx hb dX12_walk_52 (by decide) (fun c64 => ?_) (fun c64 => ?_)
        · have t65 : v63.toInt ≤ 12 := lin_le c64 rfl (by decide)
          have h66 : IV (-2147483648) 12 v63 := iv_le1 c64 iv_top (iv_c (a := 12) (b := 12) (by decide)) (by decide)
          have ii67 : (-2147483648) ≤ v63.toInt ∧ v63.toInt ≤ 12 := h66
          refine lv_iload_n hx hb dX12_walk_58 rfl (lv_at hl 0 rfl) ?_
          refine lv_if_ne (tgt := 98) hx hb dX12_walk_59 (by decide) (fun c68 => ?_) (fun c68 => ?_)
          · have t69 : v63.toInt ≠ 0 := lin_ne c68 rfl (by decide)
            refine lv_aload_n hx hb dX12_walk_98 rfl (lv_at hl 1 rfl) ?_
            refine lv_iload_n hx hb dX12_walk_99 rfl (lv_at hl 2 rfl) ?_
            refine lv_iload_n hx hb dX12_walk_100 rfl (lv_at hl 0 rfl) ?_
            have hFc := va_free (wc := [(a_said, .inl (cs 0, 123, .inl a_said_c)), (a, .inr (12, [.ref a_tape, .int a__taped, .int a__rules, .ref a_sign, .ref a_length, .ref a_clause, .ref a_clauses, .ref a_read, .int a__next, .int a__wrong, .int a__number, .int a__text, .int a__made, .int a__deep, .int a__lines, .ref a_open, .int a__opened, .ref a_stack, .int a__top, .ref a_word, .ref a_said, .int a__x, .ref a_worth, .ref a_mate, .ref a_wasSaid, .int a__undone, .int a__boughtNow, .ref a_wayBy, .ref a_wayThen, .int a__walkMost, .int a__walkGoing, .int a__walkSet, .ref a_kept, .long a__drawX, .ref a_images, .ref a_imageX, .ref a_isMade])), (a_wayBy, .inl (cs 0, 2048, .inl a_wayBy_c)), (a_wayThen, .inl (cs 0, 2048, .inl a_wayThen_c))]) hD hS hA [0,1,2,3] rfl
            refine va_callv (va_runV (As := [.int p0, .int v63]) (rest := []) ⟨hx, hb, hml, hown, hT⟩ (c_X12_walksTill l D cs kK kV a p0 v63 a_said a_said_c a_tape a__taped a__rules a_sign a_length a_clause a_clauses a_read a__next a__wrong a__number a__text a__made a__deep a__lines a_open a__opened a_stack a__top a_word a__x a_worth a_mate a_wasSaid a__undone a__boughtNow a_wayBy a_wayThen a__walkMost a__walkGoing a__walkSet a_kept a__drawX a_images a_imageX a_isMade a_wayBy_c a_wayThen_c h43 h66 h_a__taped h_a__rules h_a__next h_a__text h_a__made h_a__lines h_a__opened h_a__top h_a__x h_a__undone hf0 x45 H.size) (cwV 2 hT (hz_gV q_1254 q_1255 q_1256 q_701 q_1257) rfl rfl rfl (by decide +kernel) ⟨(Nat.le_of_ble_eq_true rfl), (Nat.le_of_ble_eq_true rfl)⟩) ⟨hz_C.blind, va_recv hK hP (ci := 12) (q0 := 1) rfl rfl, hz_C.mk (hP.sub (ws' := [(a_said, .inl (cs 0, 123, .inl a_said_c)), (a, .inr (12, [.ref a_tape, .int a__taped, .int a__rules, .ref a_sign, .ref a_length, .ref a_clause, .ref a_clauses, .ref a_read, .int a__next, .int a__wrong, .int a__number, .int a__text, .int a__made, .int a__deep, .int a__lines, .ref a_open, .int a__opened, .ref a_stack, .int a__top, .ref a_word, .ref a_said, .int a__x, .ref a_worth, .ref a_mate, .ref a_wasSaid, .int a__undone, .int a__boughtNow, .ref a_wayBy, .ref a_wayThen, .int a__walkMost, .int a__walkGoing, .int a__walkSet, .ref a_kept, .long a__drawX, .ref a_images, .ref a_imageX, .ref a_isMade])), (a_wayBy, .inl (cs 0, 2048, .inl a_wayBy_c)), (a_wayThen, .inl (cs 0, 2048, .inl a_wayThen_c))]) [0,1,2,3] rfl) (hD.sub (ws' := [(a_said, .inl (cs 0, 123, .inl a_said_c)), (a, .inr (12, [.ref a_tape, .int a__taped, .int a__rules, .ref a_sign, .ref a_length, .ref a_clause, .ref a_clauses, .ref a_read, .int a__next, .int a__wrong, .int a__number, .int a__text, .int a__made, .int a__deep, .int a__lines, .ref a_open, .int a__opened, .ref a_stack, .int a__top, .ref a_word, .ref a_said, .int a__x, .ref a_worth, .ref a_mate, .ref a_wasSaid, .int a__undone, .int a__boughtNow, .ref a_wayBy, .ref a_wayThen, .int a__walkMost, .int a__walkGoing, .int a__walkSet, .ref a_kept, .long a__drawX, .ref a_images, .ref a_imageX, .ref a_isMade])), (a_wayBy, .inl (cs 0, 2048, .inl a_wayBy_c)), (a_wayThen, .inl (cs 0, 2048, .inl a_wayThen_c))]) [0,1,2,3] (by decide) rfl) hE hS hFc⟩ rfl rfl hl.1 rfl (lv_room (Nat.le_of_ble_eq_true rfl)) dX12_walk_101 ⟨(Nat.le_of_ble_eq_true rfl), (Nat.le_of_ble_eq_true rfl)⟩) hS (fun q _ h => hFc q h) hFc (fun o71 t H1 locs ht hvm hw hB hz1 hk1 hS => ?_)
            obtain ⟨hP1, hD1⟩ := hB
            rw [ht] at hP1
            obtain ⟨hP, hD⟩ := va_join (wr := [(a_worth, .inl (cs 0, 4096, .inl a_worth_c))]) (w1 := [(a_said, .inl (cs 0, 123, .inl a_said_c)), (a, .inr (12, [.ref a_tape, .int a__taped, .int a__rules, .ref a_sign, .ref a_length, .ref a_clause, .ref a_clauses, .ref a_read, .int a__next, .int a__wrong, .int a__number, .int a__text, .int a__made, .int a__deep, .int a__lines, .ref a_open, .int a__opened, .ref a_stack, .int a__top, .ref a_word, .ref a_said, .int a__x, .ref a_worth, .ref a_mate, .ref a_wasSaid, .int a__undone, .int a__boughtNow, .ref a_wayBy, .ref a_wayThen, .int a__walkMost, .int a__walkGoing, .int a__walkSet, .ref a_kept, .long a__drawX, .ref a_images, .ref a_imageX, .ref a_isMade])), (a_wayBy, .inl (cs 0, 2048, .inl (o71.2 0))), (a_wayThen, .inl (cs 0, 2048, .inl (o71.2 1)))]) hP hD [0, 1, 2, 3] [4] rfl rfl (by decide) (by decide) hk1 hFc hP1 hD1
            generalize H1 = H at hP hS ⊢
            have hP : va_P D classes [(a_worth, .inl (cs 0, 4096, .inl a_worth_c)), (a_said, .inl (cs 0, 123, .inl a_said_c)), (a, .inr (12, [.ref a_tape, .int a__taped, .int a__rules, .ref a_sign, .ref a_length, .ref a_clause, .ref a_clauses, .ref a_read, .int a__next, .int a__wrong, .int a__number, .int a__text, .int a__made, .int a__deep, .int a__lines, .ref a_open, .int a__opened, .ref a_stack, .int a__top, .ref a_word, .ref a_said, .int a__x, .ref a_worth, .ref a_mate, .ref a_wasSaid, .int a__undone, .int a__boughtNow, .ref a_wayBy, .ref a_wayThen, .int a__walkMost, .int a__walkGoing, .int a__walkSet, .ref a_kept, .long a__drawX, .ref a_images, .ref a_imageX, .ref a_isMade])), (a_wayBy, .inl (cs 0, 2048, .inl (o71.2 0))), (a_wayThen, .inl (cs 0, 2048, .inl (o71.2 1)))] H := hP
            have hD : va_D A [(a_worth, .inl (cs 0, 4096, .inl a_worth_c)), (a_said, .inl (cs 0, 123, .inl a_said_c)), (a, .inr (12, [.ref a_tape, .int a__taped, .int a__rules, .ref a_sign, .ref a_length, .ref a_clause, .ref a_clauses, .ref a_read, .int a__next, .int a__wrong, .int a__number, .int a__text, .int a__made, .int a__deep, .int a__lines, .ref a_open, .int a__opened, .ref a_stack, .int a__top, .ref a_word, .ref a_said, .int a__x, .ref a_worth, .ref a_mate, .ref a_wasSaid, .int a__undone, .int a__boughtNow, .ref a_wayBy, .ref a_wayThen, .int a__walkMost, .int a__walkGoing, .int a__walkSet, .ref a_kept, .long a__drawX, .ref a_images, .ref a_imageX, .ref a_isMade])), (a_wayBy, .inl (cs 0, 2048, .inl (o71.2 0))), (a_wayThen, .inl (cs 0, 2048, .inl (o71.2 1)))] := hD
            clear hk1 hFc hP1 hD1 hz1
            refine lv_aload_n hx hb dX12_walk_104 rfl (lv_at hl 1 rfl) ?_
            refine lv_iconst (v := (-1)) hx hb dX12_walk_105 (by decide) ?_
            refine va_put (D := D) (ci := 12) (v := .int (-1)) (ty := .int) (C := RX12) (T := TX12) (N := 37) hx hb hT i_X12 tyX12 tyX12_ok nmX12 hown hK hP hD hS 2 rfl rfl 29 (by decide) (hT _ q_208) (fun _ h9 => h9) rfl (by decide +kernel) rfl rfl (Nat.le_of_ble_eq_true rfl) dX12_walk_106 (fun H locs hP hD hS => ?_)
            have hP : va_P D classes [(a_worth, .inl (cs 0, 4096, .inl a_worth_c)), (a_said, .inl (cs 0, 123, .inl a_said_c)), (a, .inr (12, [.ref a_tape, .int a__taped, .int a__rules, .ref a_sign, .ref a_length, .ref a_clause, .ref a_clauses, .ref a_read, .int a__next, .int a__wrong, .int a__number, .int a__text, .int a__made, .int a__deep, .int a__lines, .ref a_open, .int a__opened, .ref a_stack, .int a__top, .ref a_word, .ref a_said, .int a__x, .ref a_worth, .ref a_mate, .ref a_wasSaid, .int a__undone, .int a__boughtNow, .ref a_wayBy, .ref a_wayThen, .int (-1), .int a__walkGoing, .int a__walkSet, .ref a_kept, .long a__drawX, .ref a_images, .ref a_imageX, .ref a_isMade])), (a_wayBy, .inl (cs 0, 2048, .inl (o71.2 0))), (a_wayThen, .inl (cs 0, 2048, .inl (o71.2 1)))] H := hP
            have hD : va_D A [(a_worth, .inl (cs 0, 4096, .inl a_worth_c)), (a_said, .inl (cs 0, 123, .inl a_said_c)), (a, .inr (12, [.ref a_tape, .int a__taped, .int a__rules, .ref a_sign, .ref a_length, .ref a_clause, .ref a_clauses, .ref a_read, .int a__next, .int a__wrong, .int a__number, .int a__text, .int a__made, .int a__deep, .int a__lines, .ref a_open, .int a__opened, .ref a_stack, .int a__top, .ref a_word, .ref a_said, .int a__x, .ref a_worth, .ref a_mate, .ref a_wasSaid, .int a__undone, .int a__boughtNow, .ref a_wayBy, .ref a_wayThen, .int (-1), .int a__walkGoing, .int a__walkSet, .ref a_kept, .long a__drawX, .ref a_images, .ref a_imageX, .ref a_isMade])), (a_wayBy, .inl (cs 0, 2048, .inl (o71.2 0))), (a_wayThen, .inl (cs 0, 2048, .inl (o71.2 1)))] := hD
            refine lv_aload_n hx hb dX12_walk_109 rfl (lv_at hl 1 rfl) ?_
            refine va_calli (va_runV (As := []) (rest := []) ⟨hx, hb, hml, hown, hT⟩ (c_X12_atStalls l D cs kK kV a a_said a_said_c a_tape a__taped a__rules a_sign a_length a_clause a_clauses a_read a__next a__wrong a__number a__text a__made a__deep a__lines a_open a__opened a_stack a__top a_word a__x a_worth a_mate a_wasSaid a__undone a__boughtNow a_wayBy a_wayThen ((-1)) a__walkGoing a__walkSet a_kept a__drawX a_images a_imageX a_isMade h_a__taped h_a__rules h_a__next h_a__text h_a__made h_a__lines h_a__opened h_a__top h_a__x h_a__undone hf0) (cwV 0 hT (hz_gV q_1207 q_1208 q_1209 q_701 q_1210) rfl rfl rfl (by decide +kernel) ⟨(Nat.le_of_ble_eq_true rfl), (Nat.le_of_ble_eq_true rfl)⟩) ⟨hz_P.blind, va_recv hK hP (ci := 12) (q0 := 2) rfl rfl, hz_P.mk (hP.sub (ws' := [(a_said, .inl (cs 0, 123, .inl a_said_c)), (a, .inr (12, [.ref a_tape, .int a__taped, .int a__rules, .ref a_sign, .ref a_length, .ref a_clause, .ref a_clauses, .ref a_read, .int a__next, .int a__wrong, .int a__number, .int a__text, .int a__made, .int a__deep, .int a__lines, .ref a_open, .int a__opened, .ref a_stack, .int a__top, .ref a_word, .ref a_said, .int a__x, .ref a_worth, .ref a_mate, .ref a_wasSaid, .int a__undone, .int a__boughtNow, .ref a_wayBy, .ref a_wayThen, .int (-1), .int a__walkGoing, .int a__walkSet, .ref a_kept, .long a__drawX, .ref a_images, .ref a_imageX, .ref a_isMade]))]) [1,2] rfl) hE hS⟩ rfl rfl hl.1 rfl (lv_room (Nat.le_of_ble_eq_true rfl)) dX12_walk_110 ⟨(Nat.le_of_ble_eq_true rfl), (Nat.le_of_ble_eq_true rfl)⟩) hS (fun _ _ h => h.elim) (fun _ h => h.elim) (fun r72 u t H1 locs ht hvm hw hB hz1 hk1 hS => ?_)
            have hP := hz_keep hP hk1
            clear hk1 hB hz1
            generalize H1 = H at hP hS ⊢
            have hw_r72 := hw
            refine lv_istore (lv' := [(4, .int r72), (3, .int v63), (0, .ref a), (1, .int p0), (2, .int p1)]) hx hb dX12_walk_113 hl (by decide) rfl (fun ls hl => ?_)
            refine lv_iconst (v := 0) hx hb dX12_walk_115 (by decide) ?_
            refine lv_istore (lv' := [(5, .int 0), (4, .int r72), (3, .int v63), (0, .ref a), (1, .int p0), (2, .int p1)]) hx hb dX12_walk_116 hl (by decide) rfl (fun ls hl => ?_)
            exact K118 _ ((0 : Int32)) r72 v63 (((-1) : Int32)) a__walkGoing a__walkSet (o71.2 0) (o71.2 1) (Nat.le_refl _) h66 hw_r72 (iv_c (by decide)) h43 h55 H locs (hP.sub (ws' := [(a_worth, .inl (cs 0, 4096, .inl a_worth_c)), (a_said, .inl (cs 0, 123, .inl a_said_c)), (a, .inr (12, [.ref a_tape, .int a__taped, .int a__rules, .ref a_sign, .ref a_length, .ref a_clause, .ref a_clauses, .ref a_read, .int a__next, .int a__wrong, .int a__number, .int a__text, .int a__made, .int a__deep, .int a__lines, .ref a_open, .int a__opened, .ref a_stack, .int a__top, .ref a_word, .ref a_said, .int a__x, .ref a_worth, .ref a_mate, .ref a_wasSaid, .int a__undone, .int a__boughtNow, .ref a_wayBy, .ref a_wayThen, .int (-1), .int a__walkGoing, .int a__walkSet, .ref a_kept, .long a__drawX, .ref a_images, .ref a_imageX, .ref a_isMade])), (a_wayBy, .inl (cs 0, 2048, .inl (o71.2 0))), (a_wayThen, .inl (cs 0, 2048, .inl (o71.2 1)))]) [0, 1, 2, 3, 4] rfl) (hD.sub (ws' := [(a_worth, .inl (cs 0, 4096, .inl a_worth_c)), (a_said, .inl (cs 0, 123, .inl a_said_c)), (a, .inr (12, [.ref a_tape, .int a__taped, .int a__rules, .ref a_sign, .ref a_length, .ref a_clause, .ref a_clauses, .ref a_read, .int a__next, .int a__wrong, .int a__number, .int a__text, .int a__made, .int a__deep, .int a__lines, .ref a_open, .int a__opened, .ref a_stack, .int a__top, .ref a_word, .ref a_said, .int a__x, .ref a_worth, .ref a_mate, .ref a_wasSaid, .int a__undone, .int a__boughtNow, .ref a_wayBy, .ref a_wayThen, .int (-1), .int a__walkGoing, .int a__walkSet, .ref a_kept, .long a__drawX, .ref a_images, .ref a_imageX, .ref a_isMade])), (a_wayBy, .inl (cs 0, 2048, .inl (o71.2 0))), (a_wayThen, .inl (cs 0, 2048, .inl (o71.2 1)))]) [0, 1, 2, 3, 4] (by decide) rfl) hS ls (lv_sub hl [0, 1, 2, 3, 4, 5] rfl)
          · have t73 : v63.toInt = 0 := lin_eqN c68 rfl (by decide)
            have h74 : IV 0 0 v63 := iv_eq1 c68 h66 (iv_c (a := 0) (b := 0) (by decide)) (by decide) (by decide)
            have ii75 : 0 ≤ v63.toInt ∧ v63.toInt ≤ 0 := h74
            refine lv_iload_n hx hb dX12_walk_62 rfl (lv_at hl 3 rfl) ?_
            refine lv_if_ne (tgt := 86) hx hb dX12_walk_63 (by decide) (fun c76 => ?_) (fun c76 => ?_)
            · have t77 : p1.toInt ≠ 0 := lin_ne c76 rfl (by decide)
              have h78 : IV 1 2 p1 := iv_neL c76 h55 (by decide)
              have ii79 : 1 ≤ p1.toInt ∧ p1.toInt ≤ 2 := h78
              refine lv_iload_n hx hb dX12_walk_86 rfl (lv_at hl 3 rfl) ?_
              refine lv_iconst (v := 1) hx hb dX12_walk_87 (by decide) ?_
              refine lv_icmp_ne (tgt := 96) hx hb dX12_walk_88 (by decide) (fun c80 => ?_) (fun c80 => ?_)
              · have t81 : p1.toInt ≠ 1 := lin_ne c80 rfl (by decide)
                have h82 : IV 2 2 p1 := iv_neL c80 h78 (by decide)
                have ii83 : 2 ≤ p1.toInt ∧ p1.toInt ≤ 2 := h82
                refine lv_iconst (v := 0) hx hb dX12_walk_96 (by decide) ?_
                refine W.widen (k := 0) (n := 0) (Nat.le_of_ble_eq_true rfl) (Nat.le_of_ble_eq_true rfl) ?_
                exact W.iret (v := 0) hx hb hr (fun t ht hW => ⟨⟨0, (fun k => match k with | 0 => 0 | 1 => a__walkMost | 2 => a__walkGoing | 3 => a__walkSet | _ => 0, fun k => match k with | 0 => a_wayBy_c | 1 => a_wayThen_c | _ => fun _ => 0), rfl, ((iv_w h43 (by decide) (by decide))), by rw [ht]; exact hP.sub [0, 1, 2, 3, 4] rfl, hD.sub [0, 1, 2, 3, 4] (by decide) rfl⟩, hS.F ht⟩) hS.2.2 dX12_walk_97
              · have t84 : p1.toInt = 1 := lin_eqN c80 rfl (by decide)
                have h85 : IV 1 1 p1 := iv_eq1 c80 h78 (iv_c (a := 1) (b := 1) (by decide)) (by decide) (by decide)
                have ii86 : 1 ≤ p1.toInt ∧ p1.toInt ≤ 1 := h85
                refine lv_bipush (v := (-2)) hx hb dX12_walk_91 (by decide) ?_
                refine lv_goto (tgt := 97) hx hb dX12_walk_93 (by decide) ?_
                refine W.widen (k := 0) (n := 0) (Nat.le_of_ble_eq_true rfl) (Nat.le_of_ble_eq_true rfl) ?_
                exact W.iret (v := (-2)) hx hb hr (fun t ht hW => ⟨⟨(-2), (fun k => match k with | 0 => 0 | 1 => a__walkMost | 2 => a__walkGoing | 3 => a__walkSet | _ => 0, fun k => match k with | 0 => a_wayBy_c | 1 => a_wayThen_c | _ => fun _ => 0), rfl, ((iv_w h43 (by decide) (by decide))), by rw [ht]; exact hP.sub [0, 1, 2, 3, 4] rfl, hD.sub [0, 1, 2, 3, 4] (by decide) rfl⟩, hS.F ht⟩) hS.2.2 dX12_walk_97
            · have t87 : p1.toInt = 0 := lin_eqN c76 rfl (by decide)
              have h88 : IV 0 0 p1 := iv_eq1 c76 h55 (iv_c (a := 0) (b := 0) (by decide)) (by decide) (by decide)
              have ii89 : 0 ≤ p1.toInt ∧ p1.toInt ≤ 0 := h88
              refine lv_aload_n hx hb dX12_walk_66 rfl (lv_at hl 1 rfl) ?_
              refine va_get (D := D) (ci := 12) (v := .ref a_worth) (C := RX12) (T := TX12) (N := 37) hx hb hT i_X12 hown hK hP 1 rfl rfl 22 (by decide) (hT _ q_186) (fun _ h9 => h9) rfl dX12_walk_67 ?_
              refine lv_aload_n hx hb dX12_walk_70 rfl (lv_at hl 1 rfl) ?_
              refine lv_iload_n hx hb dX12_walk_71 rfl (lv_at hl 2 rfl) ?_
              refine va_calli (va_runV (As := [.int p0]) (rest := [.ref a_worth]) ⟨hx, hb, hml, hown, hT⟩ (c_X12_hasOf l D cs kK kV a p0 a_said a_said_c a_tape a__taped a__rules a_sign a_length a_clause a_clauses a_read a__next a__wrong a__number a__text a__made a__deep a__lines a_open a__opened a_stack a__top a_word a__x a_worth a_mate a_wasSaid a__undone a__boughtNow a_wayBy a_wayThen a__walkMost a__walkGoing a__walkSet a_kept a__drawX a_images a_imageX a_isMade h_a__taped h_a__rules h_a__next h_a__text h_a__made h_a__lines h_a__opened h_a__top h_a__x h_a__undone hf0) (cwV 1 hT (hz_gV q_1160 q_1161 q_1162 q_701 q_1163) rfl rfl rfl (by decide +kernel) ⟨(Nat.le_of_ble_eq_true rfl), (Nat.le_of_ble_eq_true rfl)⟩) ⟨hz_P.blind, va_recv hK hP (ci := 12) (q0 := 1) rfl rfl, hz_P.mk (hP.sub (ws' := [(a_said, .inl (cs 0, 123, .inl a_said_c)), (a, .inr (12, [.ref a_tape, .int a__taped, .int a__rules, .ref a_sign, .ref a_length, .ref a_clause, .ref a_clauses, .ref a_read, .int a__next, .int a__wrong, .int a__number, .int a__text, .int a__made, .int a__deep, .int a__lines, .ref a_open, .int a__opened, .ref a_stack, .int a__top, .ref a_word, .ref a_said, .int a__x, .ref a_worth, .ref a_mate, .ref a_wasSaid, .int a__undone, .int a__boughtNow, .ref a_wayBy, .ref a_wayThen, .int a__walkMost, .int a__walkGoing, .int a__walkSet, .ref a_kept, .long a__drawX, .ref a_images, .ref a_imageX, .ref a_isMade]))]) [0,1] rfl) hE hS⟩ rfl rfl hl.1 rfl (lv_room (Nat.le_of_ble_eq_true rfl)) dX12_walk_72 ⟨(Nat.le_of_ble_eq_true rfl), (Nat.le_of_ble_eq_true rfl)⟩) hS (fun _ _ h => h.elim) (fun _ h => h.elim) (fun r90 u t H1 locs ht hvm hw hB hz1 hk1 hS => ?_)
              have hP := hz_keep hP hk1
              clear hk1 hB hz1
              generalize H1 = H at hP hS ⊢
              have hw_r90 := hw
              refine va_iald hx hb hK hP 4 0 rfl rfl (iv_v hw_r90 (by decide) (by decide)) dX12_walk_75 ?_
              refine lv_topi (fun v91 ev91 => ?_)
              have lv91 : v91.toInt = (a_worth_c (Int32.toNatClampNeg r90)).toInt := by rw [ev91]
              refine lv_aload_n hx hb dX12_walk_76 rfl (lv_at hl 1 rfl) ?_
              refine lv_iload_n hx hb dX12_walk_77 rfl (lv_at hl 2 rfl) ?_
              refine lv_iconst (v := 0) hx hb dX12_walk_78 (by decide) ?_
              refine va_calli (va_runV (As := [.int p0, .int 0]) (rest := [.int v91]) ⟨hx, hb, hml, hown, hT⟩ (c_X12_buyerOf l D cs kK kV a p0 0 a_said a_said_c a_tape a__taped a__rules a_sign a_length a_clause a_clauses a_read a__next a__wrong a__number a__text a__made a__deep a__lines a_open a__opened a_stack a__top a_word a__x a_worth a_mate a_wasSaid a__undone a__boughtNow a_wayBy a_wayThen a__walkMost a__walkGoing a__walkSet a_kept a__drawX a_images a_imageX a_isMade h43 ((iv_c (by decide))) h_a__taped h_a__rules h_a__next h_a__text h_a__made h_a__lines h_a__opened h_a__top h_a__x h_a__undone hf0) (cwV 2 hT (hz_gV q_1120 q_1121 q_1122 q_701 q_1123) rfl rfl rfl (by decide +kernel) ⟨(Nat.le_of_ble_eq_true rfl), (Nat.le_of_ble_eq_true rfl)⟩) ⟨hz_P.blind, va_recv hK hP (ci := 12) (q0 := 1) rfl rfl, hz_P.mk (hP.sub (ws' := [(a_said, .inl (cs 0, 123, .inl a_said_c)), (a, .inr (12, [.ref a_tape, .int a__taped, .int a__rules, .ref a_sign, .ref a_length, .ref a_clause, .ref a_clauses, .ref a_read, .int a__next, .int a__wrong, .int a__number, .int a__text, .int a__made, .int a__deep, .int a__lines, .ref a_open, .int a__opened, .ref a_stack, .int a__top, .ref a_word, .ref a_said, .int a__x, .ref a_worth, .ref a_mate, .ref a_wasSaid, .int a__undone, .int a__boughtNow, .ref a_wayBy, .ref a_wayThen, .int a__walkMost, .int a__walkGoing, .int a__walkSet, .ref a_kept, .long a__drawX, .ref a_images, .ref a_imageX, .ref a_isMade]))]) [0,1] rfl) hE hS⟩ rfl rfl hl.1 rfl (lv_room (Nat.le_of_ble_eq_true rfl)) dX12_walk_79 ⟨(Nat.le_of_ble_eq_true rfl), (Nat.le_of_ble_eq_true rfl)⟩) hS (fun _ _ h => h.elim) (fun _ h => h.elim) (fun r92 u t H1 locs ht hvm hw hB hz1 hk1 hS => ?_)
              have hP := hz_keep hP hk1
              clear hk1 hB hz1
              generalize H1 = H at hP hS ⊢
              rcases hw with ⟨x93, x94⟩
              refine lv_iadd hx hb dX12_walk_82 ?_
              refine lv_topi (fun v95 ev95 => ?_)
              refine lv_goto (tgt := 97) hx hb dX12_walk_83 (by decide) ?_
              refine W.widen (k := 0) (n := 0) (Nat.le_of_ble_eq_true rfl) (Nat.le_of_ble_eq_true rfl) ?_
              exact W.iret (v := v95) hx hb hr (fun t ht hW => ⟨⟨v95, (fun k => match k with | 0 => 0 | 1 => a__walkMost | 2 => a__walkGoing | 3 => a__walkSet | _ => 0, fun k => match k with | 0 => a_wayBy_c | 1 => a_wayThen_c | _ => fun _ => 0), rfl, ((iv_w h43 (by decide) (by decide))), by rw [ht]; exact hP.sub [0, 1, 2, 3, 4] rfl, hD.sub [0, 1, 2, 3, 4] (by decide) rfl⟩, hS.F ht⟩) hS.2.2 dX12_walk_97
        · have t96 : v63.toInt > 12 := lin_leN c64 rfl (by decide)
          have h97 : IV 13 2147483647 v63 := iv_lt2 (Int32.not_le.mp c64) (iv_c (a := 12) (b := 12) (by decide)) iv_top (by decide)
          have ii98 : 13 ≤ v63.toInt ∧ v63.toInt ≤ 2147483647 := h97
          refine lv_bipush (v := (-4)) hx hb dX12_walk_55 (by decide) ?_
          refine W.widen (k := 0) (n := 0) (Nat.le_of_ble_eq_true rfl) (Nat.le_of_ble_eq_true rfl) ?_
          exact W.iret (v := (-4)) hx hb hr (fun t ht hW => ⟨⟨(-4), (fun k => match k with | 0 => 0 | 1 => a__walkMost | 2 => a__walkGoing | 3 => a__walkSet | _ => 0, fun k => match k with | 0 => a_wayBy_c | 1 => a_wayThen_c | _ => fun _ => 0), rfl, ((iv_w h43 (by decide) (by decide))), by rw [ht]; exact hP.sub [0, 1, 2, 3, 4] rfl, hD.sub [0, 1, 2, 3, 4] (by decide) rfl⟩, hS.F ht⟩) hS.2.2 dX12_walk_57
      · refine lv_if_eq (tgt := 34) hx hb dX12_walk_27 (by decide) (fun z => absurd z (by decide)) (fun _ => ?_)
        refine lv_iconst (v := 0) hx hb dX12_walk_30 (by decide) ?_
        refine lv_goto (tgt := 48) hx hb dX12_walk_31 (by decide) ?_
        refine lv_istore_n (lv' := [(3, .int 0), (0, .ref a), (1, .int p0), (2, .int p1)]) hx hb dX12_walk_48 rfl hl (by decide) rfl (fun ls hl => ?_)
        refine lv_iload_n hx hb dX12_walk_49 rfl (lv_at hl 0 rfl) ?_
        refine lv_bipush (v := 12) hx hb dX12_walk_50 (by decide) ?_
        refine lv_icmp_le (tgt := 58) hx hb dX12_walk_52 (by decide) (fun _ => ?_) (fun z => absurd (by decide) z)
        refine lv_iload_n hx hb dX12_walk_58 rfl (lv_at hl 0 rfl) ?_
        refine lv_if_ne (tgt := 98) hx hb dX12_walk_59 (by decide) (fun z => absurd (by decide) z) (fun _ => ?_)
        refine lv_iload_n hx hb dX12_walk_62 rfl (lv_at hl 3 rfl) ?_
        refine lv_if_ne (tgt := 86) hx hb dX12_walk_63 (by decide) (fun c99 => ?_) (fun c99 => ?_)
        · have t100 : p1.toInt ≠ 0 := lin_ne c99 rfl (by decide)
          have h101 : IV 1 2 p1 := iv_neL c99 h55 (by decide)
          have ii102 : 1 ≤ p1.toInt ∧ p1.toInt ≤ 2 := h101
          refine lv_iload_n hx hb dX12_walk_86 rfl (lv_at hl 3 rfl) ?_
          refine lv_iconst (v := 1) hx hb dX12_walk_87 (by decide) ?_
          refine lv_icmp_ne (tgt := 96) hx hb dX12_walk_88 (by decide) (fun c103 => ?_) (fun c103 => ?_)
          · have t104 : p1.toInt ≠ 1 := lin_ne c103 rfl (by decide)
            have h105 : IV 2 2 p1 := iv_neL c103 h101 (by decide)
            have ii106 : 2 ≤ p1.toInt ∧ p1.toInt ≤ 2 := h105
            refine lv_iconst (v := 0) hx hb dX12_walk_96 (by decide) ?_
            refine W.widen (k := 0) (n := 0) (Nat.le_of_ble_eq_true rfl) (Nat.le_of_ble_eq_true rfl) ?_
            exact W.iret (v := 0) hx hb hr (fun t ht hW => ⟨⟨0, (fun k => match k with | 0 => 0 | 1 => a__walkMost | 2 => a__walkGoing | 3 => a__walkSet | _ => 0, fun k => match k with | 0 => a_wayBy_c | 1 => a_wayThen_c | _ => fun _ => 0), rfl, ((iv_w h43 (by decide) (by decide))), by rw [ht]; exact hP.sub [0, 1, 2, 3, 4] rfl, hD.sub [0, 1, 2, 3, 4] (by decide) rfl⟩, hS.F ht⟩) hS.2.2 dX12_walk_97
          · have t107 : p1.toInt = 1 := lin_eqN c103 rfl (by decide)
            have h108 : IV 1 1 p1 := iv_eq1 c103 h101 (iv_c (a := 1) (b := 1) (by decide)) (by decide) (by decide)
            have ii109 : 1 ≤ p1.toInt ∧ p1.toInt ≤ 1 := h108
            refine lv_bipush (v := (-2)) hx hb dX12_walk_91 (by decide) ?_
            refine lv_goto (tgt := 97) hx hb dX12_walk_93 (by decide) ?_
            refine W.widen (k := 0) (n := 0) (Nat.le_of_ble_eq_true rfl) (Nat.le_of_ble_eq_true rfl) ?_
            exact W.iret (v := (-2)) hx hb hr (fun t ht hW => ⟨⟨(-2), (fun k => match k with | 0 => 0 | 1 => a__walkMost | 2 => a__walkGoing | 3 => a__walkSet | _ => 0, fun k => match k with | 0 => a_wayBy_c | 1 => a_wayThen_c | _ => fun _ => 0), rfl, ((iv_w h43 (by decide) (by decide))), by rw [ht]; exact hP.sub [0, 1, 2, 3, 4] rfl, hD.sub [0, 1, 2, 3, 4] (by decide) rfl⟩, hS.F ht⟩) hS.2.2 dX12_walk_97
        · have t110 : p1.toInt = 0 := lin_eqN c99 rfl (by decide)
          have h111 : IV 0 0 p1 := iv_eq1 c99 h55 (iv_c (a := 0) (b := 0) (by decide)) (by decide) (by decide)
          have ii112 : 0 ≤ p1.toInt ∧ p1.toInt ≤ 0 := h111
          refine lv_aload_n hx hb dX12_walk_66 rfl (lv_at hl 1 rfl) ?_
          refine va_get (D := D) (ci := 12) (v := .ref a_worth) (C := RX12) (T := TX12) (N := 37) hx hb hT i_X12 hown hK hP 1 rfl rfl 22 (by decide) (hT _ q_186) (fun _ h9 => h9) rfl dX12_walk_67 ?_
          refine lv_aload_n hx hb dX12_walk_70 rfl (lv_at hl 1 rfl) ?_
          refine lv_iload_n hx hb dX12_walk_71 rfl (lv_at hl 2 rfl) ?_
          refine va_calli (va_runV (As := [.int p0]) (rest := [.ref a_worth]) ⟨hx, hb, hml, hown, hT⟩ (c_X12_hasOf l D cs kK kV a p0 a_said a_said_c a_tape a__taped a__rules a_sign a_length a_clause a_clauses a_read a__next a__wrong a__number a__text a__made a__deep a__lines a_open a__opened a_stack a__top a_word a__x a_worth a_mate a_wasSaid a__undone a__boughtNow a_wayBy a_wayThen a__walkMost a__walkGoing a__walkSet a_kept a__drawX a_images a_imageX a_isMade h_a__taped h_a__rules h_a__next h_a__text h_a__made h_a__lines h_a__opened h_a__top h_a__x h_a__undone hf0) (cwV 1 hT (hz_gV q_1160 q_1161 q_1162 q_701 q_1163) rfl rfl rfl (by decide +kernel) ⟨(Nat.le_of_ble_eq_true rfl), (Nat.le_of_ble_eq_true rfl)⟩) ⟨hz_P.blind, va_recv hK hP (ci := 12) (q0 := 1) rfl rfl, hz_P.mk (hP.sub (ws' := [(a_said, .inl (cs 0, 123, .inl a_said_c)), (a, .inr (12, [.ref a_tape, .int a__taped, .int a__rules, .ref a_sign, .ref a_length, .ref a_clause, .ref a_clauses, .ref a_read, .int a__next, .int a__wrong, .int a__number, .int a__text, .int a__made, .int a__deep, .int a__lines, .ref a_open, .int a__opened, .ref a_stack, .int a__top, .ref a_word, .ref a_said, .int a__x, .ref a_worth, .ref a_mate, .ref a_wasSaid, .int a__undone, .int a__boughtNow, .ref a_wayBy, .ref a_wayThen, .int a__walkMost, .int a__walkGoing, .int a__walkSet, .ref a_kept, .long a__drawX, .ref a_images, .ref a_imageX, .ref a_isMade]))]) [0,1] rfl) hE hS⟩ rfl rfl hl.1 rfl (lv_room (Nat.le_of_ble_eq_true rfl)) dX12_walk_72 ⟨(Nat.le_of_ble_eq_true rfl), (Nat.le_of_ble_eq_true rfl)⟩) hS (fun _ _ h => h.elim) (fun _ h => h.elim) (fun r113 u t H1 locs ht hvm hw hB hz1 hk1 hS => ?_)
          have hP := hz_keep hP hk1
          clear hk1 hB hz1
          generalize H1 = H at hP hS ⊢
          have hw_r113 := hw
          refine va_iald hx hb hK hP 4 0 rfl rfl (iv_v hw_r113 (by decide) (by decide)) dX12_walk_75 ?_
          refine lv_topi (fun v114 ev114 => ?_)
          have lv114 : v114.toInt = (a_worth_c (Int32.toNatClampNeg r113)).toInt := by rw [ev114]
          refine lv_aload_n hx hb dX12_walk_76 rfl (lv_at hl 1 rfl) ?_
          refine lv_iload_n hx hb dX12_walk_77 rfl (lv_at hl 2 rfl) ?_
          refine lv_iconst (v := 0) hx hb dX12_walk_78 (by decide) ?_
          refine va_calli (va_runV (As := [.int p0, .int 0]) (rest := [.int v114]) ⟨hx, hb, hml, hown, hT⟩ (c_X12_buyerOf l D cs kK kV a p0 0 a_said a_said_c a_tape a__taped a__rules a_sign a_length a_clause a_clauses a_read a__next a__wrong a__number a__text a__made a__deep a__lines a_open a__opened a_stack a__top a_word a__x a_worth a_mate a_wasSaid a__undone a__boughtNow a_wayBy a_wayThen a__walkMost a__walkGoing a__walkSet a_kept a__drawX a_images a_imageX a_isMade h43 ((iv_c (by decide))) h_a__taped h_a__rules h_a__next h_a__text h_a__made h_a__lines h_a__opened h_a__top h_a__x h_a__undone hf0) (cwV 2 hT (hz_gV q_1120 q_1121 q_1122 q_701 q_1123) rfl rfl rfl (by decide +kernel) ⟨(Nat.le_of_ble_eq_true rfl), (Nat.le_of_ble_eq_true rfl)⟩) ⟨hz_P.blind, va_recv hK hP (ci := 12) (q0 := 1) rfl rfl, hz_P.mk (hP.sub (ws' := [(a_said, .inl (cs 0, 123, .inl a_said_c)), (a, .inr (12, [.ref a_tape, .int a__taped, .int a__rules, .ref a_sign, .ref a_length, .ref a_clause, .ref a_clauses, .ref a_read, .int a__next, .int a__wrong, .int a__number, .int a__text, .int a__made, .int a__deep, .int a__lines, .ref a_open, .int a__opened, .ref a_stack, .int a__top, .ref a_word, .ref a_said, .int a__x, .ref a_worth, .ref a_mate, .ref a_wasSaid, .int a__undone, .int a__boughtNow, .ref a_wayBy, .ref a_wayThen, .int a__walkMost, .int a__walkGoing, .int a__walkSet, .ref a_kept, .long a__drawX, .ref a_images, .ref a_imageX, .ref a_isMade]))]) [0,1] rfl) hE hS⟩ rfl rfl hl.1 rfl (lv_room (Nat.le_of_ble_eq_true rfl)) dX12_walk_79 ⟨(Nat.le_of_ble_eq_true rfl), (Nat.le_of_ble_eq_true rfl)⟩) hS (fun _ _ h => h.elim) (fun _ h => h.elim) (fun r115 u t H1 locs ht hvm hw hB hz1 hk1 hS => ?_)
          have hP := hz_keep hP hk1
          clear hk1 hB hz1
          generalize H1 = H at hP hS ⊢
          rcases hw with ⟨x116, x117⟩
          refine lv_iadd hx hb dX12_walk_82 ?_
          refine lv_topi (fun v118 ev118 => ?_)
          refine lv_goto (tgt := 97) hx hb dX12_walk_83 (by decide) ?_
          refine W.widen (k := 0) (n := 0) (Nat.le_of_ble_eq_true rfl) (Nat.le_of_ble_eq_true rfl) ?_
          exact W.iret (v := v118) hx hb hr (fun t ht hW => ⟨⟨v118, (fun k => match k with | 0 => 0 | 1 => a__walkMost | 2 => a__walkGoing | 3 => a__walkSet | _ => 0, fun k => match k with | 0 => a_wayBy_c | 1 => a_wayThen_c | _ => fun _ => 0), rfl, ((iv_w h43 (by decide) (by decide))), by rw [ht]; exact hP.sub [0, 1, 2, 3, 4] rfl, hD.sub [0, 1, 2, 3, 4] (by decide) rfl⟩, hS.F ht⟩) hS.2.2 dX12_walk_97
theorem dX12_unseen_0 : decode cX12_unseen 0 = .ok (.aload_n 0, 1) := by decide +kernel
theorem dX12_unseen_1 : decode cX12_unseen 1 = .ok (.invokevirtual 387, 3) := by decide +kernel
theorem dX12_unseen_4 : decode cX12_unseen 4 = .ok (.aload_n 0, 1) := by decide +kernel
theorem dX12_unseen_5 : decode cX12_unseen 5 = .ok (.iload_n 1, 1) := by decide +kernel
theorem dX12_unseen_6 : decode cX12_unseen 6 = .ok (.invokevirtual 349, 3) := by decide +kernel
theorem dX12_unseen_9 : decode cX12_unseen 9 = .ok (.iconst (-1), 1) := by decide +kernel
theorem dX12_unseen_10 : decode cX12_unseen 10 = .ok (.ixor, 1) := by decide +kernel
theorem dX12_unseen_11 : decode cX12_unseen 11 = .ok (.iand, 1) := by decide +kernel
theorem dX12_unseen_12 : decode cX12_unseen 12 = .ok (.ireturn, 1) := by decide +kernel
set_option maxHeartbeats 4000000 in
set_option maxRecDepth 100000 in
theorem c_X12_unseen (l : Launch) (D : va_G) (cs : Nat → ClassId) (kK kV : Nat → Nat) (a : Nat) (p0 : Int32) (a_said : Nat) (a_said_c : Nat → Int32) (a_tape : Nat) (a__taped : Int32) (a__rules : Int32) (a_sign : Nat) (a_length : Nat) (a_clause : Nat) (a_clauses : Nat) (a_read : Nat) (a__next : Int32) (a__wrong : Int32) (a__number : Int32) (a__text : Int32) (a__made : Int32) (a__deep : Int32) (a__lines : Int32) (a_open : Nat) (a__opened : Int32) (a_stack : Nat) (a__top : Int32) (a_word : Nat) (a__x : Int32) (a_worth : Nat) (a_mate : Nat) (a_wasSaid : Nat) (a__undone : Int32) (a__boughtNow : Int32) (a_wayBy : Nat) (a_wayThen : Nat) (a__walkMost : Int32) (a__walkGoing : Int32) (a__walkSet : Int32) (a_kept : Nat) (a__drawX : Int64) (a_images : Nat) (a_imageX : Nat) (a_isMade : Nat) (h_p0 : IV 0 3 p0) (h_a__taped : IV 0 400 a__taped) (h_a__rules : IV 0 6 a__rules) (h_a__next : IV 0 400 a__next) (h_a__text : IV 0 6 a__text) (h_a__made : IV 0 60 a__made) (h_a__lines : IV 0 40 a__lines) (h_a__opened : IV 0 400 a__opened) (h_a__top : IV 0 64 a__top) (h_a__x : IV 0 2147483647 a__x) (h_a__undone : IV 0 20 a__undone) (hf0 : BS a_said_c 200) : Met l yX12_unseen (hz_w yX12_unseen cX12_unseen 2 (some .int)) ({ frames := 2, cells := 0, slots := 0, locals := 45 }) (va_Pc [.ref a, .int p0] (hz_P D cs kK kV [(a_said, .inl (cs 0, 123, .inl a_said_c)), (a, .inr (12, [.ref a_tape, .int a__taped, .int a__rules, .ref a_sign, .ref a_length, .ref a_clause, .ref a_clauses, .ref a_read, .int a__next, .int a__wrong, .int a__number, .int a__text, .int a__made, .int a__deep, .int a__lines, .ref a_open, .int a__opened, .ref a_stack, .int a__top, .ref a_word, .ref a_said, .int a__x, .ref a_worth, .ref a_mate, .ref a_wasSaid, .int a__undone, .int a__boughtNow, .ref a_wayBy, .ref a_wayThen, .int a__walkMost, .int a__walkGoing, .int a__walkSet, .ref a_kept, .long a__drawX, .ref a_images, .ref a_imageX, .ref a_isMade]))])) (va_Qi (fun (r : Int32) (_ : Unit) => IV 0 4095 r) (fun _ t => True) (fun _ => False)) 0 0 (fun _ => False) := by
  refine Met.ofW (cc := cX12_unseen) (maxL := 2) (ret := (some .int)) (by decide) rfl ?_
  intro p e s m args below meth c s₁ B hml hv
  obtain ⟨rfl, hP, hE⟩ := hv
  have hx := B.exec
  have hb := B.bytes
  have hr := B.returns
  have hT : ∀ w ∈ TB, w.before _ s = true := fun w h => atoms_spec (ws := hz_w yX12_unseen cX12_unseen 2 (some .int)) B.pre w (List.mem_cons_of_mem _ h)
  have hown : s.vm.findClass RX12 = some m.cls := findClass_of_methodNamed B.named
  have hlocks := B.notSynchronized
  clear B
  have hS : va_S (fun _ => False) s.heap s.heap [] := va_S.rf
  have hK := hE.1
  have hl := lv_entry ([.ref a, .int p0]) (n := 2) (Nat.le_of_ble_eq_true rfl)
  rw [lg_entry_eq]
  generalize (lg_sl ([.ref a, .int p0]) ++ List.replicate (2 - (lg_sl ([.ref a, .int p0])).length) Slot.unset).toArray = ls at hl ⊢
  have hl : lv_has ls 2 [(0, .ref a), (1, .int p0)] := hl
  obtain ⟨H, eH⟩ : ∃ z, z = s.heap := ⟨_, rfl⟩
  have hP : va_P D classes [(a_said, .inl (cs 0, 123, .inl a_said_c)), (a, .inr (12, [.ref a_tape, .int a__taped, .int a__rules, .ref a_sign, .ref a_length, .ref a_clause, .ref a_clauses, .ref a_read, .int a__next, .int a__wrong, .int a__number, .int a__text, .int a__made, .int a__deep, .int a__lines, .ref a_open, .int a__opened, .ref a_stack, .int a__top, .ref a_word, .ref a_said, .int a__x, .ref a_worth, .ref a_mate, .ref a_wasSaid, .int a__undone, .int a__boughtNow, .ref a_wayBy, .ref a_wayThen, .int a__walkMost, .int a__walkGoing, .int a__walkSet, .ref a_kept, .long a__drawX, .ref a_images, .ref a_imageX, .ref a_isMade]))] H := by rw [eH]; exact hP
  have hS : va_S (fun _ => False) s.heap H [] := by rw [eH]; exact hS
  rw [← eH]
  clear eH
  obtain ⟨locs, el⟩ : ∃ z : List Loc, z = [] := ⟨_, rfl⟩
  rw [← el] at hS ⊢
  clear el
  have z0 : (0 : Int32).toInt = 0 := by decide
  have z1 : (1 : Int32).toInt = 1 := by decide
  have zm1 : (-1 : Int32).toInt = -1 := by decide
  have i_a__lines : 0 ≤ a__lines.toInt ∧ a__lines.toInt ≤ 40 := h_a__lines
  have i_a__made : 0 ≤ a__made.toInt ∧ a__made.toInt ≤ 60 := h_a__made
  have i_a__next : 0 ≤ a__next.toInt ∧ a__next.toInt ≤ 400 := h_a__next
  have i_a__opened : 0 ≤ a__opened.toInt ∧ a__opened.toInt ≤ 400 := h_a__opened
  have i_a__rules : 0 ≤ a__rules.toInt ∧ a__rules.toInt ≤ 6 := h_a__rules
  have i_a__taped : 0 ≤ a__taped.toInt ∧ a__taped.toInt ≤ 400 := h_a__taped
  have i_a__text : 0 ≤ a__text.toInt ∧ a__text.toInt ≤ 6 := h_a__text
  have i_a__top : 0 ≤ a__top.toInt ∧ a__top.toInt ≤ 64 := h_a__top
  have i_a__undone : 0 ≤ a__undone.toInt ∧ a__undone.toInt ≤ 20 := h_a__undone
  have i_a__x : 0 ≤ a__x.toInt ∧ a__x.toInt ≤ 2147483647 := h_a__x
  have i_p0 : 0 ≤ p0.toInt ∧ p0.toInt ≤ 3 := h_p0
  refine lv_aload_n hx hb dX12_unseen_0 rfl (lv_at hl 0 rfl) ?_
  refine va_calli (va_runV (As := []) (rest := []) ⟨hx, hb, hml, hown, hT⟩ (c_X12_atStalls l D cs kK kV a a_said a_said_c a_tape a__taped a__rules a_sign a_length a_clause a_clauses a_read a__next a__wrong a__number a__text a__made a__deep a__lines a_open a__opened a_stack a__top a_word a__x a_worth a_mate a_wasSaid a__undone a__boughtNow a_wayBy a_wayThen a__walkMost a__walkGoing a__walkSet a_kept a__drawX a_images a_imageX a_isMade h_a__taped h_a__rules h_a__next h_a__text h_a__made h_a__lines h_a__opened h_a__top h_a__x h_a__undone hf0) (cwV 0 hT (hz_gV q_1207 q_1208 q_1209 q_701 q_1210) rfl rfl rfl (by decide +kernel) ⟨(Nat.le_of_ble_eq_true rfl), (Nat.le_of_ble_eq_true rfl)⟩) ⟨hz_P.blind, va_recv hK hP (ci := 12) (q0 := 1) rfl rfl, hz_P.mk (hP.sub (ws' := [(a_said, .inl (cs 0, 123, .inl a_said_c)), (a, .inr (12, [.ref a_tape, .int a__taped, .int a__rules, .ref a_sign, .ref a_length, .ref a_clause, .ref a_clauses, .ref a_read, .int a__next, .int a__wrong, .int a__number, .int a__text, .int a__made, .int a__deep, .int a__lines, .ref a_open, .int a__opened, .ref a_stack, .int a__top, .ref a_word, .ref a_said, .int a__x, .ref a_worth, .ref a_mate, .ref a_wasSaid, .int a__undone, .int a__boughtNow, .ref a_wayBy, .ref a_wayThen, .int a__walkMost, .int a__walkGoing, .int a__walkSet, .ref a_kept, .long a__drawX, .ref a_images, .ref a_imageX, .ref a_isMade]))]) [0,1] rfl) hE hS⟩ rfl rfl hl.1 rfl (lv_room (Nat.le_of_ble_eq_true rfl)) dX12_unseen_1 ⟨(Nat.le_of_ble_eq_true rfl), (Nat.le_of_ble_eq_true rfl)⟩) hS (fun _ _ h => h.elim) (fun _ h => h.elim) (fun r1 u t H1 locs ht hvm hw hB hz1 hk1 hS => ?_)
  have hP := hz_keep hP hk1
  clear hk1 hB hz1
  generalize H1 = H at hP hS ⊢
  have hw_r1 := hw
  refine lv_aload_n hx hb dX12_unseen_4 rfl (lv_at hl 0 rfl) ?_
  refine lv_iload_n hx hb dX12_unseen_5 rfl (lv_at hl 1 rfl) ?_
  refine va_calli (va_runV (As := [.int p0]) (rest := [.int r1]) ⟨hx, hb, hml, hown, hT⟩ (c_X12_sawOf l D cs kK kV a p0 a_said a_said_c a_tape a__taped a__rules a_sign a_length a_clause a_clauses a_read a__next a__wrong a__number a__text a__made a__deep a__lines a_open a__opened a_stack a__top a_word a__x a_worth a_mate a_wasSaid a__undone a__boughtNow a_wayBy a_wayThen a__walkMost a__walkGoing a__walkSet a_kept a__drawX a_images a_imageX a_isMade h_p0 h_a__taped h_a__rules h_a__next h_a__text h_a__made h_a__lines h_a__opened h_a__top h_a__x h_a__undone hf0) (cwV 1 hT (hz_gV q_1164 q_1165 q_1166 q_701 q_1167) rfl rfl rfl (by decide +kernel) ⟨(Nat.le_of_ble_eq_true rfl), (Nat.le_of_ble_eq_true rfl)⟩) ⟨hz_P.blind, va_recv hK hP (ci := 12) (q0 := 1) rfl rfl, hz_P.mk (hP.sub (ws' := [(a_said, .inl (cs 0, 123, .inl a_said_c)), (a, .inr (12, [.ref a_tape, .int a__taped, .int a__rules, .ref a_sign, .ref a_length, .ref a_clause, .ref a_clauses, .ref a_read, .int a__next, .int a__wrong, .int a__number, .int a__text, .int a__made, .int a__deep, .int a__lines, .ref a_open, .int a__opened, .ref a_stack, .int a__top, .ref a_word, .ref a_said, .int a__x, .ref a_worth, .ref a_mate, .ref a_wasSaid, .int a__undone, .int a__boughtNow, .ref a_wayBy, .ref a_wayThen, .int a__walkMost, .int a__walkGoing, .int a__walkSet, .ref a_kept, .long a__drawX, .ref a_images, .ref a_imageX, .ref a_isMade]))]) [0,1] rfl) hE hS⟩ rfl rfl hl.1 rfl (lv_room (Nat.le_of_ble_eq_true rfl)) dX12_unseen_6 ⟨(Nat.le_of_ble_eq_true rfl), (Nat.le_of_ble_eq_true rfl)⟩) hS (fun _ _ h => h.elim) (fun _ h => h.elim) (fun r2 u t H1 locs ht hvm hw hB hz1 hk1 hS => ?_)
  have hP := hz_keep hP hk1
  clear hk1 hB hz1
  generalize H1 = H at hP hS ⊢
  refine lv_iconst (v := (-1)) hx hb dX12_unseen_9 (by decide) ?_
  refine lv_ixor hx hb dX12_unseen_10 ?_
  refine lv_topi (fun v3 ev3 => ?_)
  refine lv_iand hx hb dX12_unseen_11 ?_
  refine lv_topi (fun v4 ev4 => ?_)
  have hv4 : IV 0 4095 v4 := iv_and1 ev4 hw_r1
  have ii5 : 0 ≤ v4.toInt ∧ v4.toInt ≤ 4095 := hv4
  exact W.iret (v := v4) hx hb hr (fun t ht hW => ⟨⟨v4, (), rfl, hv4, trivial⟩, hS.F ht⟩) hS.2.2 dX12_unseen_12
theorem dX12_divisor_0 : decode cX12_divisor 0 = .ok (.iload_n 0, 1) := by decide +kernel
theorem dX12_divisor_1 : decode cX12_divisor 1 = .ok (.istore_n 2, 1) := by decide +kernel
theorem dX12_divisor_2 : decode cX12_divisor 2 = .ok (.iload_n 1, 1) := by decide +kernel
theorem dX12_divisor_3 : decode cX12_divisor 3 = .ok (.istore_n 3, 1) := by decide +kernel
theorem dX12_divisor_4 : decode cX12_divisor 4 = .ok (.iload_n 3, 1) := by decide +kernel
theorem dX12_divisor_5 : decode cX12_divisor 5 = .ok (.ifCond .eq 16, 3) := by decide +kernel
theorem dX12_divisor_8 : decode cX12_divisor 8 = .ok (.iload_n 2, 1) := by decide +kernel
theorem dX12_divisor_9 : decode cX12_divisor 9 = .ok (.iload_n 3, 1) := by decide +kernel
theorem dX12_divisor_10 : decode cX12_divisor 10 = .ok (.irem, 1) := by decide +kernel
theorem dX12_divisor_11 : decode cX12_divisor 11 = .ok (.istore 4, 2) := by decide +kernel
theorem dX12_divisor_13 : decode cX12_divisor 13 = .ok (.iload_n 3, 1) := by decide +kernel
theorem dX12_divisor_14 : decode cX12_divisor 14 = .ok (.istore_n 2, 1) := by decide +kernel
theorem dX12_divisor_15 : decode cX12_divisor 15 = .ok (.iload 4, 2) := by decide +kernel
theorem dX12_divisor_17 : decode cX12_divisor 17 = .ok (.istore_n 3, 1) := by decide +kernel
theorem dX12_divisor_18 : decode cX12_divisor 18 = .ok (.goto (-14), 3) := by decide +kernel
theorem dX12_divisor_21 : decode cX12_divisor 21 = .ok (.iload_n 2, 1) := by decide +kernel
theorem dX12_divisor_22 : decode cX12_divisor 22 = .ok (.ireturn, 1) := by decide +kernel
set_option maxHeartbeats 4000000 in
set_option maxRecDepth 100000 in
theorem c_X12_divisor (l : Launch) (D : va_G) (cs : Nat → ClassId) (kK kV : Nat → Nat) (p0 : Int32) (p1 : Int32) (h_p0 : IV 1 4095 p0) (h_p1 : IV 0 12 p1) : Met l yX12_divisor (hz_w yX12_divisor cX12_divisor 5 (some .int)) ({ frames := 0, cells := 0, slots := 0, locals := 0 }) (va_Pc [.int p0, .int p1] (hz_P D cs kK kV [])) (va_Qi (fun (r : Int32) (_ : Unit) => IV 1 4095 r) (fun _ t => True) (fun _ => False)) 0 0 (fun _ => False) := by
  refine Met.ofW (cc := cX12_divisor) (maxL := 5) (ret := (some .int)) (by decide) rfl ?_
  intro p e s m args below meth c s₁ B hml hv
  obtain ⟨rfl, hP, hE⟩ := hv
  have hx := B.exec
  have hb := B.bytes
  have hr := B.returns
  have hT : ∀ w ∈ TB, w.before _ s = true := fun w h => atoms_spec (ws := hz_w yX12_divisor cX12_divisor 5 (some .int)) B.pre w (List.mem_cons_of_mem _ h)
  have hown : s.vm.findClass RX12 = some m.cls := findClass_of_methodNamed B.named
  have hlocks := B.notSynchronized
  clear B
  have hS : va_S (fun _ => False) s.heap s.heap [] := va_S.rf
  have hK := hE.1
  have hl := lv_entry ([.int p0, .int p1]) (n := 5) (Nat.le_of_ble_eq_true rfl)
  rw [lg_entry_eq]
  generalize (lg_sl ([.int p0, .int p1]) ++ List.replicate (5 - (lg_sl ([.int p0, .int p1])).length) Slot.unset).toArray = ls at hl ⊢
  have hl : lv_has ls 5 [(0, .int p0), (1, .int p1)] := hl
  obtain ⟨H, eH⟩ : ∃ z, z = s.heap := ⟨_, rfl⟩
  have hP : va_P D classes [] H := by rw [eH]; exact hP
  have hS : va_S (fun _ => False) s.heap H [] := by rw [eH]; exact hS
  rw [← eH]
  clear eH
  obtain ⟨locs, el⟩ : ∃ z : List Loc, z = [] := ⟨_, rfl⟩
  rw [← el] at hS ⊢
  clear el
  have z0 : (0 : Int32).toInt = 0 := by decide
  have z1 : (1 : Int32).toInt = 1 := by decide
  have zm1 : (-1 : Int32).toInt = -1 := by decide
  have i_p0 : 1 ≤ p0.toInt ∧ p0.toInt ≤ 4095 := h_p0
  have i_p1 : 0 ≤ p1.toInt ∧ p1.toInt ≤ 12 := h_p1
  have K4 : ∀ (n : Nat) (k4_L_3 : Int32) (k4_L_2 : Int32), (k4_L_3.toInt + 1).toNat ≤ n → IV 1 4095 k4_L_2 → IV 0 12 k4_L_3 → ∀ (H : Heap) (locs : List Loc), va_P D classes [] H → va_S (fun _ => False) s.heap H locs → ∀ ls : Array Slot, lv_has ls 5 [(3, .int k4_L_3), (2, .int k4_L_2), (0, .int p0), (1, .int p1)] → W p l e (headSpec (hz_w yX12_divisor cX12_divisor 5 (some .int)) ({ frames := 0, cells := 0, slots := 0, locals := 0 })).room s m [.int p0, .int p1].toArray below meth c H locs 0 0 (MQ below (va_Qi (fun (r : Int32) (_ : Unit) => IV 1 4095 r) (fun _ t => True) (fun _ => False)) [.int p0, .int p1].toArray s 0 0 (fun _ => False)) (F0 m 4 ls []) := by
    intro n
    induction n with
    | zero =>
      intro k4_L_3 k4_L_2 hn q4_0 q4_1 H locs hP hS ls hl
      have i_k4_L_2 : 1 ≤ k4_L_2.toInt ∧ k4_L_2.toInt ≤ 4095 := q4_0
      have i_k4_L_3 : 0 ≤ k4_L_3.toInt ∧ k4_L_3.toInt ≤ 12 := q4_1
      have i_p0 : 1 ≤ p0.toInt ∧ p0.toInt ≤ 4095 := h_p0
      have i_p1 : 0 ≤ p1.toInt ∧ p1.toInt ≤ 12 := h_p1
      exact absurd hn (by omega)
    | succ n ih4 =>
      intro k4_L_3 k4_L_2 hn q4_0 q4_1 H locs hP hS ls hl
      have i_k4_L_2 : 1 ≤ k4_L_2.toInt ∧ k4_L_2.toInt ≤ 4095 := q4_0
      have i_k4_L_3 : 0 ≤ k4_L_3.toInt ∧ k4_L_3.toInt ≤ 12 := q4_1
      have i_p0 : 1 ≤ p0.toInt ∧ p0.toInt ≤ 4095 := h_p0
      have i_p1 : 0 ≤ p1.toInt ∧ p1.toInt ≤ 12 := h_p1
      refine lv_iload_n hx hb dX12_divisor_4 rfl (lv_at hl 0 rfl) ?_
      refine lv_if_eq (tgt := 21) hx hb dX12_divisor_5 (by decide) (fun c1 => ?_) (fun c1 => ?_)
      · have t2 : k4_L_3.toInt = 0 := lin_eq c1 rfl (by decide)
        have h3 : IV 0 0 k4_L_3 := iv_eq1 c1 q4_1 (iv_c (a := 0) (b := 0) (by decide)) (by decide) (by decide)
        have ii4 : 0 ≤ k4_L_3.toInt ∧ k4_L_3.toInt ≤ 0 := h3
        refine lv_iload_n hx hb dX12_divisor_21 rfl (lv_at hl 1 rfl) ?_
        exact W.iret (v := k4_L_2) hx hb hr (fun t ht hW => ⟨⟨k4_L_2, (), rfl, q4_0, trivial⟩, hS.F ht⟩) hS.2.2 dX12_divisor_22
      · have t5 : k4_L_3.toInt ≠ 0 := lin_ne c1 rfl (by decide)
        have h6 : IV 1 12 k4_L_3 := iv_neL c1 q4_1 (by decide)
        have ii7 : 1 ≤ k4_L_3.toInt ∧ k4_L_3.toInt ≤ 12 := h6
        refine lv_iload_n hx hb dX12_divisor_8 rfl (lv_at hl 1 rfl) ?_
        refine lv_iload_n hx hb dX12_divisor_9 rfl (lv_at hl 0 rfl) ?_
        refine lv_irem hx hb dX12_divisor_10 (iv_ne0 h6 (by decide)) ?_
        refine lv_topi (fun v8 ev8 => ?_)
        have hv8 : IV 0 11 v8 := iv_remP ev8 q4_0 h6 (by decide) (by decide)
        have ii9 : 0 ≤ v8.toInt ∧ v8.toInt ≤ 11 := hv8
        have lv8 : v8.toInt < k4_L_3.toInt := lin_rem ev8 q4_0 h6 rfl rfl (by decide) (by decide)
        refine lv_istore (lv' := [(4, .int v8), (3, .int k4_L_3), (2, .int k4_L_2), (0, .int p0), (1, .int p1)]) hx hb dX12_divisor_11 hl (by decide) rfl (fun ls hl => ?_)
        refine lv_iload_n hx hb dX12_divisor_13 rfl (lv_at hl 1 rfl) ?_
        refine lv_istore_n (lv' := [(2, .int k4_L_3), (4, .int v8), (3, .int k4_L_3), (0, .int p0), (1, .int p1)]) hx hb dX12_divisor_14 rfl hl (by decide) rfl (fun ls hl => ?_)
        refine lv_iload hx hb dX12_divisor_15 (lv_at hl 1 rfl) ?_
        refine lv_istore_n (lv' := [(3, .int v8), (2, .int k4_L_3), (4, .int v8), (0, .int p0), (1, .int p1)]) hx hb dX12_divisor_17 rfl hl (by decide) rfl (fun ls hl => ?_)
        refine lv_goto (tgt := 4) hx hb dX12_divisor_18 (by decide) ?_
        exact ih4 v8 k4_L_3 (by have h9 := hn; omega) (iv_w h6 (by decide) (by decide)) (iv_w hv8 (by decide) (by decide)) H locs (hP.sub (ws' := []) [] rfl) hS ls (lv_sub hl [0, 1, 3, 4] rfl)
  refine lv_iload_n hx hb dX12_divisor_0 rfl (lv_at hl 0 rfl) ?_
  refine lv_istore_n (lv' := [(2, .int p0), (0, .int p0), (1, .int p1)]) hx hb dX12_divisor_1 rfl hl (by decide) rfl (fun ls hl => ?_)
  refine lv_iload_n hx hb dX12_divisor_2 rfl (lv_at hl 2 rfl) ?_
  refine lv_istore_n (lv' := [(3, .int p1), (2, .int p0), (0, .int p0), (1, .int p1)]) hx hb dX12_divisor_3 rfl hl (by decide) rfl (fun ls hl => ?_)
  exact K4 _ p1 p0 (Nat.le_refl _) h_p0 h_p1 H locs (hP.sub (ws' := []) [] rfl) hS ls (lv_sub hl [0, 1, 2, 3] rfl)
set_option maxHeartbeats 4000000 in
set_option maxRecDepth 100000 in
theorem c_X12_bits_S (l : Launch) (D : va_G) (cs : Nat → ClassId) (kK kV : Nat → Nat) (p0 : Int32) (h_p0 : IV 0 4095 p0) : Met l yX12_bits (hz_w yX12_bits cX12_bits 3 (some .int)) ({ frames := 0, cells := 0, slots := 0, locals := 0 }) (va_Pc [.int p0] (hz_P D cs kK kV [])) (va_Qi (fun (r : Int32) (_ : Unit) => IV 0 4095 r) (fun _ t => True) (fun _ => False)) 0 0 (fun _ => False) := by
  refine Met.ofW (cc := cX12_bits) (maxL := 3) (ret := (some .int)) (by decide) rfl ?_
  intro p e s m args below meth c s₁ B hml hv
  obtain ⟨rfl, hP, hE⟩ := hv
  have hx := B.exec
  have hb := B.bytes
  have hr := B.returns
  have hT : ∀ w ∈ TB, w.before _ s = true := fun w h => atoms_spec (ws := hz_w yX12_bits cX12_bits 3 (some .int)) B.pre w (List.mem_cons_of_mem _ h)
  have hown : s.vm.findClass RX12 = some m.cls := findClass_of_methodNamed B.named
  have hlocks := B.notSynchronized
  clear B
  have hS : va_S (fun _ => False) s.heap s.heap [] := va_S.rf
  have hK := hE.1
  have hl := lv_entry ([.int p0]) (n := 3) (Nat.le_of_ble_eq_true rfl)
  rw [lg_entry_eq]
  generalize (lg_sl ([.int p0]) ++ List.replicate (3 - (lg_sl ([.int p0])).length) Slot.unset).toArray = ls at hl ⊢
  have hl : lv_has ls 3 [(0, .int p0)] := hl
  obtain ⟨H, eH⟩ : ∃ z, z = s.heap := ⟨_, rfl⟩
  have hP : va_P D classes [] H := by rw [eH]; exact hP
  have hS : va_S (fun _ => False) s.heap H [] := by rw [eH]; exact hS
  rw [← eH]
  clear eH
  obtain ⟨locs, el⟩ : ∃ z : List Loc, z = [] := ⟨_, rfl⟩
  rw [← el] at hS ⊢
  clear el
  have z0 : (0 : Int32).toInt = 0 := by decide
  have z1 : (1 : Int32).toInt = 1 := by decide
  have zm1 : (-1 : Int32).toInt = -1 := by decide
  have i_p0 : 0 ≤ p0.toInt ∧ p0.toInt ≤ 4095 := h_p0
  have K4 : ∀ (n : Nat) (k4_L_2 : Int32) (k4_L_1 : Int32), ((k4_L_2.toBitVec.toNat : Int) + 1).toNat ≤ n → IV 0 4095 k4_L_1 → IV 0 4095 k4_L_2 → (k4_L_1.toInt + (k4_L_2.toBitVec.toNat : Int) ≤ (p0.toBitVec.toNat : Int)) → ∀ (H : Heap) (locs : List Loc), va_P D classes [] H → va_S (fun _ => False) s.heap H locs → ∀ ls : Array Slot, lv_has ls 3 [(2, .int k4_L_2), (1, .int k4_L_1), (0, .int p0)] → W p l e (headSpec (hz_w yX12_bits cX12_bits 3 (some .int)) ({ frames := 0, cells := 0, slots := 0, locals := 0 })).room s m [.int p0].toArray below meth c H locs 0 0 (MQ below (va_Qi (fun (r : Int32) (_ : Unit) => IV 0 4095 r) (fun _ t => True) (fun _ => False)) [.int p0].toArray s 0 0 (fun _ => False)) (F0 m 4 ls []) := by
    intro n
    induction n with
    | zero =>
      intro k4_L_2 k4_L_1 hn q4_0 q4_1 x4_0 H locs hP hS ls hl
      have i_k4_L_1 : 0 ≤ k4_L_1.toInt ∧ k4_L_1.toInt ≤ 4095 := q4_0
      have i_k4_L_2 : 0 ≤ k4_L_2.toInt ∧ k4_L_2.toInt ≤ 4095 := q4_1
      have i_p0 : 0 ≤ p0.toInt ∧ p0.toInt ≤ 4095 := h_p0
      exact absurd hn (by omega)
    | succ n ih4 =>
      intro k4_L_2 k4_L_1 hn q4_0 q4_1 x4_0 H locs hP hS ls hl
      have i_k4_L_1 : 0 ≤ k4_L_1.toInt ∧ k4_L_1.toInt ≤ 4095 := q4_0
      have i_k4_L_2 : 0 ≤ k4_L_2.toInt ∧ k4_L_2.toInt ≤ 4095 := q4_1
      have i_p0 : 0 ≤ p0.toInt ∧ p0.toInt ≤ 4095 := h_p0
      have tb : (p0.toBitVec.toNat : Int) = p0.toInt := by (obtain ⟨m, e1, e2, e3⟩ := iv_nn h_p0 (by decide)); rw [iv_bt m e1 e3]; exact e2
      refine lv_iload_n hx hb dX12_bits_4 rfl (lv_at hl 0 rfl) ?_
      refine lv_if_eq (tgt := 20) hx hb dX12_bits_5 (by decide) (fun c1 => ?_) (fun c1 => ?_)
      · have t2 : k4_L_2.toInt = 0 := lin_eq c1 rfl (by decide)
        have h3 : IV 0 0 k4_L_2 := iv_eq1 c1 q4_1 (iv_c (a := 0) (b := 0) (by decide)) (by decide) (by decide)
        have ii4 : 0 ≤ k4_L_2.toInt ∧ k4_L_2.toInt ≤ 0 := h3
        refine lv_iload_n hx hb dX12_bits_20 rfl (lv_at hl 1 rfl) ?_
        exact W.iret (v := k4_L_1) hx hb hr (fun t ht hW => ⟨⟨k4_L_1, (), rfl, q4_0, trivial⟩, hS.F ht⟩) hS.2.2 dX12_bits_21
      · have t5 : k4_L_2.toInt ≠ 0 := lin_ne c1 rfl (by decide)
        have h6 : IV 1 4095 k4_L_2 := iv_neL c1 q4_1 (by decide)
        have ii7 : 1 ≤ k4_L_2.toInt ∧ k4_L_2.toInt ≤ 4095 := h6
        obtain ⟨v8, ev8⟩ : ∃ z : Int32, z = k4_L_1 + 1 := ⟨_, rfl⟩
        have hv8 : IV 1 4096 v8 := iv_add ev8 q4_0 (iv_c (a := 1) (b := 1) (by decide)) (by decide) (by decide)
        have dv8 : v8.toInt = k4_L_1.toInt + 1 := iv_addE ev8 q4_0 (iv_c (a := 1) (b := 1) (by decide)) (by decide) (by decide) (by decide)
        refine lv_iinc (v := v8) (lv' := [(1, .int v8), (2, .int k4_L_2), (0, .int p0)]) hx hb dX12_bits_8 hl (k := 1) rfl (by rw [ev8]; rfl) (by decide) rfl (fun ls hl => ?_)
        refine lv_iload_n hx hb dX12_bits_11 rfl (lv_at hl 1 rfl) ?_
        refine lv_iload_n hx hb dX12_bits_12 rfl (lv_at hl 1 rfl) ?_
        refine lv_iconst (v := 1) hx hb dX12_bits_13 (by decide) ?_
        refine lv_isub hx hb dX12_bits_14 ?_
        refine lv_topi (fun v9 ev9 => ?_)
        have hv9 : IV 0 4094 v9 := iv_sub ev9 h6 (iv_c (a := 1) (b := 1) (by decide)) (by decide) (by decide)
        have ii10 : 0 ≤ v9.toInt ∧ v9.toInt ≤ 4094 := hv9
        have dv9 : v9.toInt = k4_L_2.toInt + (-1) := iv_subE ev9 h6 (iv_c (a := 1) (b := 1) (by decide)) (by decide) (by decide) (by decide)
        have lv9 : v9.toInt = k4_L_2.toInt - 1 := lin_sub ev9 h6 (iv_c (a := 1) (b := 1) (by decide)) rfl (by decide) (by decide) (by decide)
        refine lv_iand hx hb dX12_bits_15 ?_
        refine lv_topi (fun v11 ev11 => ?_)
        have hv11 : IV 0 4094 v11 := iv_and2 ev11 hv9
        have ii12 : 0 ≤ v11.toInt ∧ v11.toInt ≤ 4094 := hv11
        refine lv_istore_n (lv' := [(2, .int v11), (1, .int v8), (0, .int p0)]) hx hb dX12_bits_16 rfl hl (by decide) rfl (fun ls hl => ?_)
        have bd := bits_dn ev9 ev11 (by assumption)
        refine lv_goto (tgt := 4) hx hb dX12_bits_17 (by decide) ?_
        exact ih4 v11 v8 (by have h9 := hn; omega) (⟨by omega, by omega⟩ : IV 0 4095 v8) (iv_w hv11 (by decide) (by decide)) (by omega) H locs (hP.sub (ws' := []) [] rfl) hS ls (lv_sub hl [0, 1, 2] rfl)
  have tb : (p0.toBitVec.toNat : Int) = p0.toInt := by (obtain ⟨m, e1, e2, e3⟩ := iv_nn h_p0 (by decide)); rw [iv_bt m e1 e3]; exact e2
  refine lv_iconst (v := 0) hx hb dX12_bits_0 (by decide) ?_
  refine lv_istore_n (lv' := [(1, .int 0), (0, .int p0)]) hx hb dX12_bits_1 rfl hl (by decide) rfl (fun ls hl => ?_)
  refine lv_iload_n hx hb dX12_bits_2 rfl (lv_at hl 1 rfl) ?_
  refine lv_istore_n (lv' := [(2, .int p0), (1, .int 0), (0, .int p0)]) hx hb dX12_bits_3 rfl hl (by decide) rfl (fun ls hl => ?_)
  exact K4 _ p0 ((0 : Int32)) (Nat.le_refl _) (iv_c (by decide)) h_p0 (by omega) H locs (hP.sub (ws' := []) [] rfl) hS ls (lv_sub hl [0, 1, 2] rfl)
