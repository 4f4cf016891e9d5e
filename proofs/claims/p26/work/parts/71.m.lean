theorem dX12_cellHere_0 : decode cX12_cellHere 0 = .ok (.aload_n 0, 1) := by decide +kernel
theorem dX12_cellHere_1 : decode cX12_cellHere 1 = .ok (.iload_n 2, 1) := by decide +kernel
theorem dX12_cellHere_2 : decode cX12_cellHere 2 = .ok (.iload_n 3, 1) := by decide +kernel
theorem dX12_cellHere_3 : decode cX12_cellHere 3 = .ok (.invokevirtual 160, 3) := by decide +kernel
theorem dX12_cellHere_6 : decode cX12_cellHere 6 = .ok (.ifCond .ne 5, 3) := by decide +kernel
theorem dX12_cellHere_9 : decode cX12_cellHere 9 = .ok (.iconst 0, 1) := by decide +kernel
theorem dX12_cellHere_10 : decode cX12_cellHere 10 = .ok (.ireturn, 1) := by decide +kernel
theorem dX12_cellHere_11 : decode cX12_cellHere 11 = .ok (.aload_n 0, 1) := by decide +kernel
theorem dX12_cellHere_12 : decode cX12_cellHere 12 = .ok (.getfield 26, 3) := by decide +kernel
theorem dX12_cellHere_15 : decode cX12_cellHere 15 = .ok (.iload_n 1, 1) := by decide +kernel
theorem dX12_cellHere_16 : decode cX12_cellHere 16 = .ok (.aload_n 0, 1) := by decide +kernel
theorem dX12_cellHere_17 : decode cX12_cellHere 17 = .ok (.getfield 106, 3) := by decide +kernel
theorem dX12_cellHere_20 : decode cX12_cellHere 20 = .ok (.iastore, 1) := by decide +kernel
theorem dX12_cellHere_21 : decode cX12_cellHere 21 = .ok (.iconst 1, 1) := by decide +kernel
theorem dX12_cellHere_22 : decode cX12_cellHere 22 = .ok (.ireturn, 1) := by decide +kernel
set_option maxHeartbeats 4000000 in
set_option maxRecDepth 100000 in
theorem c_X12_cellHere (l : Launch) (D : va_G) (cs : Nat → ClassId) (kK kV : Nat → Nat) (a : Nat) (p0 : Int32) (p1 : Int32) (p2 : Int32) (a_read : Nat) (a_read_c : Nat → Int32) (a_tape : Nat) (a__taped : Int32) (a__rules : Int32) (a_sign : Nat) (a_length : Nat) (a_clause : Nat) (a_clauses : Nat) (a__next : Int32) (a__wrong : Int32) (a__number : Int32) (a__text : Int32) (a__made : Int32) (a__deep : Int32) (a__lines : Int32) (a_open : Nat) (a__opened : Int32) (a_stack : Nat) (a__top : Int32) (a_word : Nat) (a_said : Nat) (a__x : Int32) (a_worth : Nat) (a_mate : Nat) (a_wasSaid : Nat) (a__undone : Int32) (a__boughtNow : Int32) (a_wayBy : Nat) (a_wayThen : Nat) (a__walkMost : Int32) (a__walkGoing : Int32) (a__walkSet : Int32) (a_kept : Nat) (a__drawX : Int64) (a_images : Nat) (a_imageX : Nat) (a_isMade : Nat) (a_tape_c : Nat → Int32) (h_p0 : IV 0 85 p0) (h_a__taped : IV 0 400 a__taped) (h_a__rules : IV 0 6 a__rules) (h_a__next : IV 0 400 a__next) (h_a__text : IV 0 6 a__text) (h_a__made : IV 0 60 a__made) (h_a__lines : IV 0 40 a__lines) (h_a__opened : IV 0 400 a__opened) (h_a__top : IV 0 64 a__top) (h_a__x : IV 0 2147483647 a__x) (h_a__undone : IV 0 20 a__undone) (hf0 : CK a_read_c p0 p1 p2) (sz : Nat) : Met l yX12_cellHere (hz_w yX12_cellHere cX12_cellHere 4 (some .boolean)) ({ frames := 2, cells := 0, slots := 0, locals := 49 }) (va_Pc [.ref a, .int p0, .int p1, .int p2] (hz_C D cs kK kV sz [(a_read, .inl (cs 0, 86, .inl a_read_c)), (a, .inr (12, [.ref a_tape, .int a__taped, .int a__rules, .ref a_sign, .ref a_length, .ref a_clause, .ref a_clauses, .ref a_read, .int a__next, .int a__wrong, .int a__number, .int a__text, .int a__made, .int a__deep, .int a__lines, .ref a_open, .int a__opened, .ref a_stack, .int a__top, .ref a_word, .ref a_said, .int a__x, .ref a_worth, .ref a_mate, .ref a_wasSaid, .int a__undone, .int a__boughtNow, .ref a_wayBy, .ref a_wayThen, .int a__walkMost, .int a__walkGoing, .int a__walkSet, .ref a_kept, .long a__drawX, .ref a_images, .ref a_imageX, .ref a_isMade])), (a_tape, .inl (cs 1, 400, .inl a_tape_c))])) (va_Qi (fun (r : Int32) (u : (Nat → Int32) × (Nat → Nat → Int32)) => (r = 0 ∧ IV 0 400 (u.1 2) ∧ (a__next.toInt ≤ (u.1 2).toInt) ∧ (BS (u.2 0) 0) ∧ ((u.1 3).toInt ≠ 0)) ∨ (r = 1 ∧ IV 1 400 a__taped ∧ IV 0 400 (u.1 2) ∧ (a__next.toInt ≤ (u.1 2).toInt) ∧ (BS (u.2 0) 0) ∧ ((u.2 0) = upd a_read_c (Int32.toNatClampNeg p0) (u.1 1)) ∧ (p1.toInt ≤ (u.1 1).toInt) ∧ ((u.1 1).toInt ≤ p2.toInt))) (fun u t => va_P D classes [(a_read, .inl (cs 0, 86, .inl (u.2 0))), (a, .inr (12, [.ref a_tape, .int a__taped, .int a__rules, .ref a_sign, .ref a_length, .ref a_clause, .ref a_clauses, .ref a_read, .int (u.1 2), .int (u.1 3), .int (u.1 1), .int a__text, .int a__made, .int a__deep, .int a__lines, .ref a_open, .int a__opened, .ref a_stack, .int a__top, .ref a_word, .ref a_said, .int a__x, .ref a_worth, .ref a_mate, .ref a_wasSaid, .int a__undone, .int a__boughtNow, .ref a_wayBy, .ref a_wayThen, .int a__walkMost, .int a__walkGoing, .int a__walkSet, .ref a_kept, .long a__drawX, .ref a_images, .ref a_imageX, .ref a_isMade])), (a_tape, .inl (cs 1, 400, .inl a_tape_c))] t.heap ∧ va_D (va_A [(a_read, .inl (cs 0, 86, .inl a_read_c)), (a, .inr (12, [.ref a_tape, .int a__taped, .int a__rules, .ref a_sign, .ref a_length, .ref a_clause, .ref a_clauses, .ref a_read, .int a__next, .int a__wrong, .int a__number, .int a__text, .int a__made, .int a__deep, .int a__lines, .ref a_open, .int a__opened, .ref a_stack, .int a__top, .ref a_word, .ref a_said, .int a__x, .ref a_worth, .ref a_mate, .ref a_wasSaid, .int a__undone, .int a__boughtNow, .ref a_wayBy, .ref a_wayThen, .int a__walkMost, .int a__walkGoing, .int a__walkSet, .ref a_kept, .long a__drawX, .ref a_images, .ref a_imageX, .ref a_isMade])), (a_tape, .inl (cs 1, 400, .inl a_tape_c))] sz) [(a_read, .inl (cs 0, 86, .inl (u.2 0))), (a, .inr (12, [.ref a_tape, .int a__taped, .int a__rules, .ref a_sign, .ref a_length, .ref a_clause, .ref a_clauses, .ref a_read, .int (u.1 2), .int (u.1 3), .int (u.1 1), .int a__text, .int a__made, .int a__deep, .int a__lines, .ref a_open, .int a__opened, .ref a_stack, .int a__top, .ref a_word, .ref a_said, .int a__x, .ref a_worth, .ref a_mate, .ref a_wasSaid, .int a__undone, .int a__boughtNow, .ref a_wayBy, .ref a_wayThen, .int a__walkMost, .int a__walkGoing, .int a__walkSet, .ref a_kept, .long a__drawX, .ref a_images, .ref a_imageX, .ref a_isMade])), (a_tape, .inl (cs 1, 400, .inl a_tape_c))]) (va_A [(a_read, .inl (cs 0, 86, .inl a_read_c)), (a, .inr (12, [.ref a_tape, .int a__taped, .int a__rules, .ref a_sign, .ref a_length, .ref a_clause, .ref a_clauses, .ref a_read, .int a__next, .int a__wrong, .int a__number, .int a__text, .int a__made, .int a__deep, .int a__lines, .ref a_open, .int a__opened, .ref a_stack, .int a__top, .ref a_word, .ref a_said, .int a__x, .ref a_worth, .ref a_mate, .ref a_wasSaid, .int a__undone, .int a__boughtNow, .ref a_wayBy, .ref a_wayThen, .int a__walkMost, .int a__walkGoing, .int a__walkSet, .ref a_kept, .long a__drawX, .ref a_images, .ref a_imageX, .ref a_isMade])), (a_tape, .inl (cs 1, 400, .inl a_tape_c))] sz)) 0 0 (va_A [(a_read, .inl (cs 0, 86, .inl a_read_c)), (a, .inr (12, [.ref a_tape, .int a__taped, .int a__rules, .ref a_sign, .ref a_length, .ref a_clause, .ref a_clauses, .ref a_read, .int a__next, .int a__wrong, .int a__number, .int a__text, .int a__made, .int a__deep, .int a__lines, .ref a_open, .int a__opened, .ref a_stack, .int a__top, .ref a_word, .ref a_said, .int a__x, .ref a_worth, .ref a_mate, .ref a_wasSaid, .int a__undone, .int a__boughtNow, .ref a_wayBy, .ref a_wayThen, .int a__walkMost, .int a__walkGoing, .int a__walkSet, .ref a_kept, .long a__drawX, .ref a_images, .ref a_imageX, .ref a_isMade])), (a_tape, .inl (cs 1, 400, .inl a_tape_c))] sz) := by
  refine Met.ofW (cc := cX12_cellHere) (maxL := 4) (ret := (some .boolean)) (by decide) rfl ?_
  intro p e s m args below meth c s₁ B hml hv
  obtain ⟨rfl, hsz, hP, hD0, hE⟩ := hv
  have hx := B.exec
  have hb := B.bytes
  have hr := B.returns
  have hT : ∀ w ∈ TB, w.before _ s = true := fun w h => atoms_spec (ws := hz_w yX12_cellHere cX12_cellHere 4 (some .boolean)) B.pre w (List.mem_cons_of_mem _ h)
  have hown : s.vm.findClass RX12 = some m.cls := findClass_of_methodNamed B.named
  have hlocks := B.notSynchronized
  clear B
  subst hsz
  have hD := hD0.self (sz := s.heap.size)
  generalize hAe : va_A [(a_read, .inl (cs 0, 86, .inl a_read_c)), (a, .inr (12, [.ref a_tape, .int a__taped, .int a__rules, .ref a_sign, .ref a_length, .ref a_clause, .ref a_clauses, .ref a_read, .int a__next, .int a__wrong, .int a__number, .int a__text, .int a__made, .int a__deep, .int a__lines, .ref a_open, .int a__opened, .ref a_stack, .int a__top, .ref a_word, .ref a_said, .int a__x, .ref a_worth, .ref a_mate, .ref a_wasSaid, .int a__undone, .int a__boughtNow, .ref a_wayBy, .ref a_wayThen, .int a__walkMost, .int a__walkGoing, .int a__walkSet, .ref a_kept, .long a__drawX, .ref a_images, .ref a_imageX, .ref a_isMade])), (a_tape, .inl (cs 1, 400, .inl a_tape_c))] s.heap.size = A at hD hE ⊢
  have hA : ∀ q : Nat, s.heap.size ≤ q → A q := fun q h => by rw [← hAe]; exact Or.inr h
  clear hAe hD0
  have hS : va_S A s.heap s.heap [] := va_S.rf
  have hK := hE.1
  have hl := lv_entry ([.ref a, .int p0, .int p1, .int p2]) (n := 4) (Nat.le_of_ble_eq_true rfl)
  rw [lg_entry_eq]
  generalize (lg_sl ([.ref a, .int p0, .int p1, .int p2]) ++ List.replicate (4 - (lg_sl ([.ref a, .int p0, .int p1, .int p2])).length) Slot.unset).toArray = ls at hl ⊢
  have hl : lv_has ls 4 [(0, .ref a), (1, .int p0), (2, .int p1), (3, .int p2)] := hl
  obtain ⟨H, eH⟩ : ∃ z, z = s.heap := ⟨_, rfl⟩
  have hP : va_P D classes [(a_read, .inl (cs 0, 86, .inl a_read_c)), (a, .inr (12, [.ref a_tape, .int a__taped, .int a__rules, .ref a_sign, .ref a_length, .ref a_clause, .ref a_clauses, .ref a_read, .int a__next, .int a__wrong, .int a__number, .int a__text, .int a__made, .int a__deep, .int a__lines, .ref a_open, .int a__opened, .ref a_stack, .int a__top, .ref a_word, .ref a_said, .int a__x, .ref a_worth, .ref a_mate, .ref a_wasSaid, .int a__undone, .int a__boughtNow, .ref a_wayBy, .ref a_wayThen, .int a__walkMost, .int a__walkGoing, .int a__walkSet, .ref a_kept, .long a__drawX, .ref a_images, .ref a_imageX, .ref a_isMade])), (a_tape, .inl (cs 1, 400, .inl a_tape_c))] H := by rw [eH]; exact hP
  have hS : va_S A s.heap H [] := by rw [eH]; exact hS
  rw [← eH]
  clear eH
  obtain ⟨locs, el⟩ : ∃ z : List Loc, z = [] := ⟨_, rfl⟩
  rw [← el] at hS ⊢
  clear el
  have z0 : (0 : Int32).toInt = 0 := by decide
  have z1 : (1 : Int32).toInt = 1 := by decide
  have zm1 : (-1 : Int32).toInt = -1 := by decide
  have i_a__lines : 0 ≤ a__lines.toInt ∧ a__lines.toInt ≤ 40 := h_a__lines
  have i_a__made : 0 ≤ a__made.toInt ∧ a__made.toInt ≤ 60 := h_a__made
  have i_a__next : 0 ≤ a__next.toInt ∧ a__next.toInt ≤ 400 := h_a__next
  have i_a__opened : 0 ≤ a__opened.toInt ∧ a__opened.toInt ≤ 400 := h_a__opened
  have i_a__rules : 0 ≤ a__rules.toInt ∧ a__rules.toInt ≤ 6 := h_a__rules
  have i_a__taped : 0 ≤ a__taped.toInt ∧ a__taped.toInt ≤ 400 := h_a__taped
  have i_a__text : 0 ≤ a__text.toInt ∧ a__text.toInt ≤ 6 := h_a__text
  have i_a__top : 0 ≤ a__top.toInt ∧ a__top.toInt ≤ 64 := h_a__top
  have i_a__undone : 0 ≤ a__undone.toInt ∧ a__undone.toInt ≤ 20 := h_a__undone
  have i_a__x : 0 ≤ a__x.toInt ∧ a__x.toInt ≤ 2147483647 := h_a__x
  have i_p0 : 0 ≤ p0.toInt ∧ p0.toInt ≤ 85 := h_p0
  refine lv_aload_n hx hb dX12_cellHere_0 rfl (lv_at hl 0 rfl) ?_
  refine lv_iload_n hx hb dX12_cellHere_1 rfl (lv_at hl 2 rfl) ?_
  refine lv_iload_n hx hb dX12_cellHere_2 rfl (lv_at hl 3 rfl) ?_
  have hFc := va_free (wc := [(a, .inr (12, [.ref a_tape, .int a__taped, .int a__rules, .ref a_sign, .ref a_length, .ref a_clause, .ref a_clauses, .ref a_read, .int a__next, .int a__wrong, .int a__number, .int a__text, .int a__made, .int a__deep, .int a__lines, .ref a_open, .int a__opened, .ref a_stack, .int a__top, .ref a_word, .ref a_said, .int a__x, .ref a_worth, .ref a_mate, .ref a_wasSaid, .int a__undone, .int a__boughtNow, .ref a_wayBy, .ref a_wayThen, .int a__walkMost, .int a__walkGoing, .int a__walkSet, .ref a_kept, .long a__drawX, .ref a_images, .ref a_imageX, .ref a_isMade])), (a_tape, .inl (cs 1, 400, .inl a_tape_c))]) hD hS hA [1,2] rfl
  refine va_calli (va_runV (As := [.int p1, .int p2]) (rest := []) ⟨hx, hb, hml, hown, hT⟩ (c_X12_numberHere l D cs kK kV a p1 p2 a_tape a__taped a__rules a_sign a_length a_clause a_clauses a_read a__next a__wrong a__number a__text a__made a__deep a__lines a_open a__opened a_stack a__top a_word a_said a__x a_worth a_mate a_wasSaid a__undone a__boughtNow a_wayBy a_wayThen a__walkMost a__walkGoing a__walkSet a_kept a__drawX a_images a_imageX a_isMade a_tape_c h_a__taped h_a__rules h_a__next h_a__text h_a__made h_a__lines h_a__opened h_a__top h_a__x h_a__undone H.size) (cwV 2 hT (hz_gV q_974 q_975 q_976 q_701 q_977) rfl rfl rfl (by decide +kernel) ⟨(Nat.le_of_ble_eq_true rfl), (Nat.le_of_ble_eq_true rfl)⟩) ⟨hz_C.blind, va_recv hK hP (ci := 12) (q0 := 1) rfl rfl, hz_C.mk (hP.sub (ws' := [(a, .inr (12, [.ref a_tape, .int a__taped, .int a__rules, .ref a_sign, .ref a_length, .ref a_clause, .ref a_clauses, .ref a_read, .int a__next, .int a__wrong, .int a__number, .int a__text, .int a__made, .int a__deep, .int a__lines, .ref a_open, .int a__opened, .ref a_stack, .int a__top, .ref a_word, .ref a_said, .int a__x, .ref a_worth, .ref a_mate, .ref a_wasSaid, .int a__undone, .int a__boughtNow, .ref a_wayBy, .ref a_wayThen, .int a__walkMost, .int a__walkGoing, .int a__walkSet, .ref a_kept, .long a__drawX, .ref a_images, .ref a_imageX, .ref a_isMade])), (a_tape, .inl (cs 1, 400, .inl a_tape_c))]) [1,2] rfl) (hD.sub (ws' := [(a, .inr (12, [.ref a_tape, .int a__taped, .int a__rules, .ref a_sign, .ref a_length, .ref a_clause, .ref a_clauses, .ref a_read, .int a__next, .int a__wrong, .int a__number, .int a__text, .int a__made, .int a__deep, .int a__lines, .ref a_open, .int a__opened, .ref a_stack, .int a__top, .ref a_word, .ref a_said, .int a__x, .ref a_worth, .ref a_mate, .ref a_wasSaid, .int a__undone, .int a__boughtNow, .ref a_wayBy, .ref a_wayThen, .int a__walkMost, .int a__walkGoing, .int a__walkSet, .ref a_kept, .long a__drawX, .ref a_images, .ref a_imageX, .ref a_isMade])), (a_tape, .inl (cs 1, 400, .inl a_tape_c))]) [1,2] (by decide) rfl) hE hS hFc⟩ rfl rfl hl.1 rfl (lv_room (Nat.le_of_ble_eq_true rfl)) dX12_cellHere_3 ⟨(Nat.le_of_ble_eq_true rfl), (Nat.le_of_ble_eq_true rfl)⟩) hS (fun q _ h => hFc q h) hFc (fun r1 o2 t H1 locs ht hvm hw hB hz1 hk1 hS => ?_)
  obtain ⟨hP1, hD1⟩ := hB
  rw [ht] at hP1
  obtain ⟨hP, hD⟩ := va_join (wr := [(a_read, .inl (cs 0, 86, .inl a_read_c))]) (w1 := [(a, .inr (12, [.ref a_tape, .int a__taped, .int a__rules, .ref a_sign, .ref a_length, .ref a_clause, .ref a_clauses, .ref a_read, .int (o2.1 2), .int (o2.1 3), .int (o2.1 1), .int a__text, .int a__made, .int a__deep, .int a__lines, .ref a_open, .int a__opened, .ref a_stack, .int a__top, .ref a_word, .ref a_said, .int a__x, .ref a_worth, .ref a_mate, .ref a_wasSaid, .int a__undone, .int a__boughtNow, .ref a_wayBy, .ref a_wayThen, .int a__walkMost, .int a__walkGoing, .int a__walkSet, .ref a_kept, .long a__drawX, .ref a_images, .ref a_imageX, .ref a_isMade])), (a_tape, .inl (cs 1, 400, .inl a_tape_c))]) hP hD [1, 2] [0] rfl rfl (by decide) (by decide) hk1 hFc hP1 hD1
  generalize H1 = H at hP hS ⊢
  have hP : va_P D classes [(a_read, .inl (cs 0, 86, .inl a_read_c)), (a, .inr (12, [.ref a_tape, .int a__taped, .int a__rules, .ref a_sign, .ref a_length, .ref a_clause, .ref a_clauses, .ref a_read, .int (o2.1 2), .int (o2.1 3), .int (o2.1 1), .int a__text, .int a__made, .int a__deep, .int a__lines, .ref a_open, .int a__opened, .ref a_stack, .int a__top, .ref a_word, .ref a_said, .int a__x, .ref a_worth, .ref a_mate, .ref a_wasSaid, .int a__undone, .int a__boughtNow, .ref a_wayBy, .ref a_wayThen, .int a__walkMost, .int a__walkGoing, .int a__walkSet, .ref a_kept, .long a__drawX, .ref a_images, .ref a_imageX, .ref a_isMade])), (a_tape, .inl (cs 1, 400, .inl a_tape_c))] H := hP
  have hD : va_D A [(a_read, .inl (cs 0, 86, .inl a_read_c)), (a, .inr (12, [.ref a_tape, .int a__taped, .int a__rules, .ref a_sign, .ref a_length, .ref a_clause, .ref a_clauses, .ref a_read, .int (o2.1 2), .int (o2.1 3), .int (o2.1 1), .int a__text, .int a__made, .int a__deep, .int a__lines, .ref a_open, .int a__opened, .ref a_stack, .int a__top, .ref a_word, .ref a_said, .int a__x, .ref a_worth, .ref a_mate, .ref a_wasSaid, .int a__undone, .int a__boughtNow, .ref a_wayBy, .ref a_wayThen, .int a__walkMost, .int a__walkGoing, .int a__walkSet, .ref a_kept, .long a__drawX, .ref a_images, .ref a_imageX, .ref a_isMade])), (a_tape, .inl (cs 1, 400, .inl a_tape_c))] := hD
  clear hk1 hFc hP1 hD1 hz1
  rcases hw with ⟨rfl, h3, x4, x5⟩ | ⟨rfl, h6, h7, x8, x9, x10, x11⟩
  · have ii12 : 0 ≤ (o2.1 2).toInt ∧ (o2.1 2).toInt ≤ 400 := h3
    refine lv_if_ne (tgt := 11) hx hb dX12_cellHere_6 (by decide) (fun z => absurd (by decide) z) (fun _ => ?_)
    refine lv_iconst (v := 0) hx hb dX12_cellHere_9 (by decide) ?_
    refine W.widen (k := 0) (n := 0) (Nat.le_of_ble_eq_true rfl) (Nat.le_of_ble_eq_true rfl) ?_
    have g13 : BS a_read_c 0 := hf0.1
    exact W.zret (v := 0) hx hb hr rfl (fun t ht hW => ⟨⟨0, (fun k => match k with | 0 => 0 | 1 => o2.1 1 | 2 => o2.1 2 | 3 => o2.1 3 | _ => 0, fun k => match k with | 0 => a_read_c | _ => fun _ => 0), rfl, (Or.inl (⟨rfl, h3, x4, g13, x5⟩)), by rw [ht]; exact hP.sub [0, 1, 2] rfl, hD.sub [0, 1, 2] (by decide) rfl⟩, hS.F ht⟩) hS.2.2 dX12_cellHere_10
  · have ii14 : 1 ≤ a__taped.toInt ∧ a__taped.toInt ≤ 400 := h6
    have ii15 : 0 ≤ (o2.1 2).toInt ∧ (o2.1 2).toInt ≤ 400 := h7
    refine lv_if_ne (tgt := 11) hx hb dX12_cellHere_6 (by decide) (fun _ => ?_) (fun z => absurd z (by decide))
    refine lv_aload_n hx hb dX12_cellHere_11 rfl (lv_at hl 0 rfl) ?_
    refine va_get (D := D) (ci := 12) (v := .ref a_read) (C := RX12) (T := TX12) (N := 37) hx hb hT i_X12 hown hK hP 1 rfl rfl 7 (by decide) (hT _ q_181) (fun _ h9 => h9) rfl dX12_cellHere_12 ?_
    refine lv_iload_n hx hb dX12_cellHere_15 rfl (lv_at hl 1 rfl) ?_
    refine lv_aload_n hx hb dX12_cellHere_16 rfl (lv_at hl 0 rfl) ?_
    refine va_get (D := D) (ci := 12) (v := .int (o2.1 1)) (C := RX12) (T := TX12) (N := 37) hx hb hT i_X12 hown hK hP 1 rfl rfl 10 (by decide) (hT _ q_198) (fun _ h9 => h9) rfl dX12_cellHere_17 ?_
    refine va_iast hx hb hK hP hD hS 0 0 rfl rfl (iv_v h_p0 (by decide) (by decide)) dX12_cellHere_20 (fun H locs hP hD hS => ?_)
    have hP : va_P D classes [(a_read, .inl (cs 0, 86, .inl (upd a_read_c (Int32.toNatClampNeg p0) (o2.1 1)))), (a, .inr (12, [.ref a_tape, .int a__taped, .int a__rules, .ref a_sign, .ref a_length, .ref a_clause, .ref a_clauses, .ref a_read, .int (o2.1 2), .int (o2.1 3), .int (o2.1 1), .int a__text, .int a__made, .int a__deep, .int a__lines, .ref a_open, .int a__opened, .ref a_stack, .int a__top, .ref a_word, .ref a_said, .int a__x, .ref a_worth, .ref a_mate, .ref a_wasSaid, .int a__undone, .int a__boughtNow, .ref a_wayBy, .ref a_wayThen, .int a__walkMost, .int a__walkGoing, .int a__walkSet, .ref a_kept, .long a__drawX, .ref a_images, .ref a_imageX, .ref a_isMade])), (a_tape, .inl (cs 1, 400, .inl a_tape_c))] H := hP
    have hD : va_D A [(a_read, .inl (cs 0, 86, .inl (upd a_read_c (Int32.toNatClampNeg p0) (o2.1 1)))), (a, .inr (12, [.ref a_tape, .int a__taped, .int a__rules, .ref a_sign, .ref a_length, .ref a_clause, .ref a_clauses, .ref a_read, .int (o2.1 2), .int (o2.1 3), .int (o2.1 1), .int a__text, .int a__made, .int a__deep, .int a__lines, .ref a_open, .int a__opened, .ref a_stack, .int a__top, .ref a_word, .ref a_said, .int a__x, .ref a_worth, .ref a_mate, .ref a_wasSaid, .int a__undone, .int a__boughtNow, .ref a_wayBy, .ref a_wayThen, .int a__walkMost, .int a__walkGoing, .int a__walkSet, .ref a_kept, .long a__drawX, .ref a_images, .ref a_imageX, .ref a_isMade])), (a_tape, .inl (cs 1, 400, .inl a_tape_c))] := hD
    obtain ⟨f16, uf16⟩ : ∃ z, z = upd a_read_c (Int32.toNatClampNeg p0) (o2.1 1) := ⟨_, rfl⟩
    rw [← uf16] at hP hD
    have wf16 : (f16 (Int32.toNatClampNeg p0)).toInt = (o2.1 1).toInt := lin_us uf16 rfl
    refine lv_iconst (v := 1) hx hb dX12_cellHere_21 (by decide) ?_
    refine W.widen (k := 0) (n := 0) (Nat.le_of_ble_eq_true rfl) (Nat.le_of_ble_eq_true rfl) ?_
    have g17 : BS f16 0 := (by rw [uf16]; exact hf0.2 _ (by omega) (by omega))
    exact W.zret (v := 1) hx hb hr rfl (fun t ht hW => ⟨⟨1, (fun k => match k with | 0 => 0 | 1 => o2.1 1 | 2 => o2.1 2 | 3 => o2.1 3 | _ => 0, fun k => match k with | 0 => f16 | _ => fun _ => 0), rfl, (Or.inr ((⟨rfl, h6, h7, x8, g17, uf16, x9, x10⟩))), by rw [ht]; exact hP.sub [0, 1, 2] rfl, hD.sub [0, 1, 2] (by decide) rfl⟩, hS.F ht⟩) hS.2.2 dX12_cellHere_22
theorem dX12_areStallsHere_0 : decode cX12_areStallsHere 0 = .ok (.aload_n 0, 1) := by decide +kernel
theorem dX12_areStallsHere_1 : decode cX12_areStallsHere 1 = .ok (.getfield 26, 3) := by decide +kernel
theorem dX12_areStallsHere_4 : decode cX12_areStallsHere 4 = .ok (.iconst 0, 1) := by decide +kernel
theorem dX12_areStallsHere_5 : decode cX12_areStallsHere 5 = .ok (.iaload, 1) := by decide +kernel
theorem dX12_areStallsHere_6 : decode cX12_areStallsHere 6 = .ok (.ifCond .le 10, 3) := by decide +kernel
theorem dX12_areStallsHere_9 : decode cX12_areStallsHere 9 = .ok (.aload_n 0, 1) := by decide +kernel
theorem dX12_areStallsHere_10 : decode cX12_areStallsHere 10 = .ok (.iconst 4, 1) := by decide +kernel
theorem dX12_areStallsHere_11 : decode cX12_areStallsHere 11 = .ok (.iload_n 1, 1) := by decide +kernel
theorem dX12_areStallsHere_12 : decode cX12_areStallsHere 12 = .ok (.invokevirtual 102, 3) := by decide +kernel
theorem dX12_areStallsHere_15 : decode cX12_areStallsHere 15 = .ok (.ireturn, 1) := by decide +kernel
theorem dX12_areStallsHere_16 : decode cX12_areStallsHere 16 = .ok (.aload_n 0, 1) := by decide +kernel
theorem dX12_areStallsHere_17 : decode cX12_areStallsHere 17 = .ok (.invokevirtual 96, 3) := by decide +kernel
theorem dX12_areStallsHere_20 : decode cX12_areStallsHere 20 = .ok (.aload_n 0, 1) := by decide +kernel
theorem dX12_areStallsHere_21 : decode cX12_areStallsHere 21 = .ok (.iconst 0, 1) := by decide +kernel
theorem dX12_areStallsHere_22 : decode cX12_areStallsHere 22 = .ok (.iconst 2, 1) := by decide +kernel
theorem dX12_areStallsHere_23 : decode cX12_areStallsHere 23 = .ok (.bipush 8, 2) := by decide +kernel
theorem dX12_areStallsHere_25 : decode cX12_areStallsHere 25 = .ok (.invokevirtual 211, 3) := by decide +kernel
theorem dX12_areStallsHere_28 : decode cX12_areStallsHere 28 = .ok (.ifCond .eq 18, 3) := by decide +kernel
theorem dX12_areStallsHere_31 : decode cX12_areStallsHere 31 = .ok (.aload_n 0, 1) := by decide +kernel
theorem dX12_areStallsHere_32 : decode cX12_areStallsHere 32 = .ok (.iconst 4, 1) := by decide +kernel
theorem dX12_areStallsHere_33 : decode cX12_areStallsHere 33 = .ok (.iconst 0, 1) := by decide +kernel
theorem dX12_areStallsHere_34 : decode cX12_areStallsHere 34 = .ok (.bipush 7, 2) := by decide +kernel
theorem dX12_areStallsHere_36 : decode cX12_areStallsHere 36 = .ok (.invokevirtual 211, 3) := by decide +kernel
theorem dX12_areStallsHere_39 : decode cX12_areStallsHere 39 = .ok (.ifCond .eq 7, 3) := by decide +kernel
theorem dX12_areStallsHere_42 : decode cX12_areStallsHere 42 = .ok (.iconst 1, 1) := by decide +kernel
theorem dX12_areStallsHere_43 : decode cX12_areStallsHere 43 = .ok (.goto 4, 3) := by decide +kernel
theorem dX12_areStallsHere_46 : decode cX12_areStallsHere 46 = .ok (.iconst 0, 1) := by decide +kernel
theorem dX12_areStallsHere_47 : decode cX12_areStallsHere 47 = .ok (.ireturn, 1) := by decide +kernel
set_option maxHeartbeats 4000000 in
set_option maxRecDepth 100000 in
theorem c_X12_areStallsHere (l : Launch) (D : va_G) (cs : Nat → ClassId) (kK kV : Nat → Nat) (a : Nat) (p0 : Int32) (a_read : Nat) (a_read_c : Nat → Int32) (a_tape : Nat) (a__taped : Int32) (a__rules : Int32) (a_sign : Nat) (a_length : Nat) (a_clause : Nat) (a_clauses : Nat) (a__next : Int32) (a__wrong : Int32) (a__number : Int32) (a__text : Int32) (a__made : Int32) (a__deep : Int32) (a__lines : Int32) (a_open : Nat) (a__opened : Int32) (a_stack : Nat) (a__top : Int32) (a_word : Nat) (a_said : Nat) (a__x : Int32) (a_worth : Nat) (a_mate : Nat) (a_wasSaid : Nat) (a__undone : Int32) (a__boughtNow : Int32) (a_wayBy : Nat) (a_wayThen : Nat) (a__walkMost : Int32) (a__walkGoing : Int32) (a__walkSet : Int32) (a_kept : Nat) (a__drawX : Int64) (a_images : Nat) (a_imageX : Nat) (a_isMade : Nat) (a_tape_c : Nat → Int32) (h_p0 : IV 0 400 p0) (h_a__taped : IV 0 400 a__taped) (h_a__rules : IV 0 6 a__rules) (h_a__next : IV 0 400 a__next) (h_a__text : IV 0 6 a__text) (h_a__made : IV 0 60 a__made) (h_a__lines : IV 0 40 a__lines) (h_a__opened : IV 0 400 a__opened) (h_a__top : IV 0 64 a__top) (h_a__x : IV 0 2147483647 a__x) (h_a__undone : IV 0 20 a__undone) (hf0 : BS a_read_c 0) (sz : Nat) : Met l yX12_areStallsHere (hz_w yX12_areStallsHere cX12_areStallsHere 2 (some .boolean)) ({ frames := 3, cells := 0, slots := 0, locals := 72 }) (va_Pc [.ref a, .int p0] (hz_C D cs kK kV sz [(a_read, .inl (cs 0, 86, .inl a_read_c)), (a, .inr (12, [.ref a_tape, .int a__taped, .int a__rules, .ref a_sign, .ref a_length, .ref a_clause, .ref a_clauses, .ref a_read, .int a__next, .int a__wrong, .int a__number, .int a__text, .int a__made, .int a__deep, .int a__lines, .ref a_open, .int a__opened, .ref a_stack, .int a__top, .ref a_word, .ref a_said, .int a__x, .ref a_worth, .ref a_mate, .ref a_wasSaid, .int a__undone, .int a__boughtNow, .ref a_wayBy, .ref a_wayThen, .int a__walkMost, .int a__walkGoing, .int a__walkSet, .ref a_kept, .long a__drawX, .ref a_images, .ref a_imageX, .ref a_isMade])), (a_tape, .inl (cs 1, 400, .inl a_tape_c))])) (va_Qi (fun (r : Int32) (u : (Nat → Int32) × (Nat → Nat → Int32)) => (r = 0 ∧ IV 0 400 (u.1 2) ∧ (a__next.toInt ≤ (u.1 2).toInt) ∧ (BS (u.2 0) 0) ∧ ((u.1 3).toInt ≠ 0)) ∨ (r = 1 ∧ IV 1 400 a__taped ∧ IV 0 400 (u.1 2) ∧ (a__next.toInt ≤ (u.1 2).toInt) ∧ (BS (u.2 0) 0))) (fun u t => va_P D classes [(a_read, .inl (cs 0, 86, .inl (u.2 0))), (a, .inr (12, [.ref a_tape, .int a__taped, .int a__rules, .ref a_sign, .ref a_length, .ref a_clause, .ref a_clauses, .ref a_read, .int (u.1 2), .int (u.1 3), .int (u.1 1), .int a__text, .int a__made, .int a__deep, .int a__lines, .ref a_open, .int a__opened, .ref a_stack, .int a__top, .ref a_word, .ref a_said, .int a__x, .ref a_worth, .ref a_mate, .ref a_wasSaid, .int a__undone, .int a__boughtNow, .ref a_wayBy, .ref a_wayThen, .int a__walkMost, .int a__walkGoing, .int a__walkSet, .ref a_kept, .long a__drawX, .ref a_images, .ref a_imageX, .ref a_isMade])), (a_tape, .inl (cs 1, 400, .inl a_tape_c))] t.heap ∧ va_D (va_A [(a_read, .inl (cs 0, 86, .inl a_read_c)), (a, .inr (12, [.ref a_tape, .int a__taped, .int a__rules, .ref a_sign, .ref a_length, .ref a_clause, .ref a_clauses, .ref a_read, .int a__next, .int a__wrong, .int a__number, .int a__text, .int a__made, .int a__deep, .int a__lines, .ref a_open, .int a__opened, .ref a_stack, .int a__top, .ref a_word, .ref a_said, .int a__x, .ref a_worth, .ref a_mate, .ref a_wasSaid, .int a__undone, .int a__boughtNow, .ref a_wayBy, .ref a_wayThen, .int a__walkMost, .int a__walkGoing, .int a__walkSet, .ref a_kept, .long a__drawX, .ref a_images, .ref a_imageX, .ref a_isMade])), (a_tape, .inl (cs 1, 400, .inl a_tape_c))] sz) [(a_read, .inl (cs 0, 86, .inl (u.2 0))), (a, .inr (12, [.ref a_tape, .int a__taped, .int a__rules, .ref a_sign, .ref a_length, .ref a_clause, .ref a_clauses, .ref a_read, .int (u.1 2), .int (u.1 3), .int (u.1 1), .int a__text, .int a__made, .int a__deep, .int a__lines, .ref a_open, .int a__opened, .ref a_stack, .int a__top, .ref a_word, .ref a_said, .int a__x, .ref a_worth, .ref a_mate, .ref a_wasSaid, .int a__undone, .int a__boughtNow, .ref a_wayBy, .ref a_wayThen, .int a__walkMost, .int a__walkGoing, .int a__walkSet, .ref a_kept, .long a__drawX, .ref a_images, .ref a_imageX, .ref a_isMade])), (a_tape, .inl (cs 1, 400, .inl a_tape_c))]) (va_A [(a_read, .inl (cs 0, 86, .inl a_read_c)), (a, .inr (12, [.ref a_tape, .int a__taped, .int a__rules, .ref a_sign, .ref a_length, .ref a_clause, .ref a_clauses, .ref a_read, .int a__next, .int a__wrong, .int a__number, .int a__text, .int a__made, .int a__deep, .int a__lines, .ref a_open, .int a__opened, .ref a_stack, .int a__top, .ref a_word, .ref a_said, .int a__x, .ref a_worth, .ref a_mate, .ref a_wasSaid, .int a__undone, .int a__boughtNow, .ref a_wayBy, .ref a_wayThen, .int a__walkMost, .int a__walkGoing, .int a__walkSet, .ref a_kept, .long a__drawX, .ref a_images, .ref a_imageX, .ref a_isMade])), (a_tape, .inl (cs 1, 400, .inl a_tape_c))] sz)) 0 0 (va_A [(a_read, .inl (cs 0, 86, .inl a_read_c)), (a, .inr (12, [.ref a_tape, .int a__taped, .int a__rules, .ref a_sign, .ref a_length, .ref a_clause, .ref a_clauses, .ref a_read, .int a__next, .int a__wrong, .int a__number, .int a__text, .int a__made, .int a__deep, .int a__lines, .ref a_open, .int a__opened, .ref a_stack, .int a__top, .ref a_word, .ref a_said, .int a__x, .ref a_worth, .ref a_mate, .ref a_wasSaid, .int a__undone, .int a__boughtNow, .ref a_wayBy, .ref a_wayThen, .int a__walkMost, .int a__walkGoing, .int a__walkSet, .ref a_kept, .long a__drawX, .ref a_images, .ref a_imageX, .ref a_isMade])), (a_tape, .inl (cs 1, 400, .inl a_tape_c))] sz) := by
  refine Met.ofW (cc := cX12_areStallsHere) (maxL := 2) (ret := (some .boolean)) (by decide) rfl ?_
  intro p e s m args below meth c s₁ B hml hv
  obtain ⟨rfl, hsz, hP, hD0, hE⟩ := hv
  have hx := B.exec
  have hb := B.bytes
  have hr := B.returns
  have hT : ∀ w ∈ TB, w.before _ s = true := fun w h => atoms_spec (ws := hz_w yX12_areStallsHere cX12_areStallsHere 2 (some .boolean)) B.pre w (List.mem_cons_of_mem _ h)
  have hown : s.vm.findClass RX12 = some m.cls := findClass_of_methodNamed B.named
  have hlocks := B.notSynchronized
  clear B
  subst hsz
  have hD := hD0.self (sz := s.heap.size)
  generalize hAe : va_A [(a_read, .inl (cs 0, 86, .inl a_read_c)), (a, .inr (12, [.ref a_tape, .int a__taped, .int a__rules, .ref a_sign, .ref a_length, .ref a_clause, .ref a_clauses, .ref a_read, .int a__next, .int a__wrong, .int a__number, .int a__text, .int a__made, .int a__deep, .int a__lines, .ref a_open, .int a__opened, .ref a_stack, .int a__top, .ref a_word, .ref a_said, .int a__x, .ref a_worth, .ref a_mate, .ref a_wasSaid, .int a__undone, .int a__boughtNow, .ref a_wayBy, .ref a_wayThen, .int a__walkMost, .int a__walkGoing, .int a__walkSet, .ref a_kept, .long a__drawX, .ref a_images, .ref a_imageX, .ref a_isMade])), (a_tape, .inl (cs 1, 400, .inl a_tape_c))] s.heap.size = A at hD hE ⊢
  have hA : ∀ q : Nat, s.heap.size ≤ q → A q := fun q h => by rw [← hAe]; exact Or.inr h
  clear hAe hD0
  have hS : va_S A s.heap s.heap [] := va_S.rf
  have hK := hE.1
  have hl := lv_entry ([.ref a, .int p0]) (n := 2) (Nat.le_of_ble_eq_true rfl)
  rw [lg_entry_eq]
  generalize (lg_sl ([.ref a, .int p0]) ++ List.replicate (2 - (lg_sl ([.ref a, .int p0])).length) Slot.unset).toArray = ls at hl ⊢
  have hl : lv_has ls 2 [(0, .ref a), (1, .int p0)] := hl
  obtain ⟨H, eH⟩ : ∃ z, z = s.heap := ⟨_, rfl⟩
  have hP : va_P D classes [(a_read, .inl (cs 0, 86, .inl a_read_c)), (a, .inr (12, [.ref a_tape, .int a__taped, .int a__rules, .ref a_sign, .ref a_length, .ref a_clause, .ref a_clauses, .ref a_read, .int a__next, .int a__wrong, .int a__number, .int a__text, .int a__made, .int a__deep, .int a__lines, .ref a_open, .int a__opened, .ref a_stack, .int a__top, .ref a_word, .ref a_said, .int a__x, .ref a_worth, .ref a_mate, .ref a_wasSaid, .int a__undone, .int a__boughtNow, .ref a_wayBy, .ref a_wayThen, .int a__walkMost, .int a__walkGoing, .int a__walkSet, .ref a_kept, .long a__drawX, .ref a_images, .ref a_imageX, .ref a_isMade])), (a_tape, .inl (cs 1, 400, .inl a_tape_c))] H := by rw [eH]; exact hP
  have hS : va_S A s.heap H [] := by rw [eH]; exact hS
  rw [← eH]
  clear eH
  obtain ⟨locs, el⟩ : ∃ z : List Loc, z = [] := ⟨_, rfl⟩
  rw [← el] at hS ⊢
  clear el
  have z0 : (0 : Int32).toInt = 0 := by decide
  have z1 : (1 : Int32).toInt = 1 := by decide
  have zm1 : (-1 : Int32).toInt = -1 := by decide
  have i_a__lines : 0 ≤ a__lines.toInt ∧ a__lines.toInt ≤ 40 := h_a__lines
  have i_a__made : 0 ≤ a__made.toInt ∧ a__made.toInt ≤ 60 := h_a__made
  have i_a__next : 0 ≤ a__next.toInt ∧ a__next.toInt ≤ 400 := h_a__next
  have i_a__opened : 0 ≤ a__opened.toInt ∧ a__opened.toInt ≤ 400 := h_a__opened
  have i_a__rules : 0 ≤ a__rules.toInt ∧ a__rules.toInt ≤ 6 := h_a__rules
  have i_a__taped : 0 ≤ a__taped.toInt ∧ a__taped.toInt ≤ 400 := h_a__taped
  have i_a__text : 0 ≤ a__text.toInt ∧ a__text.toInt ≤ 6 := h_a__text
  have i_a__top : 0 ≤ a__top.toInt ∧ a__top.toInt ≤ 64 := h_a__top
  have i_a__undone : 0 ≤ a__undone.toInt ∧ a__undone.toInt ≤ 20 := h_a__undone
  have i_a__x : 0 ≤ a__x.toInt ∧ a__x.toInt ≤ 2147483647 := h_a__x
  have i_p0 : 0 ≤ p0.toInt ∧ p0.toInt ≤ 400 := h_p0
  refine lv_aload_n hx hb dX12_areStallsHere_0 rfl (lv_at hl 0 rfl) ?_
  refine va_get (D := D) (ci := 12) (v := .ref a_read) (C := RX12) (T := TX12) (N := 37) hx hb hT i_X12 hown hK hP 1 rfl rfl 7 (by decide) (hT _ q_181) (fun _ h9 => h9) rfl dX12_areStallsHere_1 ?_
  refine lv_iconst (v := 0) hx hb dX12_areStallsHere_4 (by decide) ?_
  refine va_iald hx hb hK hP 0 0 rfl rfl (iv_vc (by decide)) dX12_areStallsHere_5 ?_
  refine lv_topi (fun v1 ev1 => ?_)
  have h2 : IV 0 8 v1 := (by rw [ev1]; exact bs_i0 hf0)
  have ii3 : 0 ≤ v1.toInt ∧ v1.toInt ≤ 8 := h2
  have lv1 : v1.toInt = (a_read_c 0).toInt := by rw [ev1]; rfl
  refine lv_if_le (tgt := 16) hx hb dX12_areStallsHere_6 (by decide) (fun c4 => ?_) (fun c4 => ?_)
  · have t5 : v1.toInt ≤ 0 := lin_le c4 rfl (by decide)
    have h6 : IV 0 0 v1 := iv_le1 c4 h2 (iv_c (a := 0) (b := 0) (by decide)) (by decide)
    have ii7 : 0 ≤ v1.toInt ∧ v1.toInt ≤ 0 := h6
    refine lv_aload_n hx hb dX12_areStallsHere_16 rfl (lv_at hl 0 rfl) ?_
    have hFc := va_free (wc := [(a, .inr (12, [.ref a_tape, .int a__taped, .int a__rules, .ref a_sign, .ref a_length, .ref a_clause, .ref a_clauses, .ref a_read, .int a__next, .int a__wrong, .int a__number, .int a__text, .int a__made, .int a__deep, .int a__lines, .ref a_open, .int a__opened, .ref a_stack, .int a__top, .ref a_word, .ref a_said, .int a__x, .ref a_worth, .ref a_mate, .ref a_wasSaid, .int a__undone, .int a__boughtNow, .ref a_wayBy, .ref a_wayThen, .int a__walkMost, .int a__walkGoing, .int a__walkSet, .ref a_kept, .long a__drawX, .ref a_images, .ref a_imageX, .ref a_isMade])), (a_tape, .inl (cs 1, 400, .inl a_tape_c))]) hD hS hA [1,2] rfl
    refine va_callv (va_runV (As := []) (rest := []) ⟨hx, hb, hml, hown, hT⟩ (c_X12_passWord l D cs kK kV a a_tape a__taped a__rules a_sign a_length a_clause a_clauses a_read a__next a__wrong a__number a__text a__made a__deep a__lines a_open a__opened a_stack a__top a_word a_said a__x a_worth a_mate a_wasSaid a__undone a__boughtNow a_wayBy a_wayThen a__walkMost a__walkGoing a__walkSet a_kept a__drawX a_images a_imageX a_isMade a_tape_c h_a__taped h_a__rules h_a__next h_a__text h_a__made h_a__lines h_a__opened h_a__top h_a__x h_a__undone H.size) (cwV 0 hT (hz_gV q_952 q_953 q_954 q_701 q_955) rfl rfl rfl (by decide +kernel) ⟨(Nat.le_of_ble_eq_true rfl), (Nat.le_of_ble_eq_true rfl)⟩) ⟨hz_C.blind, va_recv hK hP (ci := 12) (q0 := 1) rfl rfl, hz_C.mk (hP.sub (ws' := [(a, .inr (12, [.ref a_tape, .int a__taped, .int a__rules, .ref a_sign, .ref a_length, .ref a_clause, .ref a_clauses, .ref a_read, .int a__next, .int a__wrong, .int a__number, .int a__text, .int a__made, .int a__deep, .int a__lines, .ref a_open, .int a__opened, .ref a_stack, .int a__top, .ref a_word, .ref a_said, .int a__x, .ref a_worth, .ref a_mate, .ref a_wasSaid, .int a__undone, .int a__boughtNow, .ref a_wayBy, .ref a_wayThen, .int a__walkMost, .int a__walkGoing, .int a__walkSet, .ref a_kept, .long a__drawX, .ref a_images, .ref a_imageX, .ref a_isMade])), (a_tape, .inl (cs 1, 400, .inl a_tape_c))]) [1,2] rfl) (hD.sub (ws' := [(a, .inr (12, [.ref a_tape, .int a__taped, .int a__rules, .ref a_sign, .ref a_length, .ref a_clause, .ref a_clauses, .ref a_read, .int a__next, .int a__wrong, .int a__number, .int a__text, .int a__made, .int a__deep, .int a__lines, .ref a_open, .int a__opened, .ref a_stack, .int a__top, .ref a_word, .ref a_said, .int a__x, .ref a_worth, .ref a_mate, .ref a_wasSaid, .int a__undone, .int a__boughtNow, .ref a_wayBy, .ref a_wayThen, .int a__walkMost, .int a__walkGoing, .int a__walkSet, .ref a_kept, .long a__drawX, .ref a_images, .ref a_imageX, .ref a_isMade])), (a_tape, .inl (cs 1, 400, .inl a_tape_c))]) [1,2] (by decide) rfl) hE hS hFc⟩ rfl rfl hl.1 rfl (lv_room (Nat.le_of_ble_eq_true rfl)) dX12_areStallsHere_17 ⟨(Nat.le_of_ble_eq_true rfl), (Nat.le_of_ble_eq_true rfl)⟩) hS (fun q _ h => hFc q h) hFc (fun o9 t H1 locs ht hvm hw hB hz1 hk1 hS => ?_)
    obtain ⟨hP1, hD1⟩ := hB
    rw [ht] at hP1
    obtain ⟨hP, hD⟩ := va_join (wr := [(a_read, .inl (cs 0, 86, .inl a_read_c))]) (w1 := [(a, .inr (12, [.ref a_tape, .int a__taped, .int a__rules, .ref a_sign, .ref a_length, .ref a_clause, .ref a_clauses, .ref a_read, .int (o9.1 1), .int a__wrong, .int a__number, .int a__text, .int a__made, .int a__deep, .int a__lines, .ref a_open, .int a__opened, .ref a_stack, .int a__top, .ref a_word, .ref a_said, .int a__x, .ref a_worth, .ref a_mate, .ref a_wasSaid, .int a__undone, .int a__boughtNow, .ref a_wayBy, .ref a_wayThen, .int a__walkMost, .int a__walkGoing, .int a__walkSet, .ref a_kept, .long a__drawX, .ref a_images, .ref a_imageX, .ref a_isMade])), (a_tape, .inl (cs 1, 400, .inl a_tape_c))]) hP hD [1, 2] [0] rfl rfl (by decide) (by decide) hk1 hFc hP1 hD1
    generalize H1 = H at hP hS ⊢
    have hP : va_P D classes [(a_read, .inl (cs 0, 86, .inl a_read_c)), (a, .inr (12, [.ref a_tape, .int a__taped, .int a__rules, .ref a_sign, .ref a_length, .ref a_clause, .ref a_clauses, .ref a_read, .int (o9.1 1), .int a__wrong, .int a__number, .int a__text, .int a__made, .int a__deep, .int a__lines, .ref a_open, .int a__opened, .ref a_stack, .int a__top, .ref a_word, .ref a_said, .int a__x, .ref a_worth, .ref a_mate, .ref a_wasSaid, .int a__undone, .int a__boughtNow, .ref a_wayBy, .ref a_wayThen, .int a__walkMost, .int a__walkGoing, .int a__walkSet, .ref a_kept, .long a__drawX, .ref a_images, .ref a_imageX, .ref a_isMade])), (a_tape, .inl (cs 1, 400, .inl a_tape_c))] H := hP
    have hD : va_D A [(a_read, .inl (cs 0, 86, .inl a_read_c)), (a, .inr (12, [.ref a_tape, .int a__taped, .int a__rules, .ref a_sign, .ref a_length, .ref a_clause, .ref a_clauses, .ref a_read, .int (o9.1 1), .int a__wrong, .int a__number, .int a__text, .int a__made, .int a__deep, .int a__lines, .ref a_open, .int a__opened, .ref a_stack, .int a__top, .ref a_word, .ref a_said, .int a__x, .ref a_worth, .ref a_mate, .ref a_wasSaid, .int a__undone, .int a__boughtNow, .ref a_wayBy, .ref a_wayThen, .int a__walkMost, .int a__walkGoing, .int a__walkSet, .ref a_kept, .long a__drawX, .ref a_images, .ref a_imageX, .ref a_isMade])), (a_tape, .inl (cs 1, 400, .inl a_tape_c))] := hD
    clear hk1 hFc hP1 hD1 hz1
    rcases hw with ⟨h10, x11, x12⟩
    have ii13 : 0 ≤ (o9.1 1).toInt ∧ (o9.1 1).toInt ≤ 400 := h10
    refine lv_aload_n hx hb dX12_areStallsHere_20 rfl (lv_at hl 0 rfl) ?_
    refine lv_iconst (v := 0) hx hb dX12_areStallsHere_21 (by decide) ?_
    refine lv_iconst (v := 2) hx hb dX12_areStallsHere_22 (by decide) ?_
    refine lv_bipush (v := 8) hx hb dX12_areStallsHere_23 (by decide) ?_
    have hFc := va_free (wc := [(a_read, .inl (cs 0, 86, .inl a_read_c)), (a, .inr (12, [.ref a_tape, .int a__taped, .int a__rules, .ref a_sign, .ref a_length, .ref a_clause, .ref a_clauses, .ref a_read, .int (o9.1 1), .int a__wrong, .int a__number, .int a__text, .int a__made, .int a__deep, .int a__lines, .ref a_open, .int a__opened, .ref a_stack, .int a__top, .ref a_word, .ref a_said, .int a__x, .ref a_worth, .ref a_mate, .ref a_wasSaid, .int a__undone, .int a__boughtNow, .ref a_wayBy, .ref a_wayThen, .int a__walkMost, .int a__walkGoing, .int a__walkSet, .ref a_kept, .long a__drawX, .ref a_images, .ref a_imageX, .ref a_isMade])), (a_tape, .inl (cs 1, 400, .inl a_tape_c))]) hD hS hA [0,1,2] rfl
    refine va_calli (va_runV (As := [.int 0, .int 2, .int 8]) (rest := []) ⟨hx, hb, hml, hown, hT⟩ (c_X12_cellHere l D cs kK kV a 0 2 8 a_read a_read_c a_tape a__taped a__rules a_sign a_length a_clause a_clauses (o9.1 1) a__wrong a__number a__text a__made a__deep a__lines a_open a__opened a_stack a__top a_word a_said a__x a_worth a_mate a_wasSaid a__undone a__boughtNow a_wayBy a_wayThen a__walkMost a__walkGoing a__walkSet a_kept a__drawX a_images a_imageX a_isMade a_tape_c ((iv_c (by decide))) h_a__taped h_a__rules h10 h_a__text h_a__made h_a__lines h_a__opened h_a__top h_a__x h_a__undone ((ck_0 hf0 (by omega))) H.size) (cwV 3 hT (hz_gV q_1030 q_1031 q_1032 q_701 q_1033) rfl rfl rfl (by decide +kernel) ⟨(Nat.le_of_ble_eq_true rfl), (Nat.le_of_ble_eq_true rfl)⟩) ⟨hz_C.blind, va_recv hK hP (ci := 12) (q0 := 1) rfl rfl, hz_C.mk (hP.sub (ws' := [(a_read, .inl (cs 0, 86, .inl a_read_c)), (a, .inr (12, [.ref a_tape, .int a__taped, .int a__rules, .ref a_sign, .ref a_length, .ref a_clause, .ref a_clauses, .ref a_read, .int (o9.1 1), .int a__wrong, .int a__number, .int a__text, .int a__made, .int a__deep, .int a__lines, .ref a_open, .int a__opened, .ref a_stack, .int a__top, .ref a_word, .ref a_said, .int a__x, .ref a_worth, .ref a_mate, .ref a_wasSaid, .int a__undone, .int a__boughtNow, .ref a_wayBy, .ref a_wayThen, .int a__walkMost, .int a__walkGoing, .int a__walkSet, .ref a_kept, .long a__drawX, .ref a_images, .ref a_imageX, .ref a_isMade])), (a_tape, .inl (cs 1, 400, .inl a_tape_c))]) [0,1,2] rfl) (hD.sub (ws' := [(a_read, .inl (cs 0, 86, .inl a_read_c)), (a, .inr (12, [.ref a_tape, .int a__taped, .int a__rules, .ref a_sign, .ref a_length, .ref a_clause, .ref a_clauses, .ref a_read, .int (o9.1 1), .int a__wrong, .int a__number, .int a__text, .int a__made, .int a__deep, .int a__lines, .ref a_open, .int a__opened, .ref a_stack, .int a__top, .ref a_word, .ref a_said, .int a__x, .ref a_worth, .ref a_mate, .ref a_wasSaid, .int a__undone, .int a__boughtNow, .ref a_wayBy, .ref a_wayThen, .int a__walkMost, .int a__walkGoing, .int a__walkSet, .ref a_kept, .long a__drawX, .ref a_images, .ref a_imageX, .ref a_isMade])), (a_tape, .inl (cs 1, 400, .inl a_tape_c))]) [0,1,2] (by decide) rfl) hE hS hFc⟩ rfl rfl hl.1 rfl (lv_room (Nat.le_of_ble_eq_true rfl)) dX12_areStallsHere_25 ⟨(Nat.le_of_ble_eq_true rfl), (Nat.le_of_ble_eq_true rfl)⟩) hS (fun q _ h => hFc q h) hFc (fun r14 o15 t H1 locs ht hvm hw hB hz1 hk1 hS => ?_)
    obtain ⟨hP1, hD1⟩ := hB
    rw [ht] at hP1
    obtain ⟨hP, hD⟩ := va_join (wr := []) (w1 := [(a_read, .inl (cs 0, 86, .inl (o15.2 0))), (a, .inr (12, [.ref a_tape, .int a__taped, .int a__rules, .ref a_sign, .ref a_length, .ref a_clause, .ref a_clauses, .ref a_read, .int (o15.1 2), .int (o15.1 3), .int (o15.1 1), .int a__text, .int a__made, .int a__deep, .int a__lines, .ref a_open, .int a__opened, .ref a_stack, .int a__top, .ref a_word, .ref a_said, .int a__x, .ref a_worth, .ref a_mate, .ref a_wasSaid, .int a__undone, .int a__boughtNow, .ref a_wayBy, .ref a_wayThen, .int a__walkMost, .int a__walkGoing, .int a__walkSet, .ref a_kept, .long a__drawX, .ref a_images, .ref a_imageX, .ref a_isMade])), (a_tape, .inl (cs 1, 400, .inl a_tape_c))]) hP hD [0, 1, 2] [] rfl rfl (by decide) (by decide) hk1 hFc hP1 hD1
    generalize H1 = H at hP hS ⊢
    have hP : va_P D classes [(a_read, .inl (cs 0, 86, .inl (o15.2 0))), (a, .inr (12, [.ref a_tape, .int a__taped, .int a__rules, .ref a_sign, .ref a_length, .ref a_clause, .ref a_clauses, .ref a_read, .int (o15.1 2), .int (o15.1 3), .int (o15.1 1), .int a__text, .int a__made, .int a__deep, .int a__lines, .ref a_open, .int a__opened, .ref a_stack, .int a__top, .ref a_word, .ref a_said, .int a__x, .ref a_worth, .ref a_mate, .ref a_wasSaid, .int a__undone, .int a__boughtNow, .ref a_wayBy, .ref a_wayThen, .int a__walkMost, .int a__walkGoing, .int a__walkSet, .ref a_kept, .long a__drawX, .ref a_images, .ref a_imageX, .ref a_isMade])), (a_tape, .inl (cs 1, 400, .inl a_tape_c))] H := hP
    have hD : va_D A [(a_read, .inl (cs 0, 86, .inl (o15.2 0))), (a, .inr (12, [.ref a_tape, .int a__taped, .int a__rules, .ref a_sign, .ref a_length, .ref a_clause, .ref a_clauses, .ref a_read, .int (o15.1 2), .int (o15.1 3), .int (o15.1 1), .int a__text, .int a__made, .int a__deep, .int a__lines, .ref a_open, .int a__opened, .ref a_stack, .int a__top, .ref a_word, .ref a_said, .int a__x, .ref a_worth, .ref a_mate, .ref a_wasSaid, .int a__undone, .int a__boughtNow, .ref a_wayBy, .ref a_wayThen, .int a__walkMost, .int a__walkGoing, .int a__walkSet, .ref a_kept, .long a__drawX, .ref a_images, .ref a_imageX, .ref a_isMade])), (a_tape, .inl (cs 1, 400, .inl a_tape_c))] := hD
    clear hk1 hFc hP1 hD1 hz1
    rcases hw with ⟨rfl, h16, x17, x18, x19⟩ | ⟨rfl, h20, h21, x22, x23, x24, x25, x26⟩
    · have ii27 : 0 ≤ (o15.1 2).toInt ∧ (o15.1 2).toInt ≤ 400 := h16
      refine lv_if_eq (tgt := 46) hx hb dX12_areStallsHere_28 (by decide) (fun _ => ?_) (fun z => absurd (by decide) z)
      refine lv_iconst (v := 0) hx hb dX12_areStallsHere_46 (by decide) ?_
      refine W.widen (k := 0) (n := 0) (Nat.le_of_ble_eq_true rfl) (Nat.le_of_ble_eq_true rfl) ?_
      have g28 : a__next.toInt ≤ (o15.1 2).toInt := (by omega)
      exact W.zret (v := 0) hx hb hr rfl (fun t ht hW => ⟨⟨0, (fun k => match k with | 0 => 0 | 1 => o15.1 1 | 2 => o15.1 2 | 3 => o15.1 3 | _ => 0, fun k => match k with | 0 => o15.2 0 | _ => fun _ => 0), rfl, (Or.inl (⟨rfl, h16, g28, x18, x19⟩)), by rw [ht]; exact hP.sub [0, 1, 2] rfl, hD.sub [0, 1, 2] (by decide) rfl⟩, hS.F ht⟩) hS.2.2 dX12_areStallsHere_47
    · have z2 : (2 : Int32).toInt = 2 := by decide
      have z8 : (8 : Int32).toInt = 8 := by decide
      have ii29 : 1 ≤ a__taped.toInt ∧ a__taped.toInt ≤ 400 := h20
      have ii30 : 0 ≤ (o15.1 2).toInt ∧ (o15.1 2).toInt ≤ 400 := h21
      refine lv_if_eq (tgt := 46) hx hb dX12_areStallsHere_28 (by decide) (fun z => absurd z (by decide)) (fun _ => ?_)
      refine lv_aload_n hx hb dX12_areStallsHere_31 rfl (lv_at hl 0 rfl) ?_
      refine lv_iconst (v := 4) hx hb dX12_areStallsHere_32 (by decide) ?_
      refine lv_iconst (v := 0) hx hb dX12_areStallsHere_33 (by decide) ?_
      refine lv_bipush (v := 7) hx hb dX12_areStallsHere_34 (by decide) ?_
      have hFc := va_free (wc := [(a_read, .inl (cs 0, 86, .inl (o15.2 0))), (a, .inr (12, [.ref a_tape, .int a__taped, .int a__rules, .ref a_sign, .ref a_length, .ref a_clause, .ref a_clauses, .ref a_read, .int (o15.1 2), .int (o15.1 3), .int (o15.1 1), .int a__text, .int a__made, .int a__deep, .int a__lines, .ref a_open, .int a__opened, .ref a_stack, .int a__top, .ref a_word, .ref a_said, .int a__x, .ref a_worth, .ref a_mate, .ref a_wasSaid, .int a__undone, .int a__boughtNow, .ref a_wayBy, .ref a_wayThen, .int a__walkMost, .int a__walkGoing, .int a__walkSet, .ref a_kept, .long a__drawX, .ref a_images, .ref a_imageX, .ref a_isMade])), (a_tape, .inl (cs 1, 400, .inl a_tape_c))]) hD hS hA [0,1,2] rfl
      refine va_calli (va_runV (As := [.int 4, .int 0, .int 7]) (rest := []) ⟨hx, hb, hml, hown, hT⟩ (c_X12_cellHere l D cs kK kV a 4 0 7 a_read (o15.2 0) a_tape a__taped a__rules a_sign a_length a_clause a_clauses (o15.1 2) (o15.1 3) (o15.1 1) a__text a__made a__deep a__lines a_open a__opened a_stack a__top a_word a_said a__x a_worth a_mate a_wasSaid a__undone a__boughtNow a_wayBy a_wayThen a__walkMost a__walkGoing a__walkSet a_kept a__drawX a_images a_imageX a_isMade a_tape_c ((iv_c (by decide))) ((iv_w h20 (by decide) (by decide))) h_a__rules h21 h_a__text h_a__made h_a__lines h_a__opened h_a__top h_a__x h_a__undone ((ck_4 x23)) H.size) (cwV 3 hT (hz_gV q_1030 q_1031 q_1032 q_701 q_1033) rfl rfl rfl (by decide +kernel) ⟨(Nat.le_of_ble_eq_true rfl), (Nat.le_of_ble_eq_true rfl)⟩) ⟨hz_C.blind, va_recv hK hP (ci := 12) (q0 := 1) rfl rfl, hz_C.mk (hP.sub (ws' := [(a_read, .inl (cs 0, 86, .inl (o15.2 0))), (a, .inr (12, [.ref a_tape, .int a__taped, .int a__rules, .ref a_sign, .ref a_length, .ref a_clause, .ref a_clauses, .ref a_read, .int (o15.1 2), .int (o15.1 3), .int (o15.1 1), .int a__text, .int a__made, .int a__deep, .int a__lines, .ref a_open, .int a__opened, .ref a_stack, .int a__top, .ref a_word, .ref a_said, .int a__x, .ref a_worth, .ref a_mate, .ref a_wasSaid, .int a__undone, .int a__boughtNow, .ref a_wayBy, .ref a_wayThen, .int a__walkMost, .int a__walkGoing, .int a__walkSet, .ref a_kept, .long a__drawX, .ref a_images, .ref a_imageX, .ref a_isMade])), (a_tape, .inl (cs 1, 400, .inl a_tape_c))]) [0,1,2] rfl) (hD.sub (ws' := [(a_read, .inl (cs 0, 86, .inl (o15.2 0))), (a, .inr (12, [.ref a_tape, .int a__taped, .int a__rules, .ref a_sign, .ref a_length, .ref a_clause, .ref a_clauses, .ref a_read, .int (o15.1 2), .int (o15.1 3), .int (o15.1 1), .int a__text, .int a__made, .int a__deep, .int a__lines, .ref a_open, .int a__opened, .ref a_stack, .int a__top, .ref a_word, .ref a_said, .int a__x, .ref a_worth, .ref a_mate, .ref a_wasSaid, .int a__undone, .int a__boughtNow, .ref a_wayBy, .ref a_wayThen, .int a__walkMost, .int a__walkGoing, .int a__walkSet, .ref a_kept, .long a__drawX, .ref a_images, .ref a_imageX, .ref a_isMade])), (a_tape, .inl (cs 1, 400, .inl a_tape_c))]) [0,1,2] (by decide) rfl) hE hS hFc⟩ rfl rfl hl.1 rfl (lv_room (Nat.le_of_ble_eq_true rfl)) dX12_areStallsHere_36 ⟨(Nat.le_of_ble_eq_true rfl), (Nat.le_of_ble_eq_true rfl)⟩) hS (fun q _ h => hFc q h) hFc (fun r31 o32 t H1 locs ht hvm hw hB hz1 hk1 hS => ?_)
      obtain ⟨hP1, hD1⟩ := hB
      rw [ht] at hP1
      obtain ⟨hP, hD⟩ := va_join (wr := []) (w1 := [(a_read, .inl (cs 0, 86, .inl (o32.2 0))), (a, .inr (12, [.ref a_tape, .int a__taped, .int a__rules, .ref a_sign, .ref a_length, .ref a_clause, .ref a_clauses, .ref a_read, .int (o32.1 2), .int (o32.1 3), .int (o32.1 1), .int a__text, .int a__made, .int a__deep, .int a__lines, .ref a_open, .int a__opened, .ref a_stack, .int a__top, .ref a_word, .ref a_said, .int a__x, .ref a_worth, .ref a_mate, .ref a_wasSaid, .int a__undone, .int a__boughtNow, .ref a_wayBy, .ref a_wayThen, .int a__walkMost, .int a__walkGoing, .int a__walkSet, .ref a_kept, .long a__drawX, .ref a_images, .ref a_imageX, .ref a_isMade])), (a_tape, .inl (cs 1, 400, .inl a_tape_c))]) hP hD [0, 1, 2] [] rfl rfl (by decide) (by decide) hk1 hFc hP1 hD1
      generalize H1 = H at hP hS ⊢
      have hP : va_P D classes [(a_read, .inl (cs 0, 86, .inl (o32.2 0))), (a, .inr (12, [.ref a_tape, .int a__taped, .int a__rules, .ref a_sign, .ref a_length, .ref a_clause, .ref a_clauses, .ref a_read, .int (o32.1 2), .int (o32.1 3), .int (o32.1 1), .int a__text, .int a__made, .int a__deep, .int a__lines, .ref a_open, .int a__opened, .ref a_stack, .int a__top, .ref a_word, .ref a_said, .int a__x, .ref a_worth, .ref a_mate, .ref a_wasSaid, .int a__undone, .int a__boughtNow, .ref a_wayBy, .ref a_wayThen, .int a__walkMost, .int a__walkGoing, .int a__walkSet, .ref a_kept, .long a__drawX, .ref a_images, .ref a_imageX, .ref a_isMade])), (a_tape, .inl (cs 1, 400, .inl a_tape_c))] H := hP
      have hD : va_D A [(a_read, .inl (cs 0, 86, .inl (o32.2 0))), (a, .inr (12, [.ref a_tape, .int a__taped, .int a__rules, .ref a_sign, .ref a_length, .ref a_clause, .ref a_clauses, .ref a_read, .int (o32.1 2), .int (o32.1 3), .int (o32.1 1), .int a__text, .int a__made, .int a__deep, .int a__lines, .ref a_open, .int a__opened, .ref a_stack, .int a__top, .ref a_word, .ref a_said, .int a__x, .ref a_worth, .ref a_mate, .ref a_wasSaid, .int a__undone, .int a__boughtNow, .ref a_wayBy, .ref a_wayThen, .int a__walkMost, .int a__walkGoing, .int a__walkSet, .ref a_kept, .long a__drawX, .ref a_images, .ref a_imageX, .ref a_isMade])), (a_tape, .inl (cs 1, 400, .inl a_tape_c))] := hD
      clear hk1 hFc hP1 hD1 hz1
      rcases hw with ⟨rfl, h33, x34, x35, x36⟩ | ⟨rfl, h37, h38, x39, x40, x41, x42, x43⟩
      · have ii44 : 0 ≤ (o32.1 2).toInt ∧ (o32.1 2).toInt ≤ 400 := h33
        refine lv_if_eq (tgt := 46) hx hb dX12_areStallsHere_39 (by decide) (fun _ => ?_) (fun z => absurd (by decide) z)
        refine lv_iconst (v := 0) hx hb dX12_areStallsHere_46 (by decide) ?_
        refine W.widen (k := 0) (n := 0) (Nat.le_of_ble_eq_true rfl) (Nat.le_of_ble_eq_true rfl) ?_
        have g45 : a__next.toInt ≤ (o32.1 2).toInt := (by omega)
        exact W.zret (v := 0) hx hb hr rfl (fun t ht hW => ⟨⟨0, (fun k => match k with | 0 => 0 | 1 => o32.1 1 | 2 => o32.1 2 | 3 => o32.1 3 | _ => 0, fun k => match k with | 0 => o32.2 0 | _ => fun _ => 0), rfl, (Or.inl (⟨rfl, h33, g45, x35, x36⟩)), by rw [ht]; exact hP.sub [0, 1, 2] rfl, hD.sub [0, 1, 2] (by decide) rfl⟩, hS.F ht⟩) hS.2.2 dX12_areStallsHere_47
      · have z4 : (4 : Int32).toInt = 4 := by decide
        have z7 : (7 : Int32).toInt = 7 := by decide
        have ii46 : 1 ≤ a__taped.toInt ∧ a__taped.toInt ≤ 400 := h37
        have ii47 : 0 ≤ (o32.1 2).toInt ∧ (o32.1 2).toInt ≤ 400 := h38
        refine lv_if_eq (tgt := 46) hx hb dX12_areStallsHere_39 (by decide) (fun z => absurd z (by decide)) (fun _ => ?_)
        refine lv_iconst (v := 1) hx hb dX12_areStallsHere_42 (by decide) ?_
        refine lv_goto (tgt := 47) hx hb dX12_areStallsHere_43 (by decide) ?_
        refine W.widen (k := 0) (n := 0) (Nat.le_of_ble_eq_true rfl) (Nat.le_of_ble_eq_true rfl) ?_
        have g48 : a__next.toInt ≤ (o32.1 2).toInt := (by omega)
        exact W.zret (v := 1) hx hb hr rfl (fun t ht hW => ⟨⟨1, (fun k => match k with | 0 => 0 | 1 => o32.1 1 | 2 => o32.1 2 | 3 => o32.1 3 | _ => 0, fun k => match k with | 0 => o32.2 0 | _ => fun _ => 0), rfl, (Or.inr ((⟨rfl, h37, h38, g48, x40⟩))), by rw [ht]; exact hP.sub [0, 1, 2] rfl, hD.sub [0, 1, 2] (by decide) rfl⟩, hS.F ht⟩) hS.2.2 dX12_areStallsHere_47
  · have t49 : v1.toInt > 0 := lin_leN c4 rfl (by decide)
    have h50 : IV 1 8 v1 := iv_lt2 (Int32.not_le.mp c4) (iv_c (a := 0) (b := 0) (by decide)) h2 (by decide)
    have ii51 : 1 ≤ v1.toInt ∧ v1.toInt ≤ 8 := h50
    refine lv_aload_n hx hb dX12_areStallsHere_9 rfl (lv_at hl 0 rfl) ?_
    refine lv_iconst (v := 4) hx hb dX12_areStallsHere_10 (by decide) ?_
    refine lv_iload_n hx hb dX12_areStallsHere_11 rfl (lv_at hl 1 rfl) ?_
    have hFc := va_free (wc := [(a, .inr (12, [.ref a_tape, .int a__taped, .int a__rules, .ref a_sign, .ref a_length, .ref a_clause, .ref a_clauses, .ref a_read, .int a__next, .int a__wrong, .int a__number, .int a__text, .int a__made, .int a__deep, .int a__lines, .ref a_open, .int a__opened, .ref a_stack, .int a__top, .ref a_word, .ref a_said, .int a__x, .ref a_worth, .ref a_mate, .ref a_wasSaid, .int a__undone, .int a__boughtNow, .ref a_wayBy, .ref a_wayThen, .int a__walkMost, .int a__walkGoing, .int a__walkSet, .ref a_kept, .long a__drawX, .ref a_images, .ref a_imageX, .ref a_isMade]))]) hD hS hA [1] rfl
    refine va_calli (va_runV (As := [.int 4, .int p0]) (rest := []) ⟨hx, hb, hml, hown, hT⟩ (c_X12_fails l D cs kK kV a 4 p0 a_tape a__taped a__rules a_sign a_length a_clause a_clauses a_read a__next a__wrong a__number a__text a__made a__deep a__lines a_open a__opened a_stack a__top a_word a_said a__x a_worth a_mate a_wasSaid a__undone a__boughtNow a_wayBy a_wayThen a__walkMost a__walkGoing a__walkSet a_kept a__drawX a_images a_imageX a_isMade ((iv_c (by decide))) h_p0 h_a__taped h_a__rules h_a__next h_a__text h_a__made h_a__lines h_a__opened h_a__top h_a__x h_a__undone H.size) (cwV 2 hT (hz_gV q_960 q_961 q_962 q_701 q_963) rfl rfl rfl (by decide +kernel) ⟨(Nat.le_of_ble_eq_true rfl), (Nat.le_of_ble_eq_true rfl)⟩) ⟨hz_C.blind, va_recv hK hP (ci := 12) (q0 := 1) rfl rfl, hz_C.mk (hP.sub (ws' := [(a, .inr (12, [.ref a_tape, .int a__taped, .int a__rules, .ref a_sign, .ref a_length, .ref a_clause, .ref a_clauses, .ref a_read, .int a__next, .int a__wrong, .int a__number, .int a__text, .int a__made, .int a__deep, .int a__lines, .ref a_open, .int a__opened, .ref a_stack, .int a__top, .ref a_word, .ref a_said, .int a__x, .ref a_worth, .ref a_mate, .ref a_wasSaid, .int a__undone, .int a__boughtNow, .ref a_wayBy, .ref a_wayThen, .int a__walkMost, .int a__walkGoing, .int a__walkSet, .ref a_kept, .long a__drawX, .ref a_images, .ref a_imageX, .ref a_isMade]))]) [1] rfl) (hD.sub (ws' := [(a, .inr (12, [.ref a_tape, .int a__taped, .int a__rules, .ref a_sign, .ref a_length, .ref a_clause, .ref a_clauses, .ref a_read, .int a__next, .int a__wrong, .int a__number, .int a__text, .int a__made, .int a__deep, .int a__lines, .ref a_open, .int a__opened, .ref a_stack, .int a__top, .ref a_word, .ref a_said, .int a__x, .ref a_worth, .ref a_mate, .ref a_wasSaid, .int a__undone, .int a__boughtNow, .ref a_wayBy, .ref a_wayThen, .int a__walkMost, .int a__walkGoing, .int a__walkSet, .ref a_kept, .long a__drawX, .ref a_images, .ref a_imageX, .ref a_isMade]))]) [1] (by decide) rfl) hE hS hFc⟩ rfl rfl hl.1 rfl (lv_room (Nat.le_of_ble_eq_true rfl)) dX12_areStallsHere_12 ⟨(Nat.le_of_ble_eq_true rfl), (Nat.le_of_ble_eq_true rfl)⟩) hS (fun q _ h => hFc q h) hFc (fun r52 o53 t H1 locs ht hvm hw hB hz1 hk1 hS => ?_)
    obtain ⟨hP1, hD1⟩ := hB
    rw [ht] at hP1
    obtain ⟨hP, hD⟩ := va_join (wr := [(a_read, .inl (cs 0, 86, .inl a_read_c)), (a_tape, .inl (cs 1, 400, .inl a_tape_c))]) (w1 := [(a, .inr (12, [.ref a_tape, .int a__taped, .int a__rules, .ref a_sign, .ref a_length, .ref a_clause, .ref a_clauses, .ref a_read, .int a__next, .int (o53.1 1), .int a__number, .int a__text, .int a__made, .int a__deep, .int a__lines, .ref a_open, .int a__opened, .ref a_stack, .int a__top, .ref a_word, .ref a_said, .int a__x, .ref a_worth, .ref a_mate, .ref a_wasSaid, .int a__undone, .int a__boughtNow, .ref a_wayBy, .ref a_wayThen, .int a__walkMost, .int a__walkGoing, .int a__walkSet, .ref a_kept, .long a__drawX, .ref a_images, .ref a_imageX, .ref a_isMade]))]) hP hD [1] [0, 2] rfl rfl (by decide) (by decide) hk1 hFc hP1 hD1
    generalize H1 = H at hP hS ⊢
    have hP : va_P D classes [(a_read, .inl (cs 0, 86, .inl a_read_c)), (a_tape, .inl (cs 1, 400, .inl a_tape_c)), (a, .inr (12, [.ref a_tape, .int a__taped, .int a__rules, .ref a_sign, .ref a_length, .ref a_clause, .ref a_clauses, .ref a_read, .int a__next, .int (o53.1 1), .int a__number, .int a__text, .int a__made, .int a__deep, .int a__lines, .ref a_open, .int a__opened, .ref a_stack, .int a__top, .ref a_word, .ref a_said, .int a__x, .ref a_worth, .ref a_mate, .ref a_wasSaid, .int a__undone, .int a__boughtNow, .ref a_wayBy, .ref a_wayThen, .int a__walkMost, .int a__walkGoing, .int a__walkSet, .ref a_kept, .long a__drawX, .ref a_images, .ref a_imageX, .ref a_isMade]))] H := hP
    have hD : va_D A [(a_read, .inl (cs 0, 86, .inl a_read_c)), (a_tape, .inl (cs 1, 400, .inl a_tape_c)), (a, .inr (12, [.ref a_tape, .int a__taped, .int a__rules, .ref a_sign, .ref a_length, .ref a_clause, .ref a_clauses, .ref a_read, .int a__next, .int (o53.1 1), .int a__number, .int a__text, .int a__made, .int a__deep, .int a__lines, .ref a_open, .int a__opened, .ref a_stack, .int a__top, .ref a_word, .ref a_said, .int a__x, .ref a_worth, .ref a_mate, .ref a_wasSaid, .int a__undone, .int a__boughtNow, .ref a_wayBy, .ref a_wayThen, .int a__walkMost, .int a__walkGoing, .int a__walkSet, .ref a_kept, .long a__drawX, .ref a_images, .ref a_imageX, .ref a_isMade]))] := hD
    clear hk1 hFc hP1 hD1 hz1
    rcases hw with ⟨rfl, x54⟩
    refine W.widen (k := 0) (n := 0) (Nat.le_of_ble_eq_true rfl) (Nat.le_of_ble_eq_true rfl) ?_
    have g55 : a__next.toInt ≤ a__next.toInt := (by omega)
    exact W.zret (v := 0) hx hb hr rfl (fun t ht hW => ⟨⟨0, (fun k => match k with | 0 => 0 | 1 => a__number | 2 => a__next | 3 => o53.1 1 | _ => 0, fun k => match k with | 0 => a_read_c | _ => fun _ => 0), rfl, (Or.inl (⟨rfl, h_a__next, g55, hf0, x54⟩)), by rw [ht]; exact hP.sub [0, 2, 1] rfl, hD.sub [0, 2, 1] (by decide) rfl⟩, hS.F ht⟩) hS.2.2 dX12_areStallsHere_15
theorem dX12_isHalfHere_0 : decode cX12_isHalfHere 0 = .ok (.aload_n 0, 1) := by decide +kernel
theorem dX12_isHalfHere_1 : decode cX12_isHalfHere 1 = .ok (.getfield 26, 3) := by decide +kernel
theorem dX12_isHalfHere_4 : decode cX12_isHalfHere 4 = .ok (.iconst 1, 1) := by decide +kernel
theorem dX12_isHalfHere_5 : decode cX12_isHalfHere 5 = .ok (.iaload, 1) := by decide +kernel
theorem dX12_isHalfHere_6 : decode cX12_isHalfHere 6 = .ok (.bipush 12, 2) := by decide +kernel
theorem dX12_isHalfHere_8 : decode cX12_isHalfHere 8 = .ok (.if_icmp .ne 10, 3) := by decide +kernel
theorem dX12_isHalfHere_11 : decode cX12_isHalfHere 11 = .ok (.aload_n 0, 1) := by decide +kernel
theorem dX12_isHalfHere_12 : decode cX12_isHalfHere 12 = .ok (.iconst 4, 1) := by decide +kernel
theorem dX12_isHalfHere_13 : decode cX12_isHalfHere 13 = .ok (.iload_n 1, 1) := by decide +kernel
theorem dX12_isHalfHere_14 : decode cX12_isHalfHere 14 = .ok (.invokevirtual 102, 3) := by decide +kernel
theorem dX12_isHalfHere_17 : decode cX12_isHalfHere 17 = .ok (.ireturn, 1) := by decide +kernel
theorem dX12_isHalfHere_18 : decode cX12_isHalfHere 18 = .ok (.aload_n 0, 1) := by decide +kernel
theorem dX12_isHalfHere_19 : decode cX12_isHalfHere 19 = .ok (.invokevirtual 96, 3) := by decide +kernel
theorem dX12_isHalfHere_22 : decode cX12_isHalfHere 22 = .ok (.bipush 10, 2) := by decide +kernel
theorem dX12_isHalfHere_24 : decode cX12_isHalfHere 24 = .ok (.iconst 5, 1) := by decide +kernel
theorem dX12_isHalfHere_25 : decode cX12_isHalfHere 25 = .ok (.aload_n 0, 1) := by decide +kernel
theorem dX12_isHalfHere_26 : decode cX12_isHalfHere 26 = .ok (.getfield 26, 3) := by decide +kernel
theorem dX12_isHalfHere_29 : decode cX12_isHalfHere 29 = .ok (.iconst 1, 1) := by decide +kernel
theorem dX12_isHalfHere_30 : decode cX12_isHalfHere 30 = .ok (.iaload, 1) := by decide +kernel
theorem dX12_isHalfHere_31 : decode cX12_isHalfHere 31 = .ok (.imul, 1) := by decide +kernel
theorem dX12_isHalfHere_32 : decode cX12_isHalfHere 32 = .ok (.iadd, 1) := by decide +kernel
theorem dX12_isHalfHere_33 : decode cX12_isHalfHere 33 = .ok (.istore_n 2, 1) := by decide +kernel
theorem dX12_isHalfHere_34 : decode cX12_isHalfHere 34 = .ok (.aload_n 0, 1) := by decide +kernel
theorem dX12_isHalfHere_35 : decode cX12_isHalfHere 35 = .ok (.iload_n 2, 1) := by decide +kernel
theorem dX12_isHalfHere_36 : decode cX12_isHalfHere 36 = .ok (.iconst 3, 1) := by decide +kernel
theorem dX12_isHalfHere_37 : decode cX12_isHalfHere 37 = .ok (.iadd, 1) := by decide +kernel
theorem dX12_isHalfHere_38 : decode cX12_isHalfHere 38 = .ok (.iconst 0, 1) := by decide +kernel
theorem dX12_isHalfHere_39 : decode cX12_isHalfHere 39 = .ok (.aload_n 0, 1) := by decide +kernel
theorem dX12_isHalfHere_40 : decode cX12_isHalfHere 40 = .ok (.getfield 26, 3) := by decide +kernel
theorem dX12_isHalfHere_43 : decode cX12_isHalfHere 43 = .ok (.iconst 0, 1) := by decide +kernel
theorem dX12_isHalfHere_44 : decode cX12_isHalfHere 44 = .ok (.iaload, 1) := by decide +kernel
theorem dX12_isHalfHere_45 : decode cX12_isHalfHere 45 = .ok (.iconst 1, 1) := by decide +kernel
theorem dX12_isHalfHere_46 : decode cX12_isHalfHere 46 = .ok (.isub, 1) := by decide +kernel
theorem dX12_isHalfHere_47 : decode cX12_isHalfHere 47 = .ok (.invokevirtual 211, 3) := by decide +kernel
theorem dX12_isHalfHere_50 : decode cX12_isHalfHere 50 = .ok (.ifCond .eq 39, 3) := by decide +kernel
theorem dX12_isHalfHere_53 : decode cX12_isHalfHere 53 = .ok (.aload_n 0, 1) := by decide +kernel
theorem dX12_isHalfHere_54 : decode cX12_isHalfHere 54 = .ok (.iload_n 2, 1) := by decide +kernel
theorem dX12_isHalfHere_55 : decode cX12_isHalfHere 55 = .ok (.iconst 0, 1) := by decide +kernel
theorem dX12_isHalfHere_56 : decode cX12_isHalfHere 56 = .ok (.bipush 99, 2) := by decide +kernel
theorem dX12_isHalfHere_58 : decode cX12_isHalfHere 58 = .ok (.invokevirtual 211, 3) := by decide +kernel
theorem dX12_isHalfHere_61 : decode cX12_isHalfHere 61 = .ok (.ifCond .eq 28, 3) := by decide +kernel
theorem dX12_isHalfHere_64 : decode cX12_isHalfHere 64 = .ok (.aload_n 0, 1) := by decide +kernel
theorem dX12_isHalfHere_65 : decode cX12_isHalfHere 65 = .ok (.iload_n 2, 1) := by decide +kernel
theorem dX12_isHalfHere_66 : decode cX12_isHalfHere 66 = .ok (.iconst 1, 1) := by decide +kernel
theorem dX12_isHalfHere_67 : decode cX12_isHalfHere 67 = .ok (.iadd, 1) := by decide +kernel
theorem dX12_isHalfHere_68 : decode cX12_isHalfHere 68 = .ok (.iconst 0, 1) := by decide +kernel
theorem dX12_isHalfHere_69 : decode cX12_isHalfHere 69 = .ok (.iconst 1, 1) := by decide +kernel
theorem dX12_isHalfHere_70 : decode cX12_isHalfHere 70 = .ok (.invokevirtual 211, 3) := by decide +kernel
theorem dX12_isHalfHere_73 : decode cX12_isHalfHere 73 = .ok (.ifCond .eq 16, 3) := by decide +kernel
theorem dX12_isHalfHere_76 : decode cX12_isHalfHere 76 = .ok (.aload_n 0, 1) := by decide +kernel
theorem dX12_isHalfHere_77 : decode cX12_isHalfHere 77 = .ok (.iload_n 2, 1) := by decide +kernel
theorem dX12_isHalfHere_78 : decode cX12_isHalfHere 78 = .ok (.iconst 2, 1) := by decide +kernel
theorem dX12_isHalfHere_79 : decode cX12_isHalfHere 79 = .ok (.iadd, 1) := by decide +kernel
theorem dX12_isHalfHere_80 : decode cX12_isHalfHere 80 = .ok (.iconst 1, 1) := by decide +kernel
theorem dX12_isHalfHere_81 : decode cX12_isHalfHere 81 = .ok (.bipush 99, 2) := by decide +kernel
theorem dX12_isHalfHere_83 : decode cX12_isHalfHere 83 = .ok (.invokevirtual 211, 3) := by decide +kernel
theorem dX12_isHalfHere_86 : decode cX12_isHalfHere 86 = .ok (.ifCond .ne 5, 3) := by decide +kernel
theorem dX12_isHalfHere_89 : decode cX12_isHalfHere 89 = .ok (.iconst 0, 1) := by decide +kernel
theorem dX12_isHalfHere_90 : decode cX12_isHalfHere 90 = .ok (.ireturn, 1) := by decide +kernel
theorem dX12_isHalfHere_91 : decode cX12_isHalfHere 91 = .ok (.aload_n 0, 1) := by decide +kernel
theorem dX12_isHalfHere_92 : decode cX12_isHalfHere 92 = .ok (.getfield 26, 3) := by decide +kernel
theorem dX12_isHalfHere_95 : decode cX12_isHalfHere 95 = .ok (.iload_n 2, 1) := by decide +kernel
theorem dX12_isHalfHere_96 : decode cX12_isHalfHere 96 = .ok (.iconst 4, 1) := by decide +kernel
theorem dX12_isHalfHere_97 : decode cX12_isHalfHere 97 = .ok (.iadd, 1) := by decide +kernel
theorem dX12_isHalfHere_98 : decode cX12_isHalfHere 98 = .ok (.iconst 0, 1) := by decide +kernel
theorem dX12_isHalfHere_99 : decode cX12_isHalfHere 99 = .ok (.iastore, 1) := by decide +kernel
theorem dX12_isHalfHere_100 : decode cX12_isHalfHere 100 = .ok (.aload_n 0, 1) := by decide +kernel
theorem dX12_isHalfHere_101 : decode cX12_isHalfHere 101 = .ok (.getfield 26, 3) := by decide +kernel
theorem dX12_isHalfHere_104 : decode cX12_isHalfHere 104 = .ok (.iconst 1, 1) := by decide +kernel
theorem dX12_isHalfHere_105 : decode cX12_isHalfHere 105 = .ok (.dup2, 1) := by decide +kernel
theorem dX12_isHalfHere_106 : decode cX12_isHalfHere 106 = .ok (.iaload, 1) := by decide +kernel
theorem dX12_isHalfHere_107 : decode cX12_isHalfHere 107 = .ok (.iconst 1, 1) := by decide +kernel
theorem dX12_isHalfHere_108 : decode cX12_isHalfHere 108 = .ok (.iadd, 1) := by decide +kernel
theorem dX12_isHalfHere_109 : decode cX12_isHalfHere 109 = .ok (.iastore, 1) := by decide +kernel
theorem dX12_isHalfHere_110 : decode cX12_isHalfHere 110 = .ok (.iconst 1, 1) := by decide +kernel
theorem dX12_isHalfHere_111 : decode cX12_isHalfHere 111 = .ok (.ireturn, 1) := by decide +kernel
set_option maxHeartbeats 4000000 in
set_option maxRecDepth 100000 in
theorem c_X12_isHalfHere (l : Launch) (D : va_G) (cs : Nat → ClassId) (kK kV : Nat → Nat) (a : Nat) (p0 : Int32) (a_read : Nat) (a_read_c : Nat → Int32) (a_tape : Nat) (a__taped : Int32) (a__rules : Int32) (a_sign : Nat) (a_length : Nat) (a_clause : Nat) (a_clauses : Nat) (a__next : Int32) (a__wrong : Int32) (a__number : Int32) (a__text : Int32) (a__made : Int32) (a__deep : Int32) (a__lines : Int32) (a_open : Nat) (a__opened : Int32) (a_stack : Nat) (a__top : Int32) (a_word : Nat) (a_said : Nat) (a__x : Int32) (a_worth : Nat) (a_mate : Nat) (a_wasSaid : Nat) (a__undone : Int32) (a__boughtNow : Int32) (a_wayBy : Nat) (a_wayThen : Nat) (a__walkMost : Int32) (a__walkGoing : Int32) (a__walkSet : Int32) (a_kept : Nat) (a__drawX : Int64) (a_images : Nat) (a_imageX : Nat) (a_isMade : Nat) (a_tape_c : Nat → Int32) (h_p0 : IV 0 400 p0) (h_a__taped : IV 0 400 a__taped) (h_a__rules : IV 0 6 a__rules) (h_a__next : IV 0 400 a__next) (h_a__text : IV 0 6 a__text) (h_a__made : IV 0 60 a__made) (h_a__lines : IV 0 40 a__lines) (h_a__opened : IV 0 400 a__opened) (h_a__top : IV 0 64 a__top) (h_a__x : IV 0 2147483647 a__x) (h_a__undone : IV 0 20 a__undone) (hf0 : BS a_read_c 0) (hf1 : 1 ≤ (a_read_c 0).toInt) (sz : Nat) : Met l yX12_isHalfHere (hz_w yX12_isHalfHere cX12_isHalfHere 3 (some .boolean)) ({ frames := 3, cells := 0, slots := 0, locals := 72 }) (va_Pc [.ref a, .int p0] (hz_C D cs kK kV sz [(a_read, .inl (cs 0, 86, .inl a_read_c)), (a, .inr (12, [.ref a_tape, .int a__taped, .int a__rules, .ref a_sign, .ref a_length, .ref a_clause, .ref a_clauses, .ref a_read, .int a__next, .int a__wrong, .int a__number, .int a__text, .int a__made, .int a__deep, .int a__lines, .ref a_open, .int a__opened, .ref a_stack, .int a__top, .ref a_word, .ref a_said, .int a__x, .ref a_worth, .ref a_mate, .ref a_wasSaid, .int a__undone, .int a__boughtNow, .ref a_wayBy, .ref a_wayThen, .int a__walkMost, .int a__walkGoing, .int a__walkSet, .ref a_kept, .long a__drawX, .ref a_images, .ref a_imageX, .ref a_isMade])), (a_tape, .inl (cs 1, 400, .inl a_tape_c))])) (va_Qi (fun (r : Int32) (u : (Nat → Int32) × (Nat → Nat → Int32)) => (r = 0 ∧ IV 0 400 (u.1 2) ∧ (a__next.toInt ≤ (u.1 2).toInt) ∧ (BS (u.2 0) 0) ∧ ((u.1 3).toInt ≠ 0)) ∨ (r = 1 ∧ IV 1 400 a__taped ∧ IV 0 400 (u.1 2) ∧ (a__next.toInt ≤ (u.1 2).toInt) ∧ (BS (u.2 0) 0))) (fun u t => va_P D classes [(a_read, .inl (cs 0, 86, .inl (u.2 0))), (a, .inr (12, [.ref a_tape, .int a__taped, .int a__rules, .ref a_sign, .ref a_length, .ref a_clause, .ref a_clauses, .ref a_read, .int (u.1 2), .int (u.1 3), .int (u.1 1), .int a__text, .int a__made, .int a__deep, .int a__lines, .ref a_open, .int a__opened, .ref a_stack, .int a__top, .ref a_word, .ref a_said, .int a__x, .ref a_worth, .ref a_mate, .ref a_wasSaid, .int a__undone, .int a__boughtNow, .ref a_wayBy, .ref a_wayThen, .int a__walkMost, .int a__walkGoing, .int a__walkSet, .ref a_kept, .long a__drawX, .ref a_images, .ref a_imageX, .ref a_isMade])), (a_tape, .inl (cs 1, 400, .inl a_tape_c))] t.heap ∧ va_D (va_A [(a_read, .inl (cs 0, 86, .inl a_read_c)), (a, .inr (12, [.ref a_tape, .int a__taped, .int a__rules, .ref a_sign, .ref a_length, .ref a_clause, .ref a_clauses, .ref a_read, .int a__next, .int a__wrong, .int a__number, .int a__text, .int a__made, .int a__deep, .int a__lines, .ref a_open, .int a__opened, .ref a_stack, .int a__top, .ref a_word, .ref a_said, .int a__x, .ref a_worth, .ref a_mate, .ref a_wasSaid, .int a__undone, .int a__boughtNow, .ref a_wayBy, .ref a_wayThen, .int a__walkMost, .int a__walkGoing, .int a__walkSet, .ref a_kept, .long a__drawX, .ref a_images, .ref a_imageX, .ref a_isMade])), (a_tape, .inl (cs 1, 400, .inl a_tape_c))] sz) [(a_read, .inl (cs 0, 86, .inl (u.2 0))), (a, .inr (12, [.ref a_tape, .int a__taped, .int a__rules, .ref a_sign, .ref a_length, .ref a_clause, .ref a_clauses, .ref a_read, .int (u.1 2), .int (u.1 3), .int (u.1 1), .int a__text, .int a__made, .int a__deep, .int a__lines, .ref a_open, .int a__opened, .ref a_stack, .int a__top, .ref a_word, .ref a_said, .int a__x, .ref a_worth, .ref a_mate, .ref a_wasSaid, .int a__undone, .int a__boughtNow, .ref a_wayBy, .ref a_wayThen, .int a__walkMost, .int a__walkGoing, .int a__walkSet, .ref a_kept, .long a__drawX, .ref a_images, .ref a_imageX, .ref a_isMade])), (a_tape, .inl (cs 1, 400, .inl a_tape_c))]) (va_A [(a_read, .inl (cs 0, 86, .inl a_read_c)), (a, .inr (12, [.ref a_tape, .int a__taped, .int a__rules, .ref a_sign, .ref a_length, .ref a_clause, .ref a_clauses, .ref a_read, .int a__next, .int a__wrong, .int a__number, .int a__text, .int a__made, .int a__deep, .int a__lines, .ref a_open, .int a__opened, .ref a_stack, .int a__top, .ref a_word, .ref a_said, .int a__x, .ref a_worth, .ref a_mate, .ref a_wasSaid, .int a__undone, .int a__boughtNow, .ref a_wayBy, .ref a_wayThen, .int a__walkMost, .int a__walkGoing, .int a__walkSet, .ref a_kept, .long a__drawX, .ref a_images, .ref a_imageX, .ref a_isMade])), (a_tape, .inl (cs 1, 400, .inl a_tape_c))] sz)) 0 0 (va_A [(a_read, .inl (cs 0, 86, .inl a_read_c)), (a, .inr (12, [.ref a_tape, .int a__taped, .int a__rules, .ref a_sign, .ref a_length, .ref a_clause, .ref a_clauses, .ref a_read, .int a__next, .int a__wrong, .int a__number, .int a__text, .int a__made, .int a__deep, .int a__lines, .ref a_open, .int a__opened, .ref a_stack, .int a__top, .ref a_word, .ref a_said, .int a__x, .ref a_worth, .ref a_mate, .ref a_wasSaid, .int a__undone, .int a__boughtNow, .ref a_wayBy, .ref a_wayThen, .int a__walkMost, .int a__walkGoing, .int a__walkSet, .ref a_kept, .long a__drawX, .ref a_images, .ref a_imageX, .ref a_isMade])), (a_tape, .inl (cs 1, 400, .inl a_tape_c))] sz) := by
  refine Met.ofW (cc := cX12_isHalfHere) (maxL := 3) (ret := (some .boolean)) (by decide) rfl ?_
  intro p e s m args below meth c s₁ B hml hv
  obtain ⟨rfl, hsz, hP, hD0, hE⟩ := hv
  have hx := B.exec
  have hb := B.bytes
  have hr := B.returns
  have hT : ∀ w ∈ TB, w.before _ s = true := fun w h => atoms_spec (ws := hz_w yX12_isHalfHere cX12_isHalfHere 3 (some .boolean)) B.pre w (List.mem_cons_of_mem _ h)
  have hown : s.vm.findClass RX12 = some m.cls := findClass_of_methodNamed B.named
  have hlocks := B.notSynchronized
  clear B
  subst hsz
  have hD := hD0.self (sz := s.heap.size)
  generalize hAe : va_A [(a_read, .inl (cs 0, 86, .inl a_read_c)), (a, .inr (12, [.ref a_tape, .int a__taped, .int a__rules, .ref a_sign, .ref a_length, .ref a_clause, .ref a_clauses, .ref a_read, .int a__next, .int a__wrong, .int a__number, .int a__text, .int a__made, .int a__deep, .int a__lines, .ref a_open, .int a__opened, .ref a_stack, .int a__top, .ref a_word, .ref a_said, .int a__x, .ref a_worth, .ref a_mate, .ref a_wasSaid, .int a__undone, .int a__boughtNow, .ref a_wayBy, .ref a_wayThen, .int a__walkMost, .int a__walkGoing, .int a__walkSet, .ref a_kept, .long a__drawX, .ref a_images, .ref a_imageX, .ref a_isMade])), (a_tape, .inl (cs 1, 400, .inl a_tape_c))] s.heap.size = A at hD hE ⊢
  have hA : ∀ q : Nat, s.heap.size ≤ q → A q := fun q h => by rw [← hAe]; exact Or.inr h
  clear hAe hD0
  have hS : va_S A s.heap s.heap [] := va_S.rf
  have hK := hE.1
  have hl := lv_entry ([.ref a, .int p0]) (n := 3) (Nat.le_of_ble_eq_true rfl)
  rw [lg_entry_eq]
  generalize (lg_sl ([.ref a, .int p0]) ++ List.replicate (3 - (lg_sl ([.ref a, .int p0])).length) Slot.unset).toArray = ls at hl ⊢
  have hl : lv_has ls 3 [(0, .ref a), (1, .int p0)] := hl
  obtain ⟨H, eH⟩ : ∃ z, z = s.heap := ⟨_, rfl⟩
  have hP : va_P D classes [(a_read, .inl (cs 0, 86, .inl a_read_c)), (a, .inr (12, [.ref a_tape, .int a__taped, .int a__rules, .ref a_sign, .ref a_length, .ref a_clause, .ref a_clauses, .ref a_read, .int a__next, .int a__wrong, .int a__number, .int a__text, .int a__made, .int a__deep, .int a__lines, .ref a_open, .int a__opened, .ref a_stack, .int a__top, .ref a_word, .ref a_said, .int a__x, .ref a_worth, .ref a_mate, .ref a_wasSaid, .int a__undone, .int a__boughtNow, .ref a_wayBy, .ref a_wayThen, .int a__walkMost, .int a__walkGoing, .int a__walkSet, .ref a_kept, .long a__drawX, .ref a_images, .ref a_imageX, .ref a_isMade])), (a_tape, .inl (cs 1, 400, .inl a_tape_c))] H := by rw [eH]; exact hP
  have hS : va_S A s.heap H [] := by rw [eH]; exact hS
  rw [← eH]
  clear eH
  obtain ⟨locs, el⟩ : ∃ z : List Loc, z = [] := ⟨_, rfl⟩
  rw [← el] at hS ⊢
  clear el
  have z0 : (0 : Int32).toInt = 0 := by decide
  have z1 : (1 : Int32).toInt = 1 := by decide
  have zm1 : (-1 : Int32).toInt = -1 := by decide
  have i_a__lines : 0 ≤ a__lines.toInt ∧ a__lines.toInt ≤ 40 := h_a__lines
  have i_a__made : 0 ≤ a__made.toInt ∧ a__made.toInt ≤ 60 := h_a__made
  have i_a__next : 0 ≤ a__next.toInt ∧ a__next.toInt ≤ 400 := h_a__next
  have i_a__opened : 0 ≤ a__opened.toInt ∧ a__opened.toInt ≤ 400 := h_a__opened
  have i_a__rules : 0 ≤ a__rules.toInt ∧ a__rules.toInt ≤ 6 := h_a__rules
  have i_a__taped : 0 ≤ a__taped.toInt ∧ a__taped.toInt ≤ 400 := h_a__taped
  have i_a__text : 0 ≤ a__text.toInt ∧ a__text.toInt ≤ 6 := h_a__text
  have i_a__top : 0 ≤ a__top.toInt ∧ a__top.toInt ≤ 64 := h_a__top
  have i_a__undone : 0 ≤ a__undone.toInt ∧ a__undone.toInt ≤ 20 := h_a__undone
  have i_a__x : 0 ≤ a__x.toInt ∧ a__x.toInt ≤ 2147483647 := h_a__x
  have i_p0 : 0 ≤ p0.toInt ∧ p0.toInt ≤ 400 := h_p0
  refine lv_aload_n hx hb dX12_isHalfHere_0 rfl (lv_at hl 0 rfl) ?_
  refine va_get (D := D) (ci := 12) (v := .ref a_read) (C := RX12) (T := TX12) (N := 37) hx hb hT i_X12 hown hK hP 1 rfl rfl 7 (by decide) (hT _ q_181) (fun _ h9 => h9) rfl dX12_isHalfHere_1 ?_
  refine lv_iconst (v := 1) hx hb dX12_isHalfHere_4 (by decide) ?_
  refine va_iald hx hb hK hP 0 0 rfl rfl (iv_vc (by decide)) dX12_isHalfHere_5 ?_
  refine lv_topi (fun v1 ev1 => ?_)
  have h2 : IV 0 12 v1 := (by rw [ev1]; exact bs_i1 hf0)
  have ii3 : 0 ≤ v1.toInt ∧ v1.toInt ≤ 12 := h2
  have lv1 : v1.toInt = (a_read_c 1).toInt := by rw [ev1]; rfl
  refine lv_bipush (v := 12) hx hb dX12_isHalfHere_6 (by decide) ?_
  refine lv_icmp_ne (tgt := 18) hx hb dX12_isHalfHere_8 (by decide) (fun c4 => ?_) (fun c4 => ?_)
  · have t5 : v1.toInt ≠ 12 := lin_ne c4 rfl (by decide)
    have h6 : IV 0 11 v1 := iv_neR c4 h2 (by decide)
    have ii7 : 0 ≤ v1.toInt ∧ v1.toInt ≤ 11 := h6
    refine lv_aload_n hx hb dX12_isHalfHere_18 rfl (lv_at hl 0 rfl) ?_
    have hFc := va_free (wc := [(a, .inr (12, [.ref a_tape, .int a__taped, .int a__rules, .ref a_sign, .ref a_length, .ref a_clause, .ref a_clauses, .ref a_read, .int a__next, .int a__wrong, .int a__number, .int a__text, .int a__made, .int a__deep, .int a__lines, .ref a_open, .int a__opened, .ref a_stack, .int a__top, .ref a_word, .ref a_said, .int a__x, .ref a_worth, .ref a_mate, .ref a_wasSaid, .int a__undone, .int a__boughtNow, .ref a_wayBy, .ref a_wayThen, .int a__walkMost, .int a__walkGoing, .int a__walkSet, .ref a_kept, .long a__drawX, .ref a_images, .ref a_imageX, .ref a_isMade])), (a_tape, .inl (cs 1, 400, .inl a_tape_c))]) hD hS hA [1,2] rfl
    refine va_callv (va_runV (As := []) (rest := []) ⟨hx, hb, hml, hown, hT⟩ (c_X12_passWord l D cs kK kV a a_tape a__taped a__rules a_sign a_length a_clause a_clauses a_read a__next a__wrong a__number a__text a__made a__deep a__lines a_open a__opened a_stack a__top a_word a_said a__x a_worth a_mate a_wasSaid a__undone a__boughtNow a_wayBy a_wayThen a__walkMost a__walkGoing a__walkSet a_kept a__drawX a_images a_imageX a_isMade a_tape_c h_a__taped h_a__rules h_a__next h_a__text h_a__made h_a__lines h_a__opened h_a__top h_a__x h_a__undone H.size) (cwV 0 hT (hz_gV q_952 q_953 q_954 q_701 q_955) rfl rfl rfl (by decide +kernel) ⟨(Nat.le_of_ble_eq_true rfl), (Nat.le_of_ble_eq_true rfl)⟩) ⟨hz_C.blind, va_recv hK hP (ci := 12) (q0 := 1) rfl rfl, hz_C.mk (hP.sub (ws' := [(a, .inr (12, [.ref a_tape, .int a__taped, .int a__rules, .ref a_sign, .ref a_length, .ref a_clause, .ref a_clauses, .ref a_read, .int a__next, .int a__wrong, .int a__number, .int a__text, .int a__made, .int a__deep, .int a__lines, .ref a_open, .int a__opened, .ref a_stack, .int a__top, .ref a_word, .ref a_said, .int a__x, .ref a_worth, .ref a_mate, .ref a_wasSaid, .int a__undone, .int a__boughtNow, .ref a_wayBy, .ref a_wayThen, .int a__walkMost, .int a__walkGoing, .int a__walkSet, .ref a_kept, .long a__drawX, .ref a_images, .ref a_imageX, .ref a_isMade])), (a_tape, .inl (cs 1, 400, .inl a_tape_c))]) [1,2] rfl) (hD.sub (ws' := [(a, .inr (12, [.ref a_tape, .int a__taped, .int a__rules, .ref a_sign, .ref a_length, .ref a_clause, .ref a_clauses, .ref a_read, .int a__next, .int a__wrong, .int a__number, .int a__text, .int a__made, .int a__deep, .int a__lines, .ref a_open, .int a__opened, .ref a_stack, .int a__top, .ref a_word, .ref a_said, .int a__x, .ref a_worth, .ref a_mate, .ref a_wasSaid, .int a__undone, .int a__boughtNow, .ref a_wayBy, .ref a_wayThen, .int a__walkMost, .int a__walkGoing, .int a__walkSet, .ref a_kept, .long a__drawX, .ref a_images, .ref a_imageX, .ref a_isMade])), (a_tape, .inl (cs 1, 400, .inl a_tape_c))]) [1,2] (by decide) rfl) hE hS hFc⟩ rfl rfl hl.1 rfl (lv_room (Nat.le_of_ble_eq_true rfl)) dX12_isHalfHere_19 ⟨(Nat.le_of_ble_eq_true rfl), (Nat.le_of_ble_eq_true rfl)⟩) hS (fun q _ h => hFc q h) hFc (fun o9 t H1 locs ht hvm hw hB hz1 hk1 hS => ?_)
    obtain ⟨hP1, hD1⟩ := hB
    rw [ht] at hP1
    obtain ⟨hP, hD⟩ := va_join (wr := [(a_read, .inl (cs 0, 86, .inl a_read_c))]) (w1 := [(a, .inr (12, [.ref a_tape, .int a__taped, .int a__rules, .ref a_sign, .ref a_length, .ref a_clause, .ref a_clauses, .ref a_read, .int (o9.1 1), .int a__wrong, .int a__number, .int a__text, .int a__made, .int a__deep, .int a__lines, .ref a_open, .int a__opened, .ref a_stack, .int a__top, .ref a_word, .ref a_said, .int a__x, .ref a_worth, .ref a_mate, .ref a_wasSaid, .int a__undone, .int a__boughtNow, .ref a_wayBy, .ref a_wayThen, .int a__walkMost, .int a__walkGoing, .int a__walkSet, .ref a_kept, .long a__drawX, .ref a_images, .ref a_imageX, .ref a_isMade])), (a_tape, .inl (cs 1, 400, .inl a_tape_c))]) hP hD [1, 2] [0] rfl rfl (by decide) (by decide) hk1 hFc hP1 hD1
    generalize H1 = H at hP hS ⊢
    have hP : va_P D classes [(a_read, .inl (cs 0, 86, .inl a_read_c)), (a, .inr (12, [.ref a_tape, .int a__taped, .int a__rules, .ref a_sign, .ref a_length, .ref a_clause, .ref a_clauses, .ref a_read, .int (o9.1 1), .int a__wrong, .int a__number, .int a__text, .int a__made, .int a__deep, .int a__lines, .ref a_open, .int a__opened, .ref a_stack, .int a__top, .ref a_word, .ref a_said, .int a__x, .ref a_worth, .ref a_mate, .ref a_wasSaid, .int a__undone, .int a__boughtNow, .ref a_wayBy, .ref a_wayThen, .int a__walkMost, .int a__walkGoing, .int a__walkSet, .ref a_kept, .long a__drawX, .ref a_images, .ref a_imageX, .ref a_isMade])), (a_tape, .inl (cs 1, 400, .inl a_tape_c))] H := hP
    have hD : va_D A [(a_read, .inl (cs 0, 86, .inl a_read_c)), (a, .inr (12, [.ref a_tape, .int a__taped, .int a__rules, .ref a_sign, .ref a_length, .ref a_clause, .ref a_clauses, .ref a_read, .int (o9.1 1), .int a__wrong, .int a__number, .int a__text, .int a__made, .int a__deep, .int a__lines, .ref a_open, .int a__opened, .ref a_stack, .int a__top, .ref a_word, .ref a_said, .int a__x, .ref a_worth, .ref a_mate, .ref a_wasSaid, .int a__undone, .int a__boughtNow, .ref a_wayBy, .ref a_wayThen, .int a__walkMost, .int a__walkGoing, .int a__walkSet, .ref a_kept, .long a__drawX, .ref a_images, .ref a_imageX, .ref a_isMade])), (a_tape, .inl (cs 1, 400, .inl a_tape_c))] := hD
    clear hk1 hFc hP1 hD1 hz1
    rcases hw with ⟨h10, x11, x12⟩
    have ii13 : 0 ≤ (o9.1 1).toInt ∧ (o9.1 1).toInt ≤ 400 := h10
    refine lv_bipush (v := 10) hx hb dX12_isHalfHere_22 (by decide) ?_
    refine lv_iconst (v := 5) hx hb dX12_isHalfHere_24 (by decide) ?_
    refine lv_aload_n hx hb dX12_isHalfHere_25 rfl (lv_at hl 0 rfl) ?_
    refine va_get (D := D) (ci := 12) (v := .ref a_read) (C := RX12) (T := TX12) (N := 37) hx hb hT i_X12 hown hK hP 1 rfl rfl 7 (by decide) (hT _ q_181) (fun _ h9 => h9) rfl dX12_isHalfHere_26 ?_
    refine lv_iconst (v := 1) hx hb dX12_isHalfHere_29 (by decide) ?_
    refine va_iald hx hb hK hP 0 0 rfl rfl (iv_vc (by decide)) dX12_isHalfHere_30 ?_
    refine hz_ev v1 ev1.symm ?_
    refine lv_imul hx hb dX12_isHalfHere_31 ?_
    refine lv_topi (fun v14 ev14 => ?_)
    have hv14 : IV 0 55 v14 := iv_mul ev14 (iv_c (a := 5) (b := 5) (by decide)) h6 (by decide) (by decide) (by decide) (by decide)
    have ii15 : 0 ≤ v14.toInt ∧ v14.toInt ≤ 55 := hv14
    have lv14 : v14.toInt = 5 * v1.toInt := lin_mul ev14 (iv_c (a := 5) (b := 5) (by decide)) h6 (by decide) rfl (by decide) (by decide) (by decide) (by decide)
    refine lv_iadd hx hb dX12_isHalfHere_32 ?_
    refine lv_topi (fun v16 ev16 => ?_)
    have hv16 : IV 10 65 v16 := iv_add ev16 (iv_c (a := 10) (b := 10) (by decide)) hv14 (by decide) (by decide)
    have ii17 : 10 ≤ v16.toInt ∧ v16.toInt ≤ 65 := hv16
    have lv16 : v16.toInt = 10 + v14.toInt := lin_add ev16 (iv_c (a := 10) (b := 10) (by decide)) hv14 (by decide) rfl (by decide) (by decide)
    refine lv_istore_n (lv' := [(2, .int v16), (0, .ref a), (1, .int p0)]) hx hb dX12_isHalfHere_33 rfl hl (by decide) rfl (fun ls hl => ?_)
    refine lv_aload_n hx hb dX12_isHalfHere_34 rfl (lv_at hl 1 rfl) ?_
    refine lv_iload_n hx hb dX12_isHalfHere_35 rfl (lv_at hl 0 rfl) ?_
    refine lv_iconst (v := 3) hx hb dX12_isHalfHere_36 (by decide) ?_
    refine lv_iadd hx hb dX12_isHalfHere_37 ?_
    refine lv_topi (fun v18 ev18 => ?_)
    have hv18 : IV 13 68 v18 := iv_add ev18 hv16 (iv_c (a := 3) (b := 3) (by decide)) (by decide) (by decide)
    have ii19 : 13 ≤ v18.toInt ∧ v18.toInt ≤ 68 := hv18
    have dv18 : v18.toInt = v16.toInt + 3 := iv_addE ev18 hv16 (iv_c (a := 3) (b := 3) (by decide)) (by decide) (by decide) (by decide)
    have lv18 : v18.toInt = v16.toInt + 3 := lin_add ev18 hv16 (iv_c (a := 3) (b := 3) (by decide)) rfl (by decide) (by decide) (by decide)
    refine lv_iconst (v := 0) hx hb dX12_isHalfHere_38 (by decide) ?_
    refine lv_aload_n hx hb dX12_isHalfHere_39 rfl (lv_at hl 1 rfl) ?_
    refine va_get (D := D) (ci := 12) (v := .ref a_read) (C := RX12) (T := TX12) (N := 37) hx hb hT i_X12 hown hK hP 1 rfl rfl 7 (by decide) (hT _ q_181) (fun _ h9 => h9) rfl dX12_isHalfHere_40 ?_
    refine lv_iconst (v := 0) hx hb dX12_isHalfHere_43 (by decide) ?_
    refine va_iald hx hb hK hP 0 0 rfl rfl (iv_vc (by decide)) dX12_isHalfHere_44 ?_
    refine lv_topi (fun v20 ev20 => ?_)
    have h21 : IV 0 8 v20 := (by rw [ev20]; exact bs_i0 hf0)
    have ii22 : 0 ≤ v20.toInt ∧ v20.toInt ≤ 8 := h21
    have lv20 : v20.toInt = (a_read_c 0).toInt := by rw [ev20]; rfl
    refine lv_iconst (v := 1) hx hb dX12_isHalfHere_45 (by decide) ?_
    refine lv_isub hx hb dX12_isHalfHere_46 ?_
    refine lv_topi (fun v23 ev23 => ?_)
    have hv23 : IV (-1) 7 v23 := iv_sub ev23 h21 (iv_c (a := 1) (b := 1) (by decide)) (by decide) (by decide)
    have ii24 : (-1) ≤ v23.toInt ∧ v23.toInt ≤ 7 := hv23
    have dv23 : v23.toInt = v20.toInt + (-1) := iv_subE ev23 h21 (iv_c (a := 1) (b := 1) (by decide)) (by decide) (by decide) (by decide)
    have lv23 : v23.toInt = v20.toInt - 1 := lin_sub ev23 h21 (iv_c (a := 1) (b := 1) (by decide)) rfl (by decide) (by decide) (by decide)
    have hFc := va_free (wc := [(a_read, .inl (cs 0, 86, .inl a_read_c)), (a, .inr (12, [.ref a_tape, .int a__taped, .int a__rules, .ref a_sign, .ref a_length, .ref a_clause, .ref a_clauses, .ref a_read, .int (o9.1 1), .int a__wrong, .int a__number, .int a__text, .int a__made, .int a__deep, .int a__lines, .ref a_open, .int a__opened, .ref a_stack, .int a__top, .ref a_word, .ref a_said, .int a__x, .ref a_worth, .ref a_mate, .ref a_wasSaid, .int a__undone, .int a__boughtNow, .ref a_wayBy, .ref a_wayThen, .int a__walkMost, .int a__walkGoing, .int a__walkSet, .ref a_kept, .long a__drawX, .ref a_images, .ref a_imageX, .ref a_isMade])), (a_tape, .inl (cs 1, 400, .inl a_tape_c))]) hD hS hA [0,1,2] rfl
    refine va_calli (va_runV (As := [.int v18, .int 0, .int v23]) (rest := []) ⟨hx, hb, hml, hown, hT⟩ (c_X12_cellHere l D cs kK kV a v18 0 v23 a_read a_read_c a_tape a__taped a__rules a_sign a_length a_clause a_clauses (o9.1 1) a__wrong a__number a__text a__made a__deep a__lines a_open a__opened a_stack a__top a_word a_said a__x a_worth a_mate a_wasSaid a__undone a__boughtNow a_wayBy a_wayThen a__walkMost a__walkGoing a__walkSet a_kept a__drawX a_images a_imageX a_isMade a_tape_c ((iv_w hv18 (by decide) (by decide))) h_a__taped h_a__rules h10 h_a__text h_a__made h_a__lines h_a__opened h_a__top h_a__x h_a__undone ((ck_o hf0 (by omega))) H.size) (cwV 3 hT (hz_gV q_1030 q_1031 q_1032 q_701 q_1033) rfl rfl rfl (by decide +kernel) ⟨(Nat.le_of_ble_eq_true rfl), (Nat.le_of_ble_eq_true rfl)⟩) ⟨hz_C.blind, va_recv hK hP (ci := 12) (q0 := 1) rfl rfl, hz_C.mk (hP.sub (ws' := [(a_read, .inl (cs 0, 86, .inl a_read_c)), (a, .inr (12, [.ref a_tape, .int a__taped, .int a__rules, .ref a_sign, .ref a_length, .ref a_clause, .ref a_clauses, .ref a_read, .int (o9.1 1), .int a__wrong, .int a__number, .int a__text, .int a__made, .int a__deep, .int a__lines, .ref a_open, .int a__opened, .ref a_stack, .int a__top, .ref a_word, .ref a_said, .int a__x, .ref a_worth, .ref a_mate, .ref a_wasSaid, .int a__undone, .int a__boughtNow, .ref a_wayBy, .ref a_wayThen, .int a__walkMost, .int a__walkGoing, .int a__walkSet, .ref a_kept, .long a__drawX, .ref a_images, .ref a_imageX, .ref a_isMade])), (a_tape, .inl (cs 1, 400, .inl a_tape_c))]) [0,1,2] rfl) (hD.sub (ws' := [(a_read, .inl (cs 0, 86, .inl a_read_c)), (a, .inr (12, [.ref a_tape, .int a__taped, .int a__rules, .ref a_sign, .ref a_length, .ref a_clause, .ref a_clauses, .ref a_read, .int (o9.1 1), .int a__wrong, .int a__number, .int a__text, .int a__made, .int a__deep, .int a__lines, .ref a_open, .int a__opened, .ref a_stack, .int a__top, .ref a_word, .ref a_said, .int a__x, .ref a_worth, .ref a_mate, .ref a_wasSaid, .int a__undone, .int a__boughtNow, .ref a_wayBy, .ref a_wayThen, .int a__walkMost, .int a__walkGoing, .int a__walkSet, .ref a_kept, .long a__drawX, .ref a_images, .ref a_imageX, .ref a_isMade])), (a_tape, .inl (cs 1, 400, .inl a_tape_c))]) [0,1,2] (by decide) rfl) hE hS hFc⟩ rfl rfl hl.1 rfl (lv_room (Nat.le_of_ble_eq_true rfl)) dX12_isHalfHere_47 ⟨(Nat.le_of_ble_eq_true rfl), (Nat.le_of_ble_eq_true rfl)⟩) hS (fun q _ h => hFc q h) hFc (fun r25 o26 t H1 locs ht hvm hw hB hz1 hk1 hS => ?_)
    obtain ⟨hP1, hD1⟩ := hB
    rw [ht] at hP1
    obtain ⟨hP, hD⟩ := va_join (wr := []) (w1 := [(a_read, .inl (cs 0, 86, .inl (o26.2 0))), (a, .inr (12, [.ref a_tape, .int a__taped, .int a__rules, .ref a_sign, .ref a_length, .ref a_clause, .ref a_clauses, .ref a_read, .int (o26.1 2), .int (o26.1 3), .int (o26.1 1), .int a__text, .int a__made, .int a__deep, .int a__lines, .ref a_open, .int a__opened, .ref a_stack, .int a__top, .ref a_word, .ref a_said, .int a__x, .ref a_worth, .ref a_mate, .ref a_wasSaid, .int a__undone, .int a__boughtNow, .ref a_wayBy, .ref a_wayThen, .int a__walkMost, .int a__walkGoing, .int a__walkSet, .ref a_kept, .long a__drawX, .ref a_images, .ref a_imageX, .ref a_isMade])), (a_tape, .inl (cs 1, 400, .inl a_tape_c))]) hP hD [0, 1, 2] [] rfl rfl (by decide) (by decide) hk1 hFc hP1 hD1
    generalize H1 = H at hP hS ⊢
    have hP : va_P D classes [(a_read, .inl (cs 0, 86, .inl (o26.2 0))), (a, .inr (12, [.ref a_tape, .int a__taped, .int a__rules, .ref a_sign, .ref a_length, .ref a_clause, .ref a_clauses, .ref a_read, .int (o26.1 2), .int (o26.1 3), .int (o26.1 1), .int a__text, .int a__made, .int a__deep, .int a__lines, .ref a_open, .int a__opened, .ref a_stack, .int a__top, .ref a_word, .ref a_said, .int a__x, .ref a_worth, .ref a_mate, .ref a_wasSaid, .int a__undone, .int a__boughtNow, .ref a_wayBy, .ref a_wayThen, .int a__walkMost, .int a__walkGoing, .int a__walkSet, .ref a_kept, .long a__drawX, .ref a_images, .ref a_imageX, .ref a_isMade])), (a_tape, .inl (cs 1, 400, .inl a_tape_c))] H := hP
    have hD : va_D A [(a_read, .inl (cs 0, 86, .inl (o26.2 0))), (a, .inr (12, [.ref a_tape, .int a__taped, .int a__rules, .ref a_sign, .ref a_length, .ref a_clause, .ref a_clauses, .ref a_read, .int (o26.1 2), .int (o26.1 3), .int (o26.1 1), .int a__text, .int a__made, .int a__deep, .int a__lines, .ref a_open, .int a__opened, .ref a_stack, .int a__top, .ref a_word, .ref a_said, .int a__x, .ref a_worth, .ref a_mate, .ref a_wasSaid, .int a__undone, .int a__boughtNow, .ref a_wayBy, .ref a_wayThen, .int a__walkMost, .int a__walkGoing, .int a__walkSet, .ref a_kept, .long a__drawX, .ref a_images, .ref a_imageX, .ref a_isMade])), (a_tape, .inl (cs 1, 400, .inl a_tape_c))] := hD
    clear hk1 hFc hP1 hD1 hz1
    rcases hw with ⟨rfl, h27, x28, x29, x30⟩ | ⟨rfl, h31, h32, x33, x34, x35, x36, x37⟩
    · have ii38 : 0 ≤ (o26.1 2).toInt ∧ (o26.1 2).toInt ≤ 400 := h27
      refine lv_if_eq (tgt := 89) hx hb dX12_isHalfHere_50 (by decide) (fun _ => ?_) (fun z => absurd (by decide) z)
      refine lv_iconst (v := 0) hx hb dX12_isHalfHere_89 (by decide) ?_
      refine W.widen (k := 0) (n := 0) (Nat.le_of_ble_eq_true rfl) (Nat.le_of_ble_eq_true rfl) ?_
      have g39 : a__next.toInt ≤ (o26.1 2).toInt := (by omega)
      exact W.zret (v := 0) hx hb hr rfl (fun t ht hW => ⟨⟨0, (fun k => match k with | 0 => 0 | 1 => o26.1 1 | 2 => o26.1 2 | 3 => o26.1 3 | _ => 0, fun k => match k with | 0 => o26.2 0 | _ => fun _ => 0), rfl, (Or.inl (⟨rfl, h27, g39, x29, x30⟩)), by rw [ht]; exact hP.sub [0, 1, 2] rfl, hD.sub [0, 1, 2] (by decide) rfl⟩, hS.F ht⟩) hS.2.2 dX12_isHalfHere_90
    · have ii40 : 1 ≤ a__taped.toInt ∧ a__taped.toInt ≤ 400 := h31
      have ii41 : 0 ≤ (o26.1 2).toInt ∧ (o26.1 2).toInt ≤ 400 := h32
      refine lv_if_eq (tgt := 89) hx hb dX12_isHalfHere_50 (by decide) (fun z => absurd z (by decide)) (fun _ => ?_)
      refine lv_aload_n hx hb dX12_isHalfHere_53 rfl (lv_at hl 1 rfl) ?_
      refine lv_iload_n hx hb dX12_isHalfHere_54 rfl (lv_at hl 0 rfl) ?_
      refine lv_iconst (v := 0) hx hb dX12_isHalfHere_55 (by decide) ?_
      refine lv_bipush (v := 99) hx hb dX12_isHalfHere_56 (by decide) ?_
      have hFc := va_free (wc := [(a_read, .inl (cs 0, 86, .inl (o26.2 0))), (a, .inr (12, [.ref a_tape, .int a__taped, .int a__rules, .ref a_sign, .ref a_length, .ref a_clause, .ref a_clauses, .ref a_read, .int (o26.1 2), .int (o26.1 3), .int (o26.1 1), .int a__text, .int a__made, .int a__deep, .int a__lines, .ref a_open, .int a__opened, .ref a_stack, .int a__top, .ref a_word, .ref a_said, .int a__x, .ref a_worth, .ref a_mate, .ref a_wasSaid, .int a__undone, .int a__boughtNow, .ref a_wayBy, .ref a_wayThen, .int a__walkMost, .int a__walkGoing, .int a__walkSet, .ref a_kept, .long a__drawX, .ref a_images, .ref a_imageX, .ref a_isMade])), (a_tape, .inl (cs 1, 400, .inl a_tape_c))]) hD hS hA [0,1,2] rfl
      refine va_calli (va_runV (As := [.int v16, .int 0, .int 99]) (rest := []) ⟨hx, hb, hml, hown, hT⟩ (c_X12_cellHere l D cs kK kV a v16 0 99 a_read (o26.2 0) a_tape a__taped a__rules a_sign a_length a_clause a_clauses (o26.1 2) (o26.1 3) (o26.1 1) a__text a__made a__deep a__lines a_open a__opened a_stack a__top a_word a_said a__x a_worth a_mate a_wasSaid a__undone a__boughtNow a_wayBy a_wayThen a__walkMost a__walkGoing a__walkSet a_kept a__drawX a_images a_imageX a_isMade a_tape_c ((iv_w hv16 (by decide) (by decide))) ((iv_w h31 (by decide) (by decide))) h_a__rules h32 h_a__text h_a__made h_a__lines h_a__opened h_a__top h_a__x h_a__undone ((ck_o x34 (by omega))) H.size) (cwV 3 hT (hz_gV q_1030 q_1031 q_1032 q_701 q_1033) rfl rfl rfl (by decide +kernel) ⟨(Nat.le_of_ble_eq_true rfl), (Nat.le_of_ble_eq_true rfl)⟩) ⟨hz_C.blind, va_recv hK hP (ci := 12) (q0 := 1) rfl rfl, hz_C.mk (hP.sub (ws' := [(a_read, .inl (cs 0, 86, .inl (o26.2 0))), (a, .inr (12, [.ref a_tape, .int a__taped, .int a__rules, .ref a_sign, .ref a_length, .ref a_clause, .ref a_clauses, .ref a_read, .int (o26.1 2), .int (o26.1 3), .int (o26.1 1), .int a__text, .int a__made, .int a__deep, .int a__lines, .ref a_open, .int a__opened, .ref a_stack, .int a__top, .ref a_word, .ref a_said, .int a__x, .ref a_worth, .ref a_mate, .ref a_wasSaid, .int a__undone, .int a__boughtNow, .ref a_wayBy, .ref a_wayThen, .int a__walkMost, .int a__walkGoing, .int a__walkSet, .ref a_kept, .long a__drawX, .ref a_images, .ref a_imageX, .ref a_isMade])), (a_tape, .inl (cs 1, 400, .inl a_tape_c))]) [0,1,2] rfl) (hD.sub (ws' := [(a_read, .inl (cs 0, 86, .inl (o26.2 0))), (a, .inr (12, [.ref a_tape, .int a__taped, .int a__rules, .ref a_sign, .ref a_length, .ref a_clause, .ref a_clauses, .ref a_read, .int (o26.1 2), .int (o26.1 3), .int (o26.1 1), .int a__text, .int a__made, .int a__deep, .int a__lines, .ref a_open, .int a__opened, .ref a_stack, .int a__top, .ref a_word, .ref a_said, .int a__x, .ref a_worth, .ref a_mate, .ref a_wasSaid, .int a__undone, .int a__boughtNow, .ref a_wayBy, .ref a_wayThen, .int a__walkMost, .int a__walkGoing, .int a__walkSet, .ref a_kept, .long a__drawX, .ref a_images, .ref a_imageX, .ref a_isMade])), (a_tape, .inl (cs 1, 400, .inl a_tape_c))]) [0,1,2] (by decide) rfl) hE hS hFc⟩ rfl rfl hl.1 rfl (lv_room (Nat.le_of_ble_eq_true rfl)) dX12_isHalfHere_58 ⟨(Nat.le_of_ble_eq_true rfl), (Nat.le_of_ble_eq_true rfl)⟩) hS (fun q _ h => hFc q h) hFc (fun r42 o43 t H1 locs ht hvm hw hB hz1 hk1 hS => ?_)
      obtain ⟨hP1, hD1⟩ := hB
      rw [ht] at hP1
      obtain ⟨hP, hD⟩ := va_join (wr := []) (w1 := [(a_read, .inl (cs 0, 86, .inl (o43.2 0))), (a, .inr (12, [.ref a_tape, .int a__taped, .int a__rules, .ref a_sign, .ref a_length, .ref a_clause, .ref a_clauses, .ref a_read, .int (o43.1 2), .int (o43.1 3), .int (o43.1 1), .int a__text, .int a__made, .int a__deep, .int a__lines, .ref a_open, .int a__opened, .ref a_stack, .int a__top, .ref a_word, .ref a_said, .int a__x, .ref a_worth, .ref a_mate, .ref a_wasSaid, .int a__undone, .int a__boughtNow, .ref a_wayBy, .ref a_wayThen, .int a__walkMost, .int a__walkGoing, .int a__walkSet, .ref a_kept, .long a__drawX, .ref a_images, .ref a_imageX, .ref a_isMade])), (a_tape, .inl (cs 1, 400, .inl a_tape_c))]) hP hD [0, 1, 2] [] rfl rfl (by decide) (by decide) hk1 hFc hP1 hD1
      generalize H1 = H at hP hS ⊢
      have hP : va_P D classes [(a_read, .inl (cs 0, 86, .inl (o43.2 0))), (a, .inr (12, [.ref a_tape, .int a__taped, .int a__rules, .ref a_sign, .ref a_length, .ref a_clause, .ref a_clauses, .ref a_read, .int (o43.1 2), .int (o43.1 3), .int (o43.1 1), .int a__text, .int a__made, .int a__deep, .int a__lines, .ref a_open, .int a__opened, .ref a_stack, .int a__top, .ref a_word, .ref a_said, .int a__x, .ref a_worth, .ref a_mate, .ref a_wasSaid, .int a__undone, .int a__boughtNow, .ref a_wayBy, .ref a_wayThen, .int a__walkMost, .int a__walkGoing, .int a__walkSet, .ref a_kept, .long a__drawX, .ref a_images, .ref a_imageX, .ref a_isMade])), (a_tape, .inl (cs 1, 400, .inl a_tape_c))] H := hP
      have hD : va_D A [(a_read, .inl (cs 0, 86, .inl (o43.2 0))), (a, .inr (12, [.ref a_tape, .int a__taped, .int a__rules, .ref a_sign, .ref a_length, .ref a_clause, .ref a_clauses, .ref a_read, .int (o43.1 2), .int (o43.1 3), .int (o43.1 1), .int a__text, .int a__made, .int a__deep, .int a__lines, .ref a_open, .int a__opened, .ref a_stack, .int a__top, .ref a_word, .ref a_said, .int a__x, .ref a_worth, .ref a_mate, .ref a_wasSaid, .int a__undone, .int a__boughtNow, .ref a_wayBy, .ref a_wayThen, .int a__walkMost, .int a__walkGoing, .int a__walkSet, .ref a_kept, .long a__drawX, .ref a_images, .ref a_imageX, .ref a_isMade])), (a_tape, .inl (cs 1, 400, .inl a_tape_c))] := hD
      clear hk1 hFc hP1 hD1 hz1
      rcases hw with ⟨rfl, h44, x45, x46, x47⟩ | ⟨rfl, h48, h49, x50, x51, x52, x53, x54⟩
      · have ii55 : 0 ≤ (o43.1 2).toInt ∧ (o43.1 2).toInt ≤ 400 := h44
        refine lv_if_eq (tgt := 89) hx hb dX12_isHalfHere_61 (by decide) (fun _ => ?_) (fun z => absurd (by decide) z)
        refine lv_iconst (v := 0) hx hb dX12_isHalfHere_89 (by decide) ?_
        refine W.widen (k := 0) (n := 0) (Nat.le_of_ble_eq_true rfl) (Nat.le_of_ble_eq_true rfl) ?_
        have g56 : a__next.toInt ≤ (o43.1 2).toInt := (by omega)
        exact W.zret (v := 0) hx hb hr rfl (fun t ht hW => ⟨⟨0, (fun k => match k with | 0 => 0 | 1 => o43.1 1 | 2 => o43.1 2 | 3 => o43.1 3 | _ => 0, fun k => match k with | 0 => o43.2 0 | _ => fun _ => 0), rfl, (Or.inl (⟨rfl, h44, g56, x46, x47⟩)), by rw [ht]; exact hP.sub [0, 1, 2] rfl, hD.sub [0, 1, 2] (by decide) rfl⟩, hS.F ht⟩) hS.2.2 dX12_isHalfHere_90
      · have z99 : (99 : Int32).toInt = 99 := by decide
        have ii57 : 1 ≤ a__taped.toInt ∧ a__taped.toInt ≤ 400 := h48
        have ii58 : 0 ≤ (o43.1 2).toInt ∧ (o43.1 2).toInt ≤ 400 := h49
        refine lv_if_eq (tgt := 89) hx hb dX12_isHalfHere_61 (by decide) (fun z => absurd z (by decide)) (fun _ => ?_)
        refine lv_aload_n hx hb dX12_isHalfHere_64 rfl (lv_at hl 1 rfl) ?_
        refine lv_iload_n hx hb dX12_isHalfHere_65 rfl (lv_at hl 0 rfl) ?_
        refine lv_iconst (v := 1) hx hb dX12_isHalfHere_66 (by decide) ?_
        refine lv_iadd hx hb dX12_isHalfHere_67 ?_
        refine lv_topi (fun v59 ev59 => ?_)
        have hv59 : IV 11 66 v59 := iv_add ev59 hv16 (iv_c (a := 1) (b := 1) (by decide)) (by decide) (by decide)
        have ii60 : 11 ≤ v59.toInt ∧ v59.toInt ≤ 66 := hv59
        have dv59 : v59.toInt = v16.toInt + 1 := iv_addE ev59 hv16 (iv_c (a := 1) (b := 1) (by decide)) (by decide) (by decide) (by decide)
        have lv59 : v59.toInt = v16.toInt + 1 := lin_add ev59 hv16 (iv_c (a := 1) (b := 1) (by decide)) rfl (by decide) (by decide) (by decide)
        refine lv_iconst (v := 0) hx hb dX12_isHalfHere_68 (by decide) ?_
        refine lv_iconst (v := 1) hx hb dX12_isHalfHere_69 (by decide) ?_
        have hFc := va_free (wc := [(a_read, .inl (cs 0, 86, .inl (o43.2 0))), (a, .inr (12, [.ref a_tape, .int a__taped, .int a__rules, .ref a_sign, .ref a_length, .ref a_clause, .ref a_clauses, .ref a_read, .int (o43.1 2), .int (o43.1 3), .int (o43.1 1), .int a__text, .int a__made, .int a__deep, .int a__lines, .ref a_open, .int a__opened, .ref a_stack, .int a__top, .ref a_word, .ref a_said, .int a__x, .ref a_worth, .ref a_mate, .ref a_wasSaid, .int a__undone, .int a__boughtNow, .ref a_wayBy, .ref a_wayThen, .int a__walkMost, .int a__walkGoing, .int a__walkSet, .ref a_kept, .long a__drawX, .ref a_images, .ref a_imageX, .ref a_isMade])), (a_tape, .inl (cs 1, 400, .inl a_tape_c))]) hD hS hA [0,1,2] rfl
        refine va_calli (va_runV (As := [.int v59, .int 0, .int 1]) (rest := []) ⟨hx, hb, hml, hown, hT⟩ (c_X12_cellHere l D cs kK kV a v59 0 1 a_read (o43.2 0) a_tape a__taped a__rules a_sign a_length a_clause a_clauses (o43.1 2) (o43.1 3) (o43.1 1) a__text a__made a__deep a__lines a_open a__opened a_stack a__top a_word a_said a__x a_worth a_mate a_wasSaid a__undone a__boughtNow a_wayBy a_wayThen a__walkMost a__walkGoing a__walkSet a_kept a__drawX a_images a_imageX a_isMade a_tape_c ((iv_w hv59 (by decide) (by decide))) ((iv_w h48 (by decide) (by decide))) h_a__rules h49 h_a__text h_a__made h_a__lines h_a__opened h_a__top h_a__x h_a__undone ((ck_o x51 (by omega))) H.size) (cwV 3 hT (hz_gV q_1030 q_1031 q_1032 q_701 q_1033) rfl rfl rfl (by decide +kernel) ⟨(Nat.le_of_ble_eq_true rfl), (Nat.le_of_ble_eq_true rfl)⟩) ⟨hz_C.blind, va_recv hK hP (ci := 12) (q0 := 1) rfl rfl, hz_C.mk (hP.sub (ws' := [(a_read, .inl (cs 0, 86, .inl (o43.2 0))), (a, .inr (12, [.ref a_tape, .int a__taped, .int a__rules, .ref a_sign, .ref a_length, .ref a_clause, .ref a_clauses, .ref a_read, .int (o43.1 2), .int (o43.1 3), .int (o43.1 1), .int a__text, .int a__made, .int a__deep, .int a__lines, .ref a_open, .int a__opened, .ref a_stack, .int a__top, .ref a_word, .ref a_said, .int a__x, .ref a_worth, .ref a_mate, .ref a_wasSaid, .int a__undone, .int a__boughtNow, .ref a_wayBy, .ref a_wayThen, .int a__walkMost, .int a__walkGoing, .int a__walkSet, .ref a_kept, .long a__drawX, .ref a_images, .ref a_imageX, .ref a_isMade])), (a_tape, .inl (cs 1, 400, .inl a_tape_c))]) [0,1,2] rfl) (hD.sub (ws' := [(a_read, .inl (cs 0, 86, .inl (o43.2 0))), (a, .inr (12, [.ref a_tape, .int a__taped, .int a__rules, .ref a_sign, .ref a_length, .ref a_clause, .ref a_clauses, .ref a_read, .int (o43.1 2), .int (o43.1 3), .int (o43.1 1), .int a__text, .int a__made, .int a__deep, .int a__lines, .ref a_open, .int a__opened, .ref a_stack, .int a__top, .ref a_word, .ref a_said, .int a__x, .ref a_worth, .ref a_mate, .ref a_wasSaid, .int a__undone, .int a__boughtNow, .ref a_wayBy, .ref a_wayThen, .int a__walkMost, .int a__walkGoing, .int a__walkSet, .ref a_kept, .long a__drawX, .ref a_images, .ref a_imageX, .ref a_isMade])), (a_tape, .inl (cs 1, 400, .inl a_tape_c))]) [0,1,2] (by decide) rfl) hE hS hFc⟩ rfl rfl hl.1 rfl (lv_room (Nat.le_of_ble_eq_true rfl)) dX12_isHalfHere_70 ⟨(Nat.le_of_ble_eq_true rfl), (Nat.le_of_ble_eq_true rfl)⟩) hS (fun q _ h => hFc q h) hFc (fun r61 o62 t H1 locs ht hvm hw hB hz1 hk1 hS => ?_)
        obtain ⟨hP1, hD1⟩ := hB
        rw [ht] at hP1
        obtain ⟨hP, hD⟩ := va_join (wr := []) (w1 := [(a_read, .inl (cs 0, 86, .inl (o62.2 0))), (a, .inr (12, [.ref a_tape, .int a__taped, .int a__rules, .ref a_sign, .ref a_length, .ref a_clause, .ref a_clauses, .ref a_read, .int (o62.1 2), .int (o62.1 3), .int (o62.1 1), .int a__text, .int a__made, .int a__deep, .int a__lines, .ref a_open, .int a__opened, .ref a_stack, .int a__top, .ref a_word, .ref a_said, .int a__x, .ref a_worth, .ref a_mate, .ref a_wasSaid, .int a__undone, .int a__boughtNow, .ref a_wayBy, .ref a_wayThen, .int a__walkMost, .int a__walkGoing, .int a__walkSet, .ref a_kept, .long a__drawX, .ref a_images, .ref a_imageX, .ref a_isMade])), (a_tape, .inl (cs 1, 400, .inl a_tape_c))]) hP hD [0, 1, 2] [] rfl rfl (by decide) (by decide) hk1 hFc hP1 hD1
        generalize H1 = H at hP hS ⊢
        have hP : va_P D classes [(a_read, .inl (cs 0, 86, .inl (o62.2 0))), (a, .inr (12, [.ref a_tape, .int a__taped, .int a__rules, .ref a_sign, .ref a_length, .ref a_clause, .ref a_clauses, .ref a_read, .int (o62.1 2), .int (o62.1 3), .int (o62.1 1), .int a__text, .int a__made, .int a__deep, .int a__lines, .ref a_open, .int a__opened, .ref a_stack, .int a__top, .ref a_word, .ref a_said, .int a__x, .ref a_worth, .ref a_mate, .ref a_wasSaid, .int a__undone, .int a__boughtNow, .ref a_wayBy, .ref a_wayThen, .int a__walkMost, .int a__walkGoing, .int a__walkSet, .ref a_kept, .long a__drawX, .ref a_images, .ref a_imageX, .ref a_isMade])), (a_tape, .inl (cs 1, 400, .inl a_tape_c))] H := hP
        have hD : va_D A [(a_read, .inl (cs 0, 86, .inl (o62.2 0))), (a, .inr (12, [.ref a_tape, .int a__taped, .int a__rules, .ref a_sign, .ref a_length, .ref a_clause, .ref a_clauses, .ref a_read, .int (o62.1 2), .int (o62.1 3), .int (o62.1 1), .int a__text, .int a__made, .int a__deep, .int a__lines, .ref a_open, .int a__opened, .ref a_stack, .int a__top, .ref a_word, .ref a_said, .int a__x, .ref a_worth, .ref a_mate, .ref a_wasSaid, .int a__undone, .int a__boughtNow, .ref a_wayBy, .ref a_wayThen, .int a__walkMost, .int a__walkGoing, .int a__walkSet, .ref a_kept, .long a__drawX, .ref a_images, .ref a_imageX, .ref a_isMade])), (a_tape, .inl (cs 1, 400, .inl a_tape_c))] := hD
        clear hk1 hFc hP1 hD1 hz1
        rcases hw with ⟨rfl, h63, x64, x65, x66⟩ | ⟨rfl, h67, h68, x69, x70, x71, x72, x73⟩
        · have ii74 : 0 ≤ (o62.1 2).toInt ∧ (o62.1 2).toInt ≤ 400 := h63
          refine lv_if_eq (tgt := 89) hx hb dX12_isHalfHere_73 (by decide) (fun _ => ?_) (fun z => absurd (by decide) z)
          refine lv_iconst (v := 0) hx hb dX12_isHalfHere_89 (by decide) ?_
          refine W.widen (k := 0) (n := 0) (Nat.le_of_ble_eq_true rfl) (Nat.le_of_ble_eq_true rfl) ?_
          have g75 : a__next.toInt ≤ (o62.1 2).toInt := (by omega)
          exact W.zret (v := 0) hx hb hr rfl (fun t ht hW => ⟨⟨0, (fun k => match k with | 0 => 0 | 1 => o62.1 1 | 2 => o62.1 2 | 3 => o62.1 3 | _ => 0, fun k => match k with | 0 => o62.2 0 | _ => fun _ => 0), rfl, (Or.inl (⟨rfl, h63, g75, x65, x66⟩)), by rw [ht]; exact hP.sub [0, 1, 2] rfl, hD.sub [0, 1, 2] (by decide) rfl⟩, hS.F ht⟩) hS.2.2 dX12_isHalfHere_90
        · have ii76 : 1 ≤ a__taped.toInt ∧ a__taped.toInt ≤ 400 := h67
          have ii77 : 0 ≤ (o62.1 2).toInt ∧ (o62.1 2).toInt ≤ 400 := h68
          refine lv_if_eq (tgt := 89) hx hb dX12_isHalfHere_73 (by decide) (fun z => absurd z (by decide)) (fun _ => ?_)
          refine lv_aload_n hx hb dX12_isHalfHere_76 rfl (lv_at hl 1 rfl) ?_
          refine lv_iload_n hx hb dX12_isHalfHere_77 rfl (lv_at hl 0 rfl) ?_
          refine lv_iconst (v := 2) hx hb dX12_isHalfHere_78 (by decide) ?_
          refine lv_iadd hx hb dX12_isHalfHere_79 ?_
          refine lv_topi (fun v78 ev78 => ?_)
          have hv78 : IV 12 67 v78 := iv_add ev78 hv16 (iv_c (a := 2) (b := 2) (by decide)) (by decide) (by decide)
          have ii79 : 12 ≤ v78.toInt ∧ v78.toInt ≤ 67 := hv78
          have dv78 : v78.toInt = v16.toInt + 2 := iv_addE ev78 hv16 (iv_c (a := 2) (b := 2) (by decide)) (by decide) (by decide) (by decide)
          have lv78 : v78.toInt = v16.toInt + 2 := lin_add ev78 hv16 (iv_c (a := 2) (b := 2) (by decide)) rfl (by decide) (by decide) (by decide)
          refine lv_iconst (v := 1) hx hb dX12_isHalfHere_80 (by decide) ?_
          refine lv_bipush (v := 99) hx hb dX12_isHalfHere_81 (by decide) ?_
          have hFc := va_free (wc := [(a_read, .inl (cs 0, 86, .inl (o62.2 0))), (a, .inr (12, [.ref a_tape, .int a__taped, .int a__rules, .ref a_sign, .ref a_length, .ref a_clause, .ref a_clauses, .ref a_read, .int (o62.1 2), .int (o62.1 3), .int (o62.1 1), .int a__text, .int a__made, .int a__deep, .int a__lines, .ref a_open, .int a__opened, .ref a_stack, .int a__top, .ref a_word, .ref a_said, .int a__x, .ref a_worth, .ref a_mate, .ref a_wasSaid, .int a__undone, .int a__boughtNow, .ref a_wayBy, .ref a_wayThen, .int a__walkMost, .int a__walkGoing, .int a__walkSet, .ref a_kept, .long a__drawX, .ref a_images, .ref a_imageX, .ref a_isMade])), (a_tape, .inl (cs 1, 400, .inl a_tape_c))]) hD hS hA [0,1,2] rfl
          refine va_calli (va_runV (As := [.int v78, .int 1, .int 99]) (rest := []) ⟨hx, hb, hml, hown, hT⟩ (c_X12_cellHere l D cs kK kV a v78 1 99 a_read (o62.2 0) a_tape a__taped a__rules a_sign a_length a_clause a_clauses (o62.1 2) (o62.1 3) (o62.1 1) a__text a__made a__deep a__lines a_open a__opened a_stack a__top a_word a_said a__x a_worth a_mate a_wasSaid a__undone a__boughtNow a_wayBy a_wayThen a__walkMost a__walkGoing a__walkSet a_kept a__drawX a_images a_imageX a_isMade a_tape_c ((iv_w hv78 (by decide) (by decide))) ((iv_w h67 (by decide) (by decide))) h_a__rules h68 h_a__text h_a__made h_a__lines h_a__opened h_a__top h_a__x h_a__undone ((ck_o x70 (by omega))) H.size) (cwV 3 hT (hz_gV q_1030 q_1031 q_1032 q_701 q_1033) rfl rfl rfl (by decide +kernel) ⟨(Nat.le_of_ble_eq_true rfl), (Nat.le_of_ble_eq_true rfl)⟩) ⟨hz_C.blind, va_recv hK hP (ci := 12) (q0 := 1) rfl rfl, hz_C.mk (hP.sub (ws' := [(a_read, .inl (cs 0, 86, .inl (o62.2 0))), (a, .inr (12, [.ref a_tape, .int a__taped, .int a__rules, .ref a_sign, .ref a_length, .ref a_clause, .ref a_clauses, .ref a_read, .int (o62.1 2), .int (o62.1 3), .int (o62.1 1), .int a__text, .int a__made, .int a__deep, .int a__lines, .ref a_open, .int a__opened, .ref a_stack, .int a__top, .ref a_word, .ref a_said, .int a__x, .ref a_worth, .ref a_mate, .ref a_wasSaid, .int a__undone, .int a__boughtNow, .ref a_wayBy, .ref a_wayThen, .int a__walkMost, .int a__walkGoing, .int a__walkSet, .ref a_kept, .long a__drawX, .ref a_images, .ref a_imageX, .ref a_isMade])), (a_tape, .inl (cs 1, 400, .inl a_tape_c))]) [0,1,2] rfl) (hD.sub (ws' := [(a_read, .inl (cs 0, 86, .inl (o62.2 0))), (a, .inr (12, [.ref a_tape, .int a__taped, .int a__rules, .ref a_sign, .ref a_length, .ref a_clause, .ref a_clauses, .ref a_read, .int (o62.1 2), .int (o62.1 3), .int (o62.1 1), .int a__text, .int a__made, .int a__deep, .int a__lines, .ref a_open, .int a__opened, .ref a_stack, .int a__top, .ref a_word, .ref a_said, .int a__x, .ref a_worth, .ref a_mate, .ref a_wasSaid, .int a__undone, .int a__boughtNow, .ref a_wayBy, .ref a_wayThen, .int a__walkMost, .int a__walkGoing, .int a__walkSet, .ref a_kept, .long a__drawX, .ref a_images, .ref a_imageX, .ref a_isMade])), (a_tape, .inl (cs 1, 400, .inl a_tape_c))]) [0,1,2] (by decide) rfl) hE hS hFc⟩ rfl rfl hl.1 rfl (lv_room (Nat.le_of_ble_eq_true rfl)) dX12_isHalfHere_83 ⟨(Nat.le_of_ble_eq_true rfl), (Nat.le_of_ble_eq_true rfl)⟩) hS (fun q _ h => hFc q h) hFc (fun r80 o81 t H1 locs ht hvm hw hB hz1 hk1 hS => ?_)
          obtain ⟨hP1, hD1⟩ := hB
          rw [ht] at hP1
          obtain ⟨hP, hD⟩ := va_join (wr := []) (w1 := [(a_read, .inl (cs 0, 86, .inl (o81.2 0))), (a, .inr (12, [.ref a_tape, .int a__taped, .int a__rules, .ref a_sign, .ref a_length, .ref a_clause, .ref a_clauses, .ref a_read, .int (o81.1 2), .int (o81.1 3), .int (o81.1 1), .int a__text, .int a__made, .int a__deep, .int a__lines, .ref a_open, .int a__opened, .ref a_stack, .int a__top, .ref a_word, .ref a_said, .int a__x, .ref a_worth, .ref a_mate, .ref a_wasSaid, .int a__undone, .int a__boughtNow, .ref a_wayBy, .ref a_wayThen, .int a__walkMost, .int a__walkGoing, .int a__walkSet, .ref a_kept, .long a__drawX, .ref a_images, .ref a_imageX, .ref a_isMade])), (a_tape, .inl (cs 1, 400, .inl a_tape_c))]) hP hD [0, 1, 2] [] rfl rfl (by decide) (by decide) hk1 hFc hP1 hD1
          generalize H1 = H at hP hS ⊢
          have hP : va_P D classes [(a_read, .inl (cs 0, 86, .inl (o81.2 0))), (a, .inr (12, [.ref a_tape, .int a__taped, .int a__rules, .ref a_sign, .ref a_length, .ref a_clause, .ref a_clauses, .ref a_read, .int (o81.1 2), .int (o81.1 3), .int (o81.1 1), .int a__text, .int a__made, .int a__deep, .int a__lines, .ref a_open, .int a__opened, .ref a_stack, .int a__top, .ref a_word, .ref a_said, .int a__x, .ref a_worth, .ref a_mate, .ref a_wasSaid, .int a__undone, .int a__boughtNow, .ref a_wayBy, .ref a_wayThen, .int a__walkMost, .int a__walkGoing, .int a__walkSet, .ref a_kept, .long a__drawX, .ref a_images, .ref a_imageX, .ref a_isMade])), (a_tape, .inl (cs 1, 400, .inl a_tape_c))] H := hP
          have hD : va_D A [(a_read, .inl (cs 0, 86, .inl (o81.2 0))), (a, .inr (12, [.ref a_tape, .int a__taped, .int a__rules, .ref a_sign, .ref a_length, .ref a_clause, .ref a_clauses, .ref a_read, .int (o81.1 2), .int (o81.1 3), .int (o81.1 1), .int a__text, .int a__made, .int a__deep, .int a__lines, .ref a_open, .int a__opened, .ref a_stack, .int a__top, .ref a_word, .ref a_said, .int a__x, .ref a_worth, .ref a_mate, .ref a_wasSaid, .int a__undone, .int a__boughtNow, .ref a_wayBy, .ref a_wayThen, .int a__walkMost, .int a__walkGoing, .int a__walkSet, .ref a_kept, .long a__drawX, .ref a_images, .ref a_imageX, .ref a_isMade])), (a_tape, .inl (cs 1, 400, .inl a_tape_c))] := hD
          clear hk1 hFc hP1 hD1 hz1
          rcases hw with ⟨rfl, h82, x83, x84, x85⟩ | ⟨rfl, h86, h87, x88, x89, x90, x91, x92⟩
          · have ii93 : 0 ≤ (o81.1 2).toInt ∧ (o81.1 2).toInt ≤ 400 := h82
            refine lv_if_ne (tgt := 91) hx hb dX12_isHalfHere_86 (by decide) (fun z => absurd (by decide) z) (fun _ => ?_)
            refine lv_iconst (v := 0) hx hb dX12_isHalfHere_89 (by decide) ?_
            refine W.widen (k := 0) (n := 0) (Nat.le_of_ble_eq_true rfl) (Nat.le_of_ble_eq_true rfl) ?_
            have g94 : a__next.toInt ≤ (o81.1 2).toInt := (by omega)
            exact W.zret (v := 0) hx hb hr rfl (fun t ht hW => ⟨⟨0, (fun k => match k with | 0 => 0 | 1 => o81.1 1 | 2 => o81.1 2 | 3 => o81.1 3 | _ => 0, fun k => match k with | 0 => o81.2 0 | _ => fun _ => 0), rfl, (Or.inl (⟨rfl, h82, g94, x84, x85⟩)), by rw [ht]; exact hP.sub [0, 1, 2] rfl, hD.sub [0, 1, 2] (by decide) rfl⟩, hS.F ht⟩) hS.2.2 dX12_isHalfHere_90
          · have ii95 : 1 ≤ a__taped.toInt ∧ a__taped.toInt ≤ 400 := h86
            have ii96 : 0 ≤ (o81.1 2).toInt ∧ (o81.1 2).toInt ≤ 400 := h87
            refine lv_if_ne (tgt := 91) hx hb dX12_isHalfHere_86 (by decide) (fun _ => ?_) (fun z => absurd z (by decide))
            refine lv_aload_n hx hb dX12_isHalfHere_91 rfl (lv_at hl 1 rfl) ?_
            refine va_get (D := D) (ci := 12) (v := .ref a_read) (C := RX12) (T := TX12) (N := 37) hx hb hT i_X12 hown hK hP 1 rfl rfl 7 (by decide) (hT _ q_181) (fun _ h9 => h9) rfl dX12_isHalfHere_92 ?_
            refine lv_iload_n hx hb dX12_isHalfHere_95 rfl (lv_at hl 0 rfl) ?_
            refine lv_iconst (v := 4) hx hb dX12_isHalfHere_96 (by decide) ?_
            refine lv_iadd hx hb dX12_isHalfHere_97 ?_
            refine lv_topi (fun v97 ev97 => ?_)
            have hv97 : IV 14 69 v97 := iv_add ev97 hv16 (iv_c (a := 4) (b := 4) (by decide)) (by decide) (by decide)
            have ii98 : 14 ≤ v97.toInt ∧ v97.toInt ≤ 69 := hv97
            have dv97 : v97.toInt = v16.toInt + 4 := iv_addE ev97 hv16 (iv_c (a := 4) (b := 4) (by decide)) (by decide) (by decide) (by decide)
            have lv97 : v97.toInt = v16.toInt + 4 := lin_add ev97 hv16 (iv_c (a := 4) (b := 4) (by decide)) rfl (by decide) (by decide) (by decide)
            refine lv_iconst (v := 0) hx hb dX12_isHalfHere_98 (by decide) ?_
            refine va_iast hx hb hK hP hD hS 0 0 rfl rfl (iv_v hv97 (by decide) (by decide)) dX12_isHalfHere_99 (fun H locs hP hD hS => ?_)
            have hP : va_P D classes [(a_read, .inl (cs 0, 86, .inl (upd (o81.2 0) (Int32.toNatClampNeg v97) (0 : Int32)))), (a, .inr (12, [.ref a_tape, .int a__taped, .int a__rules, .ref a_sign, .ref a_length, .ref a_clause, .ref a_clauses, .ref a_read, .int (o81.1 2), .int (o81.1 3), .int (o81.1 1), .int a__text, .int a__made, .int a__deep, .int a__lines, .ref a_open, .int a__opened, .ref a_stack, .int a__top, .ref a_word, .ref a_said, .int a__x, .ref a_worth, .ref a_mate, .ref a_wasSaid, .int a__undone, .int a__boughtNow, .ref a_wayBy, .ref a_wayThen, .int a__walkMost, .int a__walkGoing, .int a__walkSet, .ref a_kept, .long a__drawX, .ref a_images, .ref a_imageX, .ref a_isMade])), (a_tape, .inl (cs 1, 400, .inl a_tape_c))] H := hP
            have hD : va_D A [(a_read, .inl (cs 0, 86, .inl (upd (o81.2 0) (Int32.toNatClampNeg v97) (0 : Int32)))), (a, .inr (12, [.ref a_tape, .int a__taped, .int a__rules, .ref a_sign, .ref a_length, .ref a_clause, .ref a_clauses, .ref a_read, .int (o81.1 2), .int (o81.1 3), .int (o81.1 1), .int a__text, .int a__made, .int a__deep, .int a__lines, .ref a_open, .int a__opened, .ref a_stack, .int a__top, .ref a_word, .ref a_said, .int a__x, .ref a_worth, .ref a_mate, .ref a_wasSaid, .int a__undone, .int a__boughtNow, .ref a_wayBy, .ref a_wayThen, .int a__walkMost, .int a__walkGoing, .int a__walkSet, .ref a_kept, .long a__drawX, .ref a_images, .ref a_imageX, .ref a_isMade])), (a_tape, .inl (cs 1, 400, .inl a_tape_c))] := hD
            obtain ⟨f99, uf99⟩ : ∃ z, z = upd (o81.2 0) (Int32.toNatClampNeg v97) (0 : Int32) := ⟨_, rfl⟩
            rw [← uf99] at hP hD
            have wf99 : (f99 (Int32.toNatClampNeg v97)).toInt = 0 := lin_us uf99 (by decide)
            have fb100 : BS f99 0 := (bs_upd x89 uf99 (show Int32.toNatClampNeg v97 ≠ 0 ∧ Int32.toNatClampNeg v97 ≠ 1 ∧ Int32.toNatClampNeg v97 ≠ 2 ∧ Int32.toNatClampNeg v97 ≠ 3 ∧ Int32.toNatClampNeg v97 ≠ 4 ∧ Int32.toNatClampNeg v97 ≠ 71 ∧ Int32.toNatClampNeg v97 ≠ 75 ∧ Int32.toNatClampNeg v97 ≠ 79 ∧ Int32.toNatClampNeg v97 ≠ 83 from by (have q : Int32.toNatClampNeg v97 = v97.toInt.toNat := rfl); omega))
            have kk : (f99 1).toInt = (a_read_c 1).toInt := congrArg Int32.toInt (by rw [uf99, pk_un (show 1 ≠ Int32.toNatClampNeg v97 from by (have q : Int32.toNatClampNeg v97 = v97.toInt.toNat := rfl; omega)), x90, pk_un (show 1 ≠ Int32.toNatClampNeg v78 from by (have q : Int32.toNatClampNeg v78 = v78.toInt.toNat := rfl; omega)), x71, pk_un (show 1 ≠ Int32.toNatClampNeg v59 from by (have q : Int32.toNatClampNeg v59 = v59.toInt.toNat := rfl; omega)), x52, pk_un (show 1 ≠ Int32.toNatClampNeg v16 from by (have q : Int32.toNatClampNeg v16 = v16.toInt.toNat := rfl; omega)), x35, pk_un (show 1 ≠ Int32.toNatClampNeg v18 from by (have q : Int32.toNatClampNeg v18 = v18.toInt.toNat := rfl; omega))])
            have kz : (f99 0).toInt = (a_read_c 0).toInt := congrArg Int32.toInt (by rw [uf99, pk_un (show 0 ≠ Int32.toNatClampNeg v97 from by (have q : Int32.toNatClampNeg v97 = v97.toInt.toNat := rfl; omega)), x90, pk_un (show 0 ≠ Int32.toNatClampNeg v78 from by (have q : Int32.toNatClampNeg v78 = v78.toInt.toNat := rfl; omega)), x71, pk_un (show 0 ≠ Int32.toNatClampNeg v59 from by (have q : Int32.toNatClampNeg v59 = v59.toInt.toNat := rfl; omega)), x52, pk_un (show 0 ≠ Int32.toNatClampNeg v16 from by (have q : Int32.toNatClampNeg v16 = v16.toInt.toNat := rfl; omega)), x35, pk_un (show 0 ≠ Int32.toNatClampNeg v18 from by (have q : Int32.toNatClampNeg v18 = v18.toInt.toNat := rfl; omega))])
            refine lv_aload_n hx hb dX12_isHalfHere_100 rfl (lv_at hl 1 rfl) ?_
            refine va_get (D := D) (ci := 12) (v := .ref a_read) (C := RX12) (T := TX12) (N := 37) hx hb hT i_X12 hown hK hP 1 rfl rfl 7 (by decide) (hT _ q_181) (fun _ h9 => h9) rfl dX12_isHalfHere_101 ?_
            refine lv_iconst (v := 1) hx hb dX12_isHalfHere_104 (by decide) ?_
            refine lv_dup2_11 hx hb dX12_isHalfHere_105 rfl rfl ?_
            refine va_iald hx hb hK hP 0 0 rfl rfl (iv_vc (by decide)) dX12_isHalfHere_106 ?_
            refine lv_topi (fun v101 ev101 => ?_)
            have h102 : IV 0 12 v101 := (by rw [ev101]; exact bs_i1 fb100)
            have ii103 : 0 ≤ v101.toInt ∧ v101.toInt ≤ 12 := h102
            have lv101 : v101.toInt = (f99 1).toInt := by rw [ev101]; rfl
            refine lv_iconst (v := 1) hx hb dX12_isHalfHere_107 (by decide) ?_
            refine lv_iadd hx hb dX12_isHalfHere_108 ?_
            refine lv_topi (fun v104 ev104 => ?_)
            have hv104 : IV 1 13 v104 := iv_add ev104 h102 (iv_c (a := 1) (b := 1) (by decide)) (by decide) (by decide)
            have ii105 : 1 ≤ v104.toInt ∧ v104.toInt ≤ 13 := hv104
            have dv104 : v104.toInt = v101.toInt + 1 := iv_addE ev104 h102 (iv_c (a := 1) (b := 1) (by decide)) (by decide) (by decide) (by decide)
            have lv104 : v104.toInt = v101.toInt + 1 := lin_add ev104 h102 (iv_c (a := 1) (b := 1) (by decide)) rfl (by decide) (by decide) (by decide)
            refine va_iast hx hb hK hP hD hS 0 0 rfl rfl (iv_vc (by decide)) dX12_isHalfHere_109 (fun H locs hP hD hS => ?_)
            have hP : va_P D classes [(a_read, .inl (cs 0, 86, .inl (upd f99 (Int32.toNatClampNeg (1 : Int32)) v104))), (a, .inr (12, [.ref a_tape, .int a__taped, .int a__rules, .ref a_sign, .ref a_length, .ref a_clause, .ref a_clauses, .ref a_read, .int (o81.1 2), .int (o81.1 3), .int (o81.1 1), .int a__text, .int a__made, .int a__deep, .int a__lines, .ref a_open, .int a__opened, .ref a_stack, .int a__top, .ref a_word, .ref a_said, .int a__x, .ref a_worth, .ref a_mate, .ref a_wasSaid, .int a__undone, .int a__boughtNow, .ref a_wayBy, .ref a_wayThen, .int a__walkMost, .int a__walkGoing, .int a__walkSet, .ref a_kept, .long a__drawX, .ref a_images, .ref a_imageX, .ref a_isMade])), (a_tape, .inl (cs 1, 400, .inl a_tape_c))] H := hP
            have hD : va_D A [(a_read, .inl (cs 0, 86, .inl (upd f99 (Int32.toNatClampNeg (1 : Int32)) v104))), (a, .inr (12, [.ref a_tape, .int a__taped, .int a__rules, .ref a_sign, .ref a_length, .ref a_clause, .ref a_clauses, .ref a_read, .int (o81.1 2), .int (o81.1 3), .int (o81.1 1), .int a__text, .int a__made, .int a__deep, .int a__lines, .ref a_open, .int a__opened, .ref a_stack, .int a__top, .ref a_word, .ref a_said, .int a__x, .ref a_worth, .ref a_mate, .ref a_wasSaid, .int a__undone, .int a__boughtNow, .ref a_wayBy, .ref a_wayThen, .int a__walkMost, .int a__walkGoing, .int a__walkSet, .ref a_kept, .long a__drawX, .ref a_images, .ref a_imageX, .ref a_isMade])), (a_tape, .inl (cs 1, 400, .inl a_tape_c))] := hD
            obtain ⟨f106, uf106⟩ : ∃ z, z = upd f99 (Int32.toNatClampNeg (1 : Int32)) v104 := ⟨_, rfl⟩
            rw [← uf106] at hP hD
            have uf106 : f106 = upd f99 1 v104 := uf106
            have wf106 : (f106 1).toInt = v104.toInt := lin_us uf106 rfl
            have fb107 : BS f106 0 := (bs_1 fb100 uf106 (by omega) (by omega))
            refine lv_iconst (v := 1) hx hb dX12_isHalfHere_110 (by decide) ?_
            refine W.widen (k := 0) (n := 0) (Nat.le_of_ble_eq_true rfl) (Nat.le_of_ble_eq_true rfl) ?_
            have g108 : a__next.toInt ≤ (o81.1 2).toInt := (by omega)
            exact W.zret (v := 1) hx hb hr rfl (fun t ht hW => ⟨⟨1, (fun k => match k with | 0 => 0 | 1 => o81.1 1 | 2 => o81.1 2 | 3 => o81.1 3 | _ => 0, fun k => match k with | 0 => f106 | _ => fun _ => 0), rfl, (Or.inr ((⟨rfl, h86, h87, g108, fb107⟩))), by rw [ht]; exact hP.sub [0, 1, 2] rfl, hD.sub [0, 1, 2] (by decide) rfl⟩, hS.F ht⟩) hS.2.2 dX12_isHalfHere_111
  · have t109 : v1.toInt = 12 := lin_eqN c4 rfl (by decide)
    have h110 : IV 12 12 v1 := iv_eq1 c4 h2 (iv_c (a := 12) (b := 12) (by decide)) (by decide) (by decide)
    have ii111 : 12 ≤ v1.toInt ∧ v1.toInt ≤ 12 := h110
    refine lv_aload_n hx hb dX12_isHalfHere_11 rfl (lv_at hl 0 rfl) ?_
    refine lv_iconst (v := 4) hx hb dX12_isHalfHere_12 (by decide) ?_
    refine lv_iload_n hx hb dX12_isHalfHere_13 rfl (lv_at hl 1 rfl) ?_
    have hFc := va_free (wc := [(a, .inr (12, [.ref a_tape, .int a__taped, .int a__rules, .ref a_sign, .ref a_length, .ref a_clause, .ref a_clauses, .ref a_read, .int a__next, .int a__wrong, .int a__number, .int a__text, .int a__made, .int a__deep, .int a__lines, .ref a_open, .int a__opened, .ref a_stack, .int a__top, .ref a_word, .ref a_said, .int a__x, .ref a_worth, .ref a_mate, .ref a_wasSaid, .int a__undone, .int a__boughtNow, .ref a_wayBy, .ref a_wayThen, .int a__walkMost, .int a__walkGoing, .int a__walkSet, .ref a_kept, .long a__drawX, .ref a_images, .ref a_imageX, .ref a_isMade]))]) hD hS hA [1] rfl
    refine va_calli (va_runV (As := [.int 4, .int p0]) (rest := []) ⟨hx, hb, hml, hown, hT⟩ (c_X12_fails l D cs kK kV a 4 p0 a_tape a__taped a__rules a_sign a_length a_clause a_clauses a_read a__next a__wrong a__number a__text a__made a__deep a__lines a_open a__opened a_stack a__top a_word a_said a__x a_worth a_mate a_wasSaid a__undone a__boughtNow a_wayBy a_wayThen a__walkMost a__walkGoing a__walkSet a_kept a__drawX a_images a_imageX a_isMade ((iv_c (by decide))) h_p0 h_a__taped h_a__rules h_a__next h_a__text h_a__made h_a__lines h_a__opened h_a__top h_a__x h_a__undone H.size) (cwV 2 hT (hz_gV q_960 q_961 q_962 q_701 q_963) rfl rfl rfl (by decide +kernel) ⟨(Nat.le_of_ble_eq_true rfl), (Nat.le_of_ble_eq_true rfl)⟩) ⟨hz_C.blind, va_recv hK hP (ci := 12) (q0 := 1) rfl rfl, hz_C.mk (hP.sub (ws' := [(a, .inr (12, [.ref a_tape, .int a__taped, .int a__rules, .ref a_sign, .ref a_length, .ref a_clause, .ref a_clauses, .ref a_read, .int a__next, .int a__wrong, .int a__number, .int a__text, .int a__made, .int a__deep, .int a__lines, .ref a_open, .int a__opened, .ref a_stack, .int a__top, .ref a_word, .ref a_said, .int a__x, .ref a_worth, .ref a_mate, .ref a_wasSaid, .int a__undone, .int a__boughtNow, .ref a_wayBy, .ref a_wayThen, .int a__walkMost, .int a__walkGoing, .int a__walkSet, .ref a_kept, .long a__drawX, .ref a_images, .ref a_imageX, .ref a_isMade]))]) [1] rfl) (hD.sub (ws' := [(a, .inr (12, [.ref a_tape, .int a__taped, .int a__rules, .ref a_sign, .ref a_length, .ref a_clause, .ref a_clauses, .ref a_read, .int a__next, .int a__wrong, .int a__number, .int a__text, .int a__made, .int a__deep, .int a__lines, .ref a_open, .int a__opened, .ref a_stack, .int a__top, .ref a_word, .ref a_said, .int a__x, .ref a_worth, .ref a_mate, .ref a_wasSaid, .int a__undone, .int a__boughtNow, .ref a_wayBy, .ref a_wayThen, .int a__walkMost, .int a__walkGoing, .int a__walkSet, .ref a_kept, .long a__drawX, .ref a_images, .ref a_imageX, .ref a_isMade]))]) [1] (by decide) rfl) hE hS hFc⟩ rfl rfl hl.1 rfl (lv_room (Nat.le_of_ble_eq_true rfl)) dX12_isHalfHere_14 ⟨(Nat.le_of_ble_eq_true rfl), (Nat.le_of_ble_eq_true rfl)⟩) hS (fun q _ h => hFc q h) hFc (fun r112 o113 t H1 locs ht hvm hw hB hz1 hk1 hS => ?_)
    obtain ⟨hP1, hD1⟩ := hB
    rw [ht] at hP1
    obtain ⟨hP, hD⟩ := va_join (wr := [(a_read, .inl (cs 0, 86, .inl a_read_c)), (a_tape, .inl (cs 1, 400, .inl a_tape_c))]) (w1 := [(a, .inr (12, [.ref a_tape, .int a__taped, .int a__rules, .ref a_sign, .ref a_length, .ref a_clause, .ref a_clauses, .ref a_read, .int a__next, .int (o113.1 1), .int a__number, .int a__text, .int a__made, .int a__deep, .int a__lines, .ref a_open, .int a__opened, .ref a_stack, .int a__top, .ref a_word, .ref a_said, .int a__x, .ref a_worth, .ref a_mate, .ref a_wasSaid, .int a__undone, .int a__boughtNow, .ref a_wayBy, .ref a_wayThen, .int a__walkMost, .int a__walkGoing, .int a__walkSet, .ref a_kept, .long a__drawX, .ref a_images, .ref a_imageX, .ref a_isMade]))]) hP hD [1] [0, 2] rfl rfl (by decide) (by decide) hk1 hFc hP1 hD1
    generalize H1 = H at hP hS ⊢
    have hP : va_P D classes [(a_read, .inl (cs 0, 86, .inl a_read_c)), (a_tape, .inl (cs 1, 400, .inl a_tape_c)), (a, .inr (12, [.ref a_tape, .int a__taped, .int a__rules, .ref a_sign, .ref a_length, .ref a_clause, .ref a_clauses, .ref a_read, .int a__next, .int (o113.1 1), .int a__number, .int a__text, .int a__made, .int a__deep, .int a__lines, .ref a_open, .int a__opened, .ref a_stack, .int a__top, .ref a_word, .ref a_said, .int a__x, .ref a_worth, .ref a_mate, .ref a_wasSaid, .int a__undone, .int a__boughtNow, .ref a_wayBy, .ref a_wayThen, .int a__walkMost, .int a__walkGoing, .int a__walkSet, .ref a_kept, .long a__drawX, .ref a_images, .ref a_imageX, .ref a_isMade]))] H := hP
    have hD : va_D A [(a_read, .inl (cs 0, 86, .inl a_read_c)), (a_tape, .inl (cs 1, 400, .inl a_tape_c)), (a, .inr (12, [.ref a_tape, .int a__taped, .int a__rules, .ref a_sign, .ref a_length, .ref a_clause, .ref a_clauses, .ref a_read, .int a__next, .int (o113.1 1), .int a__number, .int a__text, .int a__made, .int a__deep, .int a__lines, .ref a_open, .int a__opened, .ref a_stack, .int a__top, .ref a_word, .ref a_said, .int a__x, .ref a_worth, .ref a_mate, .ref a_wasSaid, .int a__undone, .int a__boughtNow, .ref a_wayBy, .ref a_wayThen, .int a__walkMost, .int a__walkGoing, .int a__walkSet, .ref a_kept, .long a__drawX, .ref a_images, .ref a_imageX, .ref a_isMade]))] := hD
    clear hk1 hFc hP1 hD1 hz1
    rcases hw with ⟨rfl, x114⟩
    refine W.widen (k := 0) (n := 0) (Nat.le_of_ble_eq_true rfl) (Nat.le_of_ble_eq_true rfl) ?_
    have g115 : a__next.toInt ≤ a__next.toInt := (by omega)
    exact W.zret (v := 0) hx hb hr rfl (fun t ht hW => ⟨⟨0, (fun k => match k with | 0 => 0 | 1 => a__number | 2 => a__next | 3 => o113.1 1 | _ => 0, fun k => match k with | 0 => a_read_c | _ => fun _ => 0), rfl, (Or.inl (⟨rfl, h_a__next, g115, hf0, x114⟩)), by rw [ht]; exact hP.sub [0, 2, 1] rfl, hD.sub [0, 2, 1] (by decide) rfl⟩, hS.F ht⟩) hS.2.2 dX12_isHalfHere_17
theorem dX12_isForgedHere_0 : decode cX12_isForgedHere 0 = .ok (.aload_n 0, 1) := by decide +kernel
theorem dX12_isForgedHere_1 : decode cX12_isForgedHere 1 = .ok (.invokevirtual 96, 3) := by decide +kernel
theorem dX12_isForgedHere_4 : decode cX12_isForgedHere 4 = .ok (.aload_n 0, 1) := by decide +kernel
theorem dX12_isForgedHere_5 : decode cX12_isForgedHere 5 = .ok (.iconst 0, 1) := by decide +kernel
theorem dX12_isForgedHere_6 : decode cX12_isForgedHere 6 = .ok (.aload_n 0, 1) := by decide +kernel
theorem dX12_isForgedHere_7 : decode cX12_isForgedHere 7 = .ok (.getfield 26, 3) := by decide +kernel
theorem dX12_isForgedHere_10 : decode cX12_isForgedHere 10 = .ok (.iconst 1, 1) := by decide +kernel
theorem dX12_isForgedHere_11 : decode cX12_isForgedHere 11 = .ok (.iaload, 1) := by decide +kernel
theorem dX12_isForgedHere_12 : decode cX12_isForgedHere 12 = .ok (.iconst 1, 1) := by decide +kernel
theorem dX12_isForgedHere_13 : decode cX12_isForgedHere 13 = .ok (.isub, 1) := by decide +kernel
theorem dX12_isForgedHere_14 : decode cX12_isForgedHere 14 = .ok (.invokevirtual 160, 3) := by decide +kernel
theorem dX12_isForgedHere_17 : decode cX12_isForgedHere 17 = .ok (.ifCond .ne 5, 3) := by decide +kernel
theorem dX12_isForgedHere_20 : decode cX12_isForgedHere 20 = .ok (.iconst 0, 1) := by decide +kernel
theorem dX12_isForgedHere_21 : decode cX12_isForgedHere 21 = .ok (.ireturn, 1) := by decide +kernel
theorem dX12_isForgedHere_22 : decode cX12_isForgedHere 22 = .ok (.aload_n 0, 1) := by decide +kernel
theorem dX12_isForgedHere_23 : decode cX12_isForgedHere 23 = .ok (.getfield 26, 3) := by decide +kernel
theorem dX12_isForgedHere_26 : decode cX12_isForgedHere 26 = .ok (.bipush 10, 2) := by decide +kernel
theorem dX12_isForgedHere_28 : decode cX12_isForgedHere 28 = .ok (.iconst 5, 1) := by decide +kernel
theorem dX12_isForgedHere_29 : decode cX12_isForgedHere 29 = .ok (.aload_n 0, 1) := by decide +kernel
theorem dX12_isForgedHere_30 : decode cX12_isForgedHere 30 = .ok (.getfield 106, 3) := by decide +kernel
theorem dX12_isForgedHere_33 : decode cX12_isForgedHere 33 = .ok (.imul, 1) := by decide +kernel
theorem dX12_isForgedHere_34 : decode cX12_isForgedHere 34 = .ok (.iadd, 1) := by decide +kernel
theorem dX12_isForgedHere_35 : decode cX12_isForgedHere 35 = .ok (.iconst 4, 1) := by decide +kernel
theorem dX12_isForgedHere_36 : decode cX12_isForgedHere 36 = .ok (.iadd, 1) := by decide +kernel
theorem dX12_isForgedHere_37 : decode cX12_isForgedHere 37 = .ok (.iconst 1, 1) := by decide +kernel
theorem dX12_isForgedHere_38 : decode cX12_isForgedHere 38 = .ok (.iastore, 1) := by decide +kernel
theorem dX12_isForgedHere_39 : decode cX12_isForgedHere 39 = .ok (.iconst 1, 1) := by decide +kernel
theorem dX12_isForgedHere_40 : decode cX12_isForgedHere 40 = .ok (.ireturn, 1) := by decide +kernel
set_option maxHeartbeats 4000000 in
set_option maxRecDepth 100000 in
theorem c_X12_isForgedHere (l : Launch) (D : va_G) (cs : Nat → ClassId) (kK kV : Nat → Nat) (a : Nat) (a_read : Nat) (a_read_c : Nat → Int32) (a_tape : Nat) (a__taped : Int32) (a__rules : Int32) (a_sign : Nat) (a_length : Nat) (a_clause : Nat) (a_clauses : Nat) (a__next : Int32) (a__wrong : Int32) (a__number : Int32) (a__text : Int32) (a__made : Int32) (a__deep : Int32) (a__lines : Int32) (a_open : Nat) (a__opened : Int32) (a_stack : Nat) (a__top : Int32) (a_word : Nat) (a_said : Nat) (a__x : Int32) (a_worth : Nat) (a_mate : Nat) (a_wasSaid : Nat) (a__undone : Int32) (a__boughtNow : Int32) (a_wayBy : Nat) (a_wayThen : Nat) (a__walkMost : Int32) (a__walkGoing : Int32) (a__walkSet : Int32) (a_kept : Nat) (a__drawX : Int64) (a_images : Nat) (a_imageX : Nat) (a_isMade : Nat) (a_tape_c : Nat → Int32) (h_a__taped : IV 0 400 a__taped) (h_a__rules : IV 0 6 a__rules) (h_a__next : IV 0 400 a__next) (h_a__text : IV 0 6 a__text) (h_a__made : IV 0 60 a__made) (h_a__lines : IV 0 40 a__lines) (h_a__opened : IV 0 400 a__opened) (h_a__top : IV 0 64 a__top) (h_a__x : IV 0 2147483647 a__x) (h_a__undone : IV 0 20 a__undone) (hf0 : BS a_read_c 0) (sz : Nat) : Met l yX12_isForgedHere (hz_w yX12_isForgedHere cX12_isForgedHere 1 (some .boolean)) ({ frames := 2, cells := 0, slots := 0, locals := 49 }) (va_Pc [.ref a] (hz_C D cs kK kV sz [(a_read, .inl (cs 0, 86, .inl a_read_c)), (a, .inr (12, [.ref a_tape, .int a__taped, .int a__rules, .ref a_sign, .ref a_length, .ref a_clause, .ref a_clauses, .ref a_read, .int a__next, .int a__wrong, .int a__number, .int a__text, .int a__made, .int a__deep, .int a__lines, .ref a_open, .int a__opened, .ref a_stack, .int a__top, .ref a_word, .ref a_said, .int a__x, .ref a_worth, .ref a_mate, .ref a_wasSaid, .int a__undone, .int a__boughtNow, .ref a_wayBy, .ref a_wayThen, .int a__walkMost, .int a__walkGoing, .int a__walkSet, .ref a_kept, .long a__drawX, .ref a_images, .ref a_imageX, .ref a_isMade])), (a_tape, .inl (cs 1, 400, .inl a_tape_c))])) (va_Qi (fun (r : Int32) (u : (Nat → Int32) × (Nat → Nat → Int32)) => (r = 0 ∧ IV 0 400 (u.1 2) ∧ (a__next.toInt ≤ (u.1 2).toInt) ∧ (BS (u.2 0) 0) ∧ ((u.1 3).toInt ≠ 0)) ∨ (r = 1 ∧ IV 1 400 a__taped ∧ IV 0 11 (u.1 1) ∧ IV 0 400 (u.1 2) ∧ (a__next.toInt ≤ (u.1 2).toInt) ∧ (BS (u.2 0) 0))) (fun u t => va_P D classes [(a_read, .inl (cs 0, 86, .inl (u.2 0))), (a, .inr (12, [.ref a_tape, .int a__taped, .int a__rules, .ref a_sign, .ref a_length, .ref a_clause, .ref a_clauses, .ref a_read, .int (u.1 2), .int (u.1 3), .int (u.1 1), .int a__text, .int a__made, .int a__deep, .int a__lines, .ref a_open, .int a__opened, .ref a_stack, .int a__top, .ref a_word, .ref a_said, .int a__x, .ref a_worth, .ref a_mate, .ref a_wasSaid, .int a__undone, .int a__boughtNow, .ref a_wayBy, .ref a_wayThen, .int a__walkMost, .int a__walkGoing, .int a__walkSet, .ref a_kept, .long a__drawX, .ref a_images, .ref a_imageX, .ref a_isMade])), (a_tape, .inl (cs 1, 400, .inl a_tape_c))] t.heap ∧ va_D (va_A [(a_read, .inl (cs 0, 86, .inl a_read_c)), (a, .inr (12, [.ref a_tape, .int a__taped, .int a__rules, .ref a_sign, .ref a_length, .ref a_clause, .ref a_clauses, .ref a_read, .int a__next, .int a__wrong, .int a__number, .int a__text, .int a__made, .int a__deep, .int a__lines, .ref a_open, .int a__opened, .ref a_stack, .int a__top, .ref a_word, .ref a_said, .int a__x, .ref a_worth, .ref a_mate, .ref a_wasSaid, .int a__undone, .int a__boughtNow, .ref a_wayBy, .ref a_wayThen, .int a__walkMost, .int a__walkGoing, .int a__walkSet, .ref a_kept, .long a__drawX, .ref a_images, .ref a_imageX, .ref a_isMade])), (a_tape, .inl (cs 1, 400, .inl a_tape_c))] sz) [(a_read, .inl (cs 0, 86, .inl (u.2 0))), (a, .inr (12, [.ref a_tape, .int a__taped, .int a__rules, .ref a_sign, .ref a_length, .ref a_clause, .ref a_clauses, .ref a_read, .int (u.1 2), .int (u.1 3), .int (u.1 1), .int a__text, .int a__made, .int a__deep, .int a__lines, .ref a_open, .int a__opened, .ref a_stack, .int a__top, .ref a_word, .ref a_said, .int a__x, .ref a_worth, .ref a_mate, .ref a_wasSaid, .int a__undone, .int a__boughtNow, .ref a_wayBy, .ref a_wayThen, .int a__walkMost, .int a__walkGoing, .int a__walkSet, .ref a_kept, .long a__drawX, .ref a_images, .ref a_imageX, .ref a_isMade])), (a_tape, .inl (cs 1, 400, .inl a_tape_c))]) (va_A [(a_read, .inl (cs 0, 86, .inl a_read_c)), (a, .inr (12, [.ref a_tape, .int a__taped, .int a__rules, .ref a_sign, .ref a_length, .ref a_clause, .ref a_clauses, .ref a_read, .int a__next, .int a__wrong, .int a__number, .int a__text, .int a__made, .int a__deep, .int a__lines, .ref a_open, .int a__opened, .ref a_stack, .int a__top, .ref a_word, .ref a_said, .int a__x, .ref a_worth, .ref a_mate, .ref a_wasSaid, .int a__undone, .int a__boughtNow, .ref a_wayBy, .ref a_wayThen, .int a__walkMost, .int a__walkGoing, .int a__walkSet, .ref a_kept, .long a__drawX, .ref a_images, .ref a_imageX, .ref a_isMade])), (a_tape, .inl (cs 1, 400, .inl a_tape_c))] sz)) 0 0 (va_A [(a_read, .inl (cs 0, 86, .inl a_read_c)), (a, .inr (12, [.ref a_tape, .int a__taped, .int a__rules, .ref a_sign, .ref a_length, .ref a_clause, .ref a_clauses, .ref a_read, .int a__next, .int a__wrong, .int a__number, .int a__text, .int a__made, .int a__deep, .int a__lines, .ref a_open, .int a__opened, .ref a_stack, .int a__top, .ref a_word, .ref a_said, .int a__x, .ref a_worth, .ref a_mate, .ref a_wasSaid, .int a__undone, .int a__boughtNow, .ref a_wayBy, .ref a_wayThen, .int a__walkMost, .int a__walkGoing, .int a__walkSet, .ref a_kept, .long a__drawX, .ref a_images, .ref a_imageX, .ref a_isMade])), (a_tape, .inl (cs 1, 400, .inl a_tape_c))] sz) := by
  refine Met.ofW (cc := cX12_isForgedHere) (maxL := 1) (ret := (some .boolean)) (by decide) rfl ?_
  intro p e s m args below meth c s₁ B hml hv
  obtain ⟨rfl, hsz, hP, hD0, hE⟩ := hv
  have hx := B.exec
  have hb := B.bytes
  have hr := B.returns
  have hT : ∀ w ∈ TB, w.before _ s = true := fun w h => atoms_spec (ws := hz_w yX12_isForgedHere cX12_isForgedHere 1 (some .boolean)) B.pre w (List.mem_cons_of_mem _ h)
  have hown : s.vm.findClass RX12 = some m.cls := findClass_of_methodNamed B.named
  have hlocks := B.notSynchronized
  clear B
  subst hsz
  have hD := hD0.self (sz := s.heap.size)
  generalize hAe : va_A [(a_read, .inl (cs 0, 86, .inl a_read_c)), (a, .inr (12, [.ref a_tape, .int a__taped, .int a__rules, .ref a_sign, .ref a_length, .ref a_clause, .ref a_clauses, .ref a_read, .int a__next, .int a__wrong, .int a__number, .int a__text, .int a__made, .int a__deep, .int a__lines, .ref a_open, .int a__opened, .ref a_stack, .int a__top, .ref a_word, .ref a_said, .int a__x, .ref a_worth, .ref a_mate, .ref a_wasSaid, .int a__undone, .int a__boughtNow, .ref a_wayBy, .ref a_wayThen, .int a__walkMost, .int a__walkGoing, .int a__walkSet, .ref a_kept, .long a__drawX, .ref a_images, .ref a_imageX, .ref a_isMade])), (a_tape, .inl (cs 1, 400, .inl a_tape_c))] s.heap.size = A at hD hE ⊢
  have hA : ∀ q : Nat, s.heap.size ≤ q → A q := fun q h => by rw [← hAe]; exact Or.inr h
  clear hAe hD0
  have hS : va_S A s.heap s.heap [] := va_S.rf
  have hK := hE.1
  have hl := lv_entry ([.ref a]) (n := 1) (Nat.le_of_ble_eq_true rfl)
  rw [lg_entry_eq]
  generalize (lg_sl ([.ref a]) ++ List.replicate (1 - (lg_sl ([.ref a])).length) Slot.unset).toArray = ls at hl ⊢
  have hl : lv_has ls 1 [(0, .ref a)] := hl
  obtain ⟨H, eH⟩ : ∃ z, z = s.heap := ⟨_, rfl⟩
  have hP : va_P D classes [(a_read, .inl (cs 0, 86, .inl a_read_c)), (a, .inr (12, [.ref a_tape, .int a__taped, .int a__rules, .ref a_sign, .ref a_length, .ref a_clause, .ref a_clauses, .ref a_read, .int a__next, .int a__wrong, .int a__number, .int a__text, .int a__made, .int a__deep, .int a__lines, .ref a_open, .int a__opened, .ref a_stack, .int a__top, .ref a_word, .ref a_said, .int a__x, .ref a_worth, .ref a_mate, .ref a_wasSaid, .int a__undone, .int a__boughtNow, .ref a_wayBy, .ref a_wayThen, .int a__walkMost, .int a__walkGoing, .int a__walkSet, .ref a_kept, .long a__drawX, .ref a_images, .ref a_imageX, .ref a_isMade])), (a_tape, .inl (cs 1, 400, .inl a_tape_c))] H := by rw [eH]; exact hP
  have hS : va_S A s.heap H [] := by rw [eH]; exact hS
  rw [← eH]
  clear eH
  obtain ⟨locs, el⟩ : ∃ z : List Loc, z = [] := ⟨_, rfl⟩
  rw [← el] at hS ⊢
  clear el
  have z0 : (0 : Int32).toInt = 0 := by decide
  have z1 : (1 : Int32).toInt = 1 := by decide
  have zm1 : (-1 : Int32).toInt = -1 := by decide
  have i_a__lines : 0 ≤ a__lines.toInt ∧ a__lines.toInt ≤ 40 := h_a__lines
  have i_a__made : 0 ≤ a__made.toInt ∧ a__made.toInt ≤ 60 := h_a__made
  have i_a__next : 0 ≤ a__next.toInt ∧ a__next.toInt ≤ 400 := h_a__next
  have i_a__opened : 0 ≤ a__opened.toInt ∧ a__opened.toInt ≤ 400 := h_a__opened
  have i_a__rules : 0 ≤ a__rules.toInt ∧ a__rules.toInt ≤ 6 := h_a__rules
  have i_a__taped : 0 ≤ a__taped.toInt ∧ a__taped.toInt ≤ 400 := h_a__taped
  have i_a__text : 0 ≤ a__text.toInt ∧ a__text.toInt ≤ 6 := h_a__text
  have i_a__top : 0 ≤ a__top.toInt ∧ a__top.toInt ≤ 64 := h_a__top
  have i_a__undone : 0 ≤ a__undone.toInt ∧ a__undone.toInt ≤ 20 := h_a__undone
  have i_a__x : 0 ≤ a__x.toInt ∧ a__x.toInt ≤ 2147483647 := h_a__x
  refine lv_aload_n hx hb dX12_isForgedHere_0 rfl (lv_at hl 0 rfl) ?_
  have hFc := va_free (wc := [(a, .inr (12, [.ref a_tape, .int a__taped, .int a__rules, .ref a_sign, .ref a_length, .ref a_clause, .ref a_clauses, .ref a_read, .int a__next, .int a__wrong, .int a__number, .int a__text, .int a__made, .int a__deep, .int a__lines, .ref a_open, .int a__opened, .ref a_stack, .int a__top, .ref a_word, .ref a_said, .int a__x, .ref a_worth, .ref a_mate, .ref a_wasSaid, .int a__undone, .int a__boughtNow, .ref a_wayBy, .ref a_wayThen, .int a__walkMost, .int a__walkGoing, .int a__walkSet, .ref a_kept, .long a__drawX, .ref a_images, .ref a_imageX, .ref a_isMade])), (a_tape, .inl (cs 1, 400, .inl a_tape_c))]) hD hS hA [1,2] rfl
  refine va_callv (va_runV (As := []) (rest := []) ⟨hx, hb, hml, hown, hT⟩ (c_X12_passWord l D cs kK kV a a_tape a__taped a__rules a_sign a_length a_clause a_clauses a_read a__next a__wrong a__number a__text a__made a__deep a__lines a_open a__opened a_stack a__top a_word a_said a__x a_worth a_mate a_wasSaid a__undone a__boughtNow a_wayBy a_wayThen a__walkMost a__walkGoing a__walkSet a_kept a__drawX a_images a_imageX a_isMade a_tape_c h_a__taped h_a__rules h_a__next h_a__text h_a__made h_a__lines h_a__opened h_a__top h_a__x h_a__undone H.size) (cwV 0 hT (hz_gV q_952 q_953 q_954 q_701 q_955) rfl rfl rfl (by decide +kernel) ⟨(Nat.le_of_ble_eq_true rfl), (Nat.le_of_ble_eq_true rfl)⟩) ⟨hz_C.blind, va_recv hK hP (ci := 12) (q0 := 1) rfl rfl, hz_C.mk (hP.sub (ws' := [(a, .inr (12, [.ref a_tape, .int a__taped, .int a__rules, .ref a_sign, .ref a_length, .ref a_clause, .ref a_clauses, .ref a_read, .int a__next, .int a__wrong, .int a__number, .int a__text, .int a__made, .int a__deep, .int a__lines, .ref a_open, .int a__opened, .ref a_stack, .int a__top, .ref a_word, .ref a_said, .int a__x, .ref a_worth, .ref a_mate, .ref a_wasSaid, .int a__undone, .int a__boughtNow, .ref a_wayBy, .ref a_wayThen, .int a__walkMost, .int a__walkGoing, .int a__walkSet, .ref a_kept, .long a__drawX, .ref a_images, .ref a_imageX, .ref a_isMade])), (a_tape, .inl (cs 1, 400, .inl a_tape_c))]) [1,2] rfl) (hD.sub (ws' := [(a, .inr (12, [.ref a_tape, .int a__taped, .int a__rules, .ref a_sign, .ref a_length, .ref a_clause, .ref a_clauses, .ref a_read, .int a__next, .int a__wrong, .int a__number, .int a__text, .int a__made, .int a__deep, .int a__lines, .ref a_open, .int a__opened, .ref a_stack, .int a__top, .ref a_word, .ref a_said, .int a__x, .ref a_worth, .ref a_mate, .ref a_wasSaid, .int a__undone, .int a__boughtNow, .ref a_wayBy, .ref a_wayThen, .int a__walkMost, .int a__walkGoing, .int a__walkSet, .ref a_kept, .long a__drawX, .ref a_images, .ref a_imageX, .ref a_isMade])), (a_tape, .inl (cs 1, 400, .inl a_tape_c))]) [1,2] (by decide) rfl) hE hS hFc⟩ rfl rfl hl.1 rfl (lv_room (Nat.le_of_ble_eq_true rfl)) dX12_isForgedHere_1 ⟨(Nat.le_of_ble_eq_true rfl), (Nat.le_of_ble_eq_true rfl)⟩) hS (fun q _ h => hFc q h) hFc (fun o2 t H1 locs ht hvm hw hB hz1 hk1 hS => ?_)
  obtain ⟨hP1, hD1⟩ := hB
  rw [ht] at hP1
  obtain ⟨hP, hD⟩ := va_join (wr := [(a_read, .inl (cs 0, 86, .inl a_read_c))]) (w1 := [(a, .inr (12, [.ref a_tape, .int a__taped, .int a__rules, .ref a_sign, .ref a_length, .ref a_clause, .ref a_clauses, .ref a_read, .int (o2.1 1), .int a__wrong, .int a__number, .int a__text, .int a__made, .int a__deep, .int a__lines, .ref a_open, .int a__opened, .ref a_stack, .int a__top, .ref a_word, .ref a_said, .int a__x, .ref a_worth, .ref a_mate, .ref a_wasSaid, .int a__undone, .int a__boughtNow, .ref a_wayBy, .ref a_wayThen, .int a__walkMost, .int a__walkGoing, .int a__walkSet, .ref a_kept, .long a__drawX, .ref a_images, .ref a_imageX, .ref a_isMade])), (a_tape, .inl (cs 1, 400, .inl a_tape_c))]) hP hD [1, 2] [0] rfl rfl (by decide) (by decide) hk1 hFc hP1 hD1
  generalize H1 = H at hP hS ⊢
  have hP : va_P D classes [(a_read, .inl (cs 0, 86, .inl a_read_c)), (a, .inr (12, [.ref a_tape, .int a__taped, .int a__rules, .ref a_sign, .ref a_length, .ref a_clause, .ref a_clauses, .ref a_read, .int (o2.1 1), .int a__wrong, .int a__number, .int a__text, .int a__made, .int a__deep, .int a__lines, .ref a_open, .int a__opened, .ref a_stack, .int a__top, .ref a_word, .ref a_said, .int a__x, .ref a_worth, .ref a_mate, .ref a_wasSaid, .int a__undone, .int a__boughtNow, .ref a_wayBy, .ref a_wayThen, .int a__walkMost, .int a__walkGoing, .int a__walkSet, .ref a_kept, .long a__drawX, .ref a_images, .ref a_imageX, .ref a_isMade])), (a_tape, .inl (cs 1, 400, .inl a_tape_c))] H := hP
  have hD : va_D A [(a_read, .inl (cs 0, 86, .inl a_read_c)), (a, .inr (12, [.ref a_tape, .int a__taped, .int a__rules, .ref a_sign, .ref a_length, .ref a_clause, .ref a_clauses, .ref a_read, .int (o2.1 1), .int a__wrong, .int a__number, .int a__text, .int a__made, .int a__deep, .int a__lines, .ref a_open, .int a__opened, .ref a_stack, .int a__top, .ref a_word, .ref a_said, .int a__x, .ref a_worth, .ref a_mate, .ref a_wasSaid, .int a__undone, .int a__boughtNow, .ref a_wayBy, .ref a_wayThen, .int a__walkMost, .int a__walkGoing, .int a__walkSet, .ref a_kept, .long a__drawX, .ref a_images, .ref a_imageX, .ref a_isMade])), (a_tape, .inl (cs 1, 400, .inl a_tape_c))] := hD
  clear hk1 hFc hP1 hD1 hz1
  rcases hw with ⟨h3, x4, x5⟩
  have ii6 : 0 ≤ (o2.1 1).toInt ∧ (o2.1 1).toInt ≤ 400 := h3
  refine lv_aload_n hx hb dX12_isForgedHere_4 rfl (lv_at hl 0 rfl) ?_
  refine lv_iconst (v := 0) hx hb dX12_isForgedHere_5 (by decide) ?_
  refine lv_aload_n hx hb dX12_isForgedHere_6 rfl (lv_at hl 0 rfl) ?_
  refine va_get (D := D) (ci := 12) (v := .ref a_read) (C := RX12) (T := TX12) (N := 37) hx hb hT i_X12 hown hK hP 1 rfl rfl 7 (by decide) (hT _ q_181) (fun _ h9 => h9) rfl dX12_isForgedHere_7 ?_
  refine lv_iconst (v := 1) hx hb dX12_isForgedHere_10 (by decide) ?_
  refine va_iald hx hb hK hP 0 0 rfl rfl (iv_vc (by decide)) dX12_isForgedHere_11 ?_
  refine lv_topi (fun v7 ev7 => ?_)
  have h8 : IV 0 12 v7 := (by rw [ev7]; exact bs_i1 hf0)
  have ii9 : 0 ≤ v7.toInt ∧ v7.toInt ≤ 12 := h8
  have lv7 : v7.toInt = (a_read_c 1).toInt := by rw [ev7]; rfl
  refine lv_iconst (v := 1) hx hb dX12_isForgedHere_12 (by decide) ?_
  refine lv_isub hx hb dX12_isForgedHere_13 ?_
  refine lv_topi (fun v10 ev10 => ?_)
  have hv10 : IV (-1) 11 v10 := iv_sub ev10 h8 (iv_c (a := 1) (b := 1) (by decide)) (by decide) (by decide)
  have ii11 : (-1) ≤ v10.toInt ∧ v10.toInt ≤ 11 := hv10
  have dv10 : v10.toInt = v7.toInt + (-1) := iv_subE ev10 h8 (iv_c (a := 1) (b := 1) (by decide)) (by decide) (by decide) (by decide)
  have lv10 : v10.toInt = v7.toInt - 1 := lin_sub ev10 h8 (iv_c (a := 1) (b := 1) (by decide)) rfl (by decide) (by decide) (by decide)
  have hFc := va_free (wc := [(a, .inr (12, [.ref a_tape, .int a__taped, .int a__rules, .ref a_sign, .ref a_length, .ref a_clause, .ref a_clauses, .ref a_read, .int (o2.1 1), .int a__wrong, .int a__number, .int a__text, .int a__made, .int a__deep, .int a__lines, .ref a_open, .int a__opened, .ref a_stack, .int a__top, .ref a_word, .ref a_said, .int a__x, .ref a_worth, .ref a_mate, .ref a_wasSaid, .int a__undone, .int a__boughtNow, .ref a_wayBy, .ref a_wayThen, .int a__walkMost, .int a__walkGoing, .int a__walkSet, .ref a_kept, .long a__drawX, .ref a_images, .ref a_imageX, .ref a_isMade])), (a_tape, .inl (cs 1, 400, .inl a_tape_c))]) hD hS hA [1,2] rfl
  refine va_calli (va_runV (As := [.int 0, .int v10]) (rest := []) ⟨hx, hb, hml, hown, hT⟩ (c_X12_numberHere l D cs kK kV a 0 v10 a_tape a__taped a__rules a_sign a_length a_clause a_clauses a_read (o2.1 1) a__wrong a__number a__text a__made a__deep a__lines a_open a__opened a_stack a__top a_word a_said a__x a_worth a_mate a_wasSaid a__undone a__boughtNow a_wayBy a_wayThen a__walkMost a__walkGoing a__walkSet a_kept a__drawX a_images a_imageX a_isMade a_tape_c h_a__taped h_a__rules h3 h_a__text h_a__made h_a__lines h_a__opened h_a__top h_a__x h_a__undone H.size) (cwV 2 hT (hz_gV q_974 q_975 q_976 q_701 q_977) rfl rfl rfl (by decide +kernel) ⟨(Nat.le_of_ble_eq_true rfl), (Nat.le_of_ble_eq_true rfl)⟩) ⟨hz_C.blind, va_recv hK hP (ci := 12) (q0 := 1) rfl rfl, hz_C.mk (hP.sub (ws' := [(a, .inr (12, [.ref a_tape, .int a__taped, .int a__rules, .ref a_sign, .ref a_length, .ref a_clause, .ref a_clauses, .ref a_read, .int (o2.1 1), .int a__wrong, .int a__number, .int a__text, .int a__made, .int a__deep, .int a__lines, .ref a_open, .int a__opened, .ref a_stack, .int a__top, .ref a_word, .ref a_said, .int a__x, .ref a_worth, .ref a_mate, .ref a_wasSaid, .int a__undone, .int a__boughtNow, .ref a_wayBy, .ref a_wayThen, .int a__walkMost, .int a__walkGoing, .int a__walkSet, .ref a_kept, .long a__drawX, .ref a_images, .ref a_imageX, .ref a_isMade])), (a_tape, .inl (cs 1, 400, .inl a_tape_c))]) [1,2] rfl) (hD.sub (ws' := [(a, .inr (12, [.ref a_tape, .int a__taped, .int a__rules, .ref a_sign, .ref a_length, .ref a_clause, .ref a_clauses, .ref a_read, .int (o2.1 1), .int a__wrong, .int a__number, .int a__text, .int a__made, .int a__deep, .int a__lines, .ref a_open, .int a__opened, .ref a_stack, .int a__top, .ref a_word, .ref a_said, .int a__x, .ref a_worth, .ref a_mate, .ref a_wasSaid, .int a__undone, .int a__boughtNow, .ref a_wayBy, .ref a_wayThen, .int a__walkMost, .int a__walkGoing, .int a__walkSet, .ref a_kept, .long a__drawX, .ref a_images, .ref a_imageX, .ref a_isMade])), (a_tape, .inl (cs 1, 400, .inl a_tape_c))]) [1,2] (by decide) rfl) hE hS hFc⟩ rfl rfl hl.1 rfl (lv_room (Nat.le_of_ble_eq_true rfl)) dX12_isForgedHere_14 ⟨(Nat.le_of_ble_eq_true rfl), (Nat.le_of_ble_eq_true rfl)⟩) hS (fun q _ h => hFc q h) hFc (fun r12 o13 t H1 locs ht hvm hw hB hz1 hk1 hS => ?_)
  obtain ⟨hP1, hD1⟩ := hB
  rw [ht] at hP1
  obtain ⟨hP, hD⟩ := va_join (wr := [(a_read, .inl (cs 0, 86, .inl a_read_c))]) (w1 := [(a, .inr (12, [.ref a_tape, .int a__taped, .int a__rules, .ref a_sign, .ref a_length, .ref a_clause, .ref a_clauses, .ref a_read, .int (o13.1 2), .int (o13.1 3), .int (o13.1 1), .int a__text, .int a__made, .int a__deep, .int a__lines, .ref a_open, .int a__opened, .ref a_stack, .int a__top, .ref a_word, .ref a_said, .int a__x, .ref a_worth, .ref a_mate, .ref a_wasSaid, .int a__undone, .int a__boughtNow, .ref a_wayBy, .ref a_wayThen, .int a__walkMost, .int a__walkGoing, .int a__walkSet, .ref a_kept, .long a__drawX, .ref a_images, .ref a_imageX, .ref a_isMade])), (a_tape, .inl (cs 1, 400, .inl a_tape_c))]) hP hD [1, 2] [0] rfl rfl (by decide) (by decide) hk1 hFc hP1 hD1
  generalize H1 = H at hP hS ⊢
  have hP : va_P D classes [(a_read, .inl (cs 0, 86, .inl a_read_c)), (a, .inr (12, [.ref a_tape, .int a__taped, .int a__rules, .ref a_sign, .ref a_length, .ref a_clause, .ref a_clauses, .ref a_read, .int (o13.1 2), .int (o13.1 3), .int (o13.1 1), .int a__text, .int a__made, .int a__deep, .int a__lines, .ref a_open, .int a__opened, .ref a_stack, .int a__top, .ref a_word, .ref a_said, .int a__x, .ref a_worth, .ref a_mate, .ref a_wasSaid, .int a__undone, .int a__boughtNow, .ref a_wayBy, .ref a_wayThen, .int a__walkMost, .int a__walkGoing, .int a__walkSet, .ref a_kept, .long a__drawX, .ref a_images, .ref a_imageX, .ref a_isMade])), (a_tape, .inl (cs 1, 400, .inl a_tape_c))] H := hP
  have hD : va_D A [(a_read, .inl (cs 0, 86, .inl a_read_c)), (a, .inr (12, [.ref a_tape, .int a__taped, .int a__rules, .ref a_sign, .ref a_length, .ref a_clause, .ref a_clauses, .ref a_read, .int (o13.1 2), .int (o13.1 3), .int (o13.1 1), .int a__text, .int a__made, .int a__deep, .int a__lines, .ref a_open, .int a__opened, .ref a_stack, .int a__top, .ref a_word, .ref a_said, .int a__x, .ref a_worth, .ref a_mate, .ref a_wasSaid, .int a__undone, .int a__boughtNow, .ref a_wayBy, .ref a_wayThen, .int a__walkMost, .int a__walkGoing, .int a__walkSet, .ref a_kept, .long a__drawX, .ref a_images, .ref a_imageX, .ref a_isMade])), (a_tape, .inl (cs 1, 400, .inl a_tape_c))] := hD
  clear hk1 hFc hP1 hD1 hz1
  rcases hw with ⟨rfl, h14, x15, x16⟩ | ⟨rfl, h17, h18, x19, x20, x21, x22⟩
  · have ii23 : 0 ≤ (o13.1 2).toInt ∧ (o13.1 2).toInt ≤ 400 := h14
    refine lv_if_ne (tgt := 22) hx hb dX12_isForgedHere_17 (by decide) (fun z => absurd (by decide) z) (fun _ => ?_)
    refine lv_iconst (v := 0) hx hb dX12_isForgedHere_20 (by decide) ?_
    refine W.widen (k := 0) (n := 0) (Nat.le_of_ble_eq_true rfl) (Nat.le_of_ble_eq_true rfl) ?_
    have g24 : a__next.toInt ≤ (o13.1 2).toInt := (by omega)
    exact W.zret (v := 0) hx hb hr rfl (fun t ht hW => ⟨⟨0, (fun k => match k with | 0 => 0 | 1 => o13.1 1 | 2 => o13.1 2 | 3 => o13.1 3 | _ => 0, fun k => match k with | 0 => a_read_c | _ => fun _ => 0), rfl, (Or.inl (⟨rfl, h14, g24, hf0, x16⟩)), by rw [ht]; exact hP.sub [0, 1, 2] rfl, hD.sub [0, 1, 2] (by decide) rfl⟩, hS.F ht⟩) hS.2.2 dX12_isForgedHere_21
  · have ii25 : 1 ≤ a__taped.toInt ∧ a__taped.toInt ≤ 400 := h17
    have ii26 : 0 ≤ (o13.1 2).toInt ∧ (o13.1 2).toInt ≤ 400 := h18
    refine lv_if_ne (tgt := 22) hx hb dX12_isForgedHere_17 (by decide) (fun _ => ?_) (fun z => absurd z (by decide))
    have h27 : IV 0 11 (o13.1 1) := ⟨by omega, by omega⟩
    have ii28 : 0 ≤ (o13.1 1).toInt ∧ (o13.1 1).toInt ≤ 11 := h27
    refine lv_aload_n hx hb dX12_isForgedHere_22 rfl (lv_at hl 0 rfl) ?_
    refine va_get (D := D) (ci := 12) (v := .ref a_read) (C := RX12) (T := TX12) (N := 37) hx hb hT i_X12 hown hK hP 1 rfl rfl 7 (by decide) (hT _ q_181) (fun _ h9 => h9) rfl dX12_isForgedHere_23 ?_
    refine lv_bipush (v := 10) hx hb dX12_isForgedHere_26 (by decide) ?_
    refine lv_iconst (v := 5) hx hb dX12_isForgedHere_28 (by decide) ?_
    refine lv_aload_n hx hb dX12_isForgedHere_29 rfl (lv_at hl 0 rfl) ?_
    refine va_get (D := D) (ci := 12) (v := .int (o13.1 1)) (C := RX12) (T := TX12) (N := 37) hx hb hT i_X12 hown hK hP 1 rfl rfl 10 (by decide) (hT _ q_198) (fun _ h9 => h9) rfl dX12_isForgedHere_30 ?_
    refine lv_imul hx hb dX12_isForgedHere_33 ?_
    refine lv_topi (fun v29 ev29 => ?_)
    have hv29 : IV 0 55 v29 := iv_mul ev29 (iv_c (a := 5) (b := 5) (by decide)) h27 (by decide) (by decide) (by decide) (by decide)
    have ii30 : 0 ≤ v29.toInt ∧ v29.toInt ≤ 55 := hv29
    have lv29 : v29.toInt = 5 * (o13.1 1).toInt := lin_mul ev29 (iv_c (a := 5) (b := 5) (by decide)) h27 (by decide) rfl (by decide) (by decide) (by decide) (by decide)
    refine lv_iadd hx hb dX12_isForgedHere_34 ?_
    refine lv_topi (fun v31 ev31 => ?_)
    have hv31 : IV 10 65 v31 := iv_add ev31 (iv_c (a := 10) (b := 10) (by decide)) hv29 (by decide) (by decide)
    have ii32 : 10 ≤ v31.toInt ∧ v31.toInt ≤ 65 := hv31
    have lv31 : v31.toInt = 10 + v29.toInt := lin_add ev31 (iv_c (a := 10) (b := 10) (by decide)) hv29 (by decide) rfl (by decide) (by decide)
    refine lv_iconst (v := 4) hx hb dX12_isForgedHere_35 (by decide) ?_
    refine lv_iadd hx hb dX12_isForgedHere_36 ?_
    refine lv_topi (fun v33 ev33 => ?_)
    have hv33 : IV 14 69 v33 := iv_add ev33 hv31 (iv_c (a := 4) (b := 4) (by decide)) (by decide) (by decide)
    have ii34 : 14 ≤ v33.toInt ∧ v33.toInt ≤ 69 := hv33
    have dv33 : v33.toInt = v31.toInt + 4 := iv_addE ev33 hv31 (iv_c (a := 4) (b := 4) (by decide)) (by decide) (by decide) (by decide)
    have lv33 : v33.toInt = v31.toInt + 4 := lin_add ev33 hv31 (iv_c (a := 4) (b := 4) (by decide)) rfl (by decide) (by decide) (by decide)
    refine lv_iconst (v := 1) hx hb dX12_isForgedHere_37 (by decide) ?_
    refine va_iast hx hb hK hP hD hS 0 0 rfl rfl (iv_v hv33 (by decide) (by decide)) dX12_isForgedHere_38 (fun H locs hP hD hS => ?_)
    have hP : va_P D classes [(a_read, .inl (cs 0, 86, .inl (upd a_read_c (Int32.toNatClampNeg v33) (1 : Int32)))), (a, .inr (12, [.ref a_tape, .int a__taped, .int a__rules, .ref a_sign, .ref a_length, .ref a_clause, .ref a_clauses, .ref a_read, .int (o13.1 2), .int (o13.1 3), .int (o13.1 1), .int a__text, .int a__made, .int a__deep, .int a__lines, .ref a_open, .int a__opened, .ref a_stack, .int a__top, .ref a_word, .ref a_said, .int a__x, .ref a_worth, .ref a_mate, .ref a_wasSaid, .int a__undone, .int a__boughtNow, .ref a_wayBy, .ref a_wayThen, .int a__walkMost, .int a__walkGoing, .int a__walkSet, .ref a_kept, .long a__drawX, .ref a_images, .ref a_imageX, .ref a_isMade])), (a_tape, .inl (cs 1, 400, .inl a_tape_c))] H := hP
    have hD : va_D A [(a_read, .inl (cs 0, 86, .inl (upd a_read_c (Int32.toNatClampNeg v33) (1 : Int32)))), (a, .inr (12, [.ref a_tape, .int a__taped, .int a__rules, .ref a_sign, .ref a_length, .ref a_clause, .ref a_clauses, .ref a_read, .int (o13.1 2), .int (o13.1 3), .int (o13.1 1), .int a__text, .int a__made, .int a__deep, .int a__lines, .ref a_open, .int a__opened, .ref a_stack, .int a__top, .ref a_word, .ref a_said, .int a__x, .ref a_worth, .ref a_mate, .ref a_wasSaid, .int a__undone, .int a__boughtNow, .ref a_wayBy, .ref a_wayThen, .int a__walkMost, .int a__walkGoing, .int a__walkSet, .ref a_kept, .long a__drawX, .ref a_images, .ref a_imageX, .ref a_isMade])), (a_tape, .inl (cs 1, 400, .inl a_tape_c))] := hD
    obtain ⟨f35, uf35⟩ : ∃ z, z = upd a_read_c (Int32.toNatClampNeg v33) (1 : Int32) := ⟨_, rfl⟩
    rw [← uf35] at hP hD
    have wf35 : (f35 (Int32.toNatClampNeg v33)).toInt = 1 := lin_us uf35 (by decide)
    have fb36 : BS f35 0 := (bs_upd hf0 uf35 (show Int32.toNatClampNeg v33 ≠ 0 ∧ Int32.toNatClampNeg v33 ≠ 1 ∧ Int32.toNatClampNeg v33 ≠ 2 ∧ Int32.toNatClampNeg v33 ≠ 3 ∧ Int32.toNatClampNeg v33 ≠ 4 ∧ Int32.toNatClampNeg v33 ≠ 71 ∧ Int32.toNatClampNeg v33 ≠ 75 ∧ Int32.toNatClampNeg v33 ≠ 79 ∧ Int32.toNatClampNeg v33 ≠ 83 from by (have q : Int32.toNatClampNeg v33 = v33.toInt.toNat := rfl); omega))
    refine lv_iconst (v := 1) hx hb dX12_isForgedHere_39 (by decide) ?_
    refine W.widen (k := 0) (n := 0) (Nat.le_of_ble_eq_true rfl) (Nat.le_of_ble_eq_true rfl) ?_
    have g37 : a__next.toInt ≤ (o13.1 2).toInt := (by omega)
    exact W.zret (v := 1) hx hb hr rfl (fun t ht hW => ⟨⟨1, (fun k => match k with | 0 => 0 | 1 => o13.1 1 | 2 => o13.1 2 | 3 => o13.1 3 | _ => 0, fun k => match k with | 0 => f35 | _ => fun _ => 0), rfl, (Or.inr ((⟨rfl, h17, h27, h18, g37, fb36⟩))), by rw [ht]; exact hP.sub [0, 1, 2] rfl, hD.sub [0, 1, 2] (by decide) rfl⟩, hS.F ht⟩) hS.2.2 dX12_isForgedHere_40
theorem dX12_isBuyerHere_0 : decode cX12_isBuyerHere 0 = .ok (.aload_n 0, 1) := by decide +kernel
theorem dX12_isBuyerHere_1 : decode cX12_isBuyerHere 1 = .ok (.getfield 26, 3) := by decide +kernel
theorem dX12_isBuyerHere_4 : decode cX12_isBuyerHere 4 = .ok (.iconst 2, 1) := by decide +kernel
theorem dX12_isBuyerHere_5 : decode cX12_isBuyerHere 5 = .ok (.iaload, 1) := by decide +kernel
theorem dX12_isBuyerHere_6 : decode cX12_isBuyerHere 6 = .ok (.iconst 4, 1) := by decide +kernel
theorem dX12_isBuyerHere_7 : decode cX12_isBuyerHere 7 = .ok (.if_icmp .ne 10, 3) := by decide +kernel
theorem dX12_isBuyerHere_10 : decode cX12_isBuyerHere 10 = .ok (.aload_n 0, 1) := by decide +kernel
theorem dX12_isBuyerHere_11 : decode cX12_isBuyerHere 11 = .ok (.iconst 4, 1) := by decide +kernel
theorem dX12_isBuyerHere_12 : decode cX12_isBuyerHere 12 = .ok (.iload_n 1, 1) := by decide +kernel
theorem dX12_isBuyerHere_13 : decode cX12_isBuyerHere 13 = .ok (.invokevirtual 102, 3) := by decide +kernel
theorem dX12_isBuyerHere_16 : decode cX12_isBuyerHere 16 = .ok (.ireturn, 1) := by decide +kernel
theorem dX12_isBuyerHere_17 : decode cX12_isBuyerHere 17 = .ok (.aload_n 0, 1) := by decide +kernel
theorem dX12_isBuyerHere_18 : decode cX12_isBuyerHere 18 = .ok (.invokevirtual 96, 3) := by decide +kernel
theorem dX12_isBuyerHere_21 : decode cX12_isBuyerHere 21 = .ok (.bipush 70, 2) := by decide +kernel
theorem dX12_isBuyerHere_23 : decode cX12_isBuyerHere 23 = .ok (.iconst 4, 1) := by decide +kernel
theorem dX12_isBuyerHere_24 : decode cX12_isBuyerHere 24 = .ok (.aload_n 0, 1) := by decide +kernel
theorem dX12_isBuyerHere_25 : decode cX12_isBuyerHere 25 = .ok (.getfield 26, 3) := by decide +kernel
theorem dX12_isBuyerHere_28 : decode cX12_isBuyerHere 28 = .ok (.iconst 2, 1) := by decide +kernel
theorem dX12_isBuyerHere_29 : decode cX12_isBuyerHere 29 = .ok (.iaload, 1) := by decide +kernel
theorem dX12_isBuyerHere_30 : decode cX12_isBuyerHere 30 = .ok (.imul, 1) := by decide +kernel
theorem dX12_isBuyerHere_31 : decode cX12_isBuyerHere 31 = .ok (.iadd, 1) := by decide +kernel
theorem dX12_isBuyerHere_32 : decode cX12_isBuyerHere 32 = .ok (.istore_n 2, 1) := by decide +kernel
theorem dX12_isBuyerHere_33 : decode cX12_isBuyerHere 33 = .ok (.aload_n 0, 1) := by decide +kernel
theorem dX12_isBuyerHere_34 : decode cX12_isBuyerHere 34 = .ok (.iload_n 2, 1) := by decide +kernel
theorem dX12_isBuyerHere_35 : decode cX12_isBuyerHere 35 = .ok (.iconst 0, 1) := by decide +kernel
theorem dX12_isBuyerHere_36 : decode cX12_isBuyerHere 36 = .ok (.sipush 999, 3) := by decide +kernel
theorem dX12_isBuyerHere_39 : decode cX12_isBuyerHere 39 = .ok (.invokevirtual 211, 3) := by decide +kernel
theorem dX12_isBuyerHere_42 : decode cX12_isBuyerHere 42 = .ok (.ifCond .eq 22, 3) := by decide +kernel
theorem dX12_isBuyerHere_45 : decode cX12_isBuyerHere 45 = .ok (.aload_n 0, 1) := by decide +kernel
theorem dX12_isBuyerHere_46 : decode cX12_isBuyerHere 46 = .ok (.iload_n 2, 1) := by decide +kernel
theorem dX12_isBuyerHere_47 : decode cX12_isBuyerHere 47 = .ok (.iconst 1, 1) := by decide +kernel
theorem dX12_isBuyerHere_48 : decode cX12_isBuyerHere 48 = .ok (.iadd, 1) := by decide +kernel
theorem dX12_isBuyerHere_49 : decode cX12_isBuyerHere 49 = .ok (.iconst 0, 1) := by decide +kernel
theorem dX12_isBuyerHere_50 : decode cX12_isBuyerHere 50 = .ok (.aload_n 0, 1) := by decide +kernel
theorem dX12_isBuyerHere_51 : decode cX12_isBuyerHere 51 = .ok (.getfield 26, 3) := by decide +kernel
theorem dX12_isBuyerHere_54 : decode cX12_isBuyerHere 54 = .ok (.iconst 0, 1) := by decide +kernel
theorem dX12_isBuyerHere_55 : decode cX12_isBuyerHere 55 = .ok (.iaload, 1) := by decide +kernel
theorem dX12_isBuyerHere_56 : decode cX12_isBuyerHere 56 = .ok (.iconst 1, 1) := by decide +kernel
theorem dX12_isBuyerHere_57 : decode cX12_isBuyerHere 57 = .ok (.isub, 1) := by decide +kernel
theorem dX12_isBuyerHere_58 : decode cX12_isBuyerHere 58 = .ok (.invokevirtual 211, 3) := by decide +kernel
theorem dX12_isBuyerHere_61 : decode cX12_isBuyerHere 61 = .ok (.ifCond .ne 5, 3) := by decide +kernel
theorem dX12_isBuyerHere_64 : decode cX12_isBuyerHere 64 = .ok (.iconst 0, 1) := by decide +kernel
theorem dX12_isBuyerHere_65 : decode cX12_isBuyerHere 65 = .ok (.ireturn, 1) := by decide +kernel
theorem dX12_isBuyerHere_66 : decode cX12_isBuyerHere 66 = .ok (.aload_n 0, 1) := by decide +kernel
theorem dX12_isBuyerHere_67 : decode cX12_isBuyerHere 67 = .ok (.getfield 26, 3) := by decide +kernel
theorem dX12_isBuyerHere_70 : decode cX12_isBuyerHere 70 = .ok (.iload_n 2, 1) := by decide +kernel
theorem dX12_isBuyerHere_71 : decode cX12_isBuyerHere 71 = .ok (.iconst 2, 1) := by decide +kernel
theorem dX12_isBuyerHere_72 : decode cX12_isBuyerHere 72 = .ok (.iadd, 1) := by decide +kernel
theorem dX12_isBuyerHere_73 : decode cX12_isBuyerHere 73 = .ok (.iconst 0, 1) := by decide +kernel
theorem dX12_isBuyerHere_74 : decode cX12_isBuyerHere 74 = .ok (.iastore, 1) := by decide +kernel
theorem dX12_isBuyerHere_75 : decode cX12_isBuyerHere 75 = .ok (.aload_n 0, 1) := by decide +kernel
theorem dX12_isBuyerHere_76 : decode cX12_isBuyerHere 76 = .ok (.getfield 26, 3) := by decide +kernel
theorem dX12_isBuyerHere_79 : decode cX12_isBuyerHere 79 = .ok (.iload_n 2, 1) := by decide +kernel
theorem dX12_isBuyerHere_80 : decode cX12_isBuyerHere 80 = .ok (.iconst 3, 1) := by decide +kernel
theorem dX12_isBuyerHere_81 : decode cX12_isBuyerHere 81 = .ok (.iadd, 1) := by decide +kernel
theorem dX12_isBuyerHere_82 : decode cX12_isBuyerHere 82 = .ok (.iconst 1, 1) := by decide +kernel
theorem dX12_isBuyerHere_83 : decode cX12_isBuyerHere 83 = .ok (.aload_n 0, 1) := by decide +kernel
theorem dX12_isBuyerHere_84 : decode cX12_isBuyerHere 84 = .ok (.getfield 26, 3) := by decide +kernel
theorem dX12_isBuyerHere_87 : decode cX12_isBuyerHere 87 = .ok (.iconst 2, 1) := by decide +kernel
theorem dX12_isBuyerHere_88 : decode cX12_isBuyerHere 88 = .ok (.iaload, 1) := by decide +kernel
theorem dX12_isBuyerHere_89 : decode cX12_isBuyerHere 89 = .ok (.ishl, 1) := by decide +kernel
theorem dX12_isBuyerHere_90 : decode cX12_isBuyerHere 90 = .ok (.iastore, 1) := by decide +kernel
theorem dX12_isBuyerHere_91 : decode cX12_isBuyerHere 91 = .ok (.aload_n 0, 1) := by decide +kernel
theorem dX12_isBuyerHere_92 : decode cX12_isBuyerHere 92 = .ok (.getfield 26, 3) := by decide +kernel
theorem dX12_isBuyerHere_95 : decode cX12_isBuyerHere 95 = .ok (.iconst 2, 1) := by decide +kernel
theorem dX12_isBuyerHere_96 : decode cX12_isBuyerHere 96 = .ok (.dup2, 1) := by decide +kernel
theorem dX12_isBuyerHere_97 : decode cX12_isBuyerHere 97 = .ok (.iaload, 1) := by decide +kernel
theorem dX12_isBuyerHere_98 : decode cX12_isBuyerHere 98 = .ok (.iconst 1, 1) := by decide +kernel
theorem dX12_isBuyerHere_99 : decode cX12_isBuyerHere 99 = .ok (.iadd, 1) := by decide +kernel
theorem dX12_isBuyerHere_100 : decode cX12_isBuyerHere 100 = .ok (.iastore, 1) := by decide +kernel
theorem dX12_isBuyerHere_101 : decode cX12_isBuyerHere 101 = .ok (.iconst 1, 1) := by decide +kernel
theorem dX12_isBuyerHere_102 : decode cX12_isBuyerHere 102 = .ok (.ireturn, 1) := by decide +kernel
set_option maxHeartbeats 4000000 in
set_option maxRecDepth 100000 in
theorem c_X12_isBuyerHere (l : Launch) (D : va_G) (cs : Nat → ClassId) (kK kV : Nat → Nat) (a : Nat) (p0 : Int32) (a_read : Nat) (a_read_c : Nat → Int32) (a_tape : Nat) (a__taped : Int32) (a__rules : Int32) (a_sign : Nat) (a_length : Nat) (a_clause : Nat) (a_clauses : Nat) (a__next : Int32) (a__wrong : Int32) (a__number : Int32) (a__text : Int32) (a__made : Int32) (a__deep : Int32) (a__lines : Int32) (a_open : Nat) (a__opened : Int32) (a_stack : Nat) (a__top : Int32) (a_word : Nat) (a_said : Nat) (a__x : Int32) (a_worth : Nat) (a_mate : Nat) (a_wasSaid : Nat) (a__undone : Int32) (a__boughtNow : Int32) (a_wayBy : Nat) (a_wayThen : Nat) (a__walkMost : Int32) (a__walkGoing : Int32) (a__walkSet : Int32) (a_kept : Nat) (a__drawX : Int64) (a_images : Nat) (a_imageX : Nat) (a_isMade : Nat) (a_tape_c : Nat → Int32) (h_p0 : IV 0 400 p0) (h_a__taped : IV 0 400 a__taped) (h_a__rules : IV 0 6 a__rules) (h_a__next : IV 0 400 a__next) (h_a__text : IV 0 6 a__text) (h_a__made : IV 0 60 a__made) (h_a__lines : IV 0 40 a__lines) (h_a__opened : IV 0 400 a__opened) (h_a__top : IV 0 64 a__top) (h_a__x : IV 0 2147483647 a__x) (h_a__undone : IV 0 20 a__undone) (hf0 : BS a_read_c 0) (hf1 : 1 ≤ (a_read_c 0).toInt) (sz : Nat) : Met l yX12_isBuyerHere (hz_w yX12_isBuyerHere cX12_isBuyerHere 3 (some .boolean)) ({ frames := 3, cells := 0, slots := 0, locals := 72 }) (va_Pc [.ref a, .int p0] (hz_C D cs kK kV sz [(a_read, .inl (cs 0, 86, .inl a_read_c)), (a, .inr (12, [.ref a_tape, .int a__taped, .int a__rules, .ref a_sign, .ref a_length, .ref a_clause, .ref a_clauses, .ref a_read, .int a__next, .int a__wrong, .int a__number, .int a__text, .int a__made, .int a__deep, .int a__lines, .ref a_open, .int a__opened, .ref a_stack, .int a__top, .ref a_word, .ref a_said, .int a__x, .ref a_worth, .ref a_mate, .ref a_wasSaid, .int a__undone, .int a__boughtNow, .ref a_wayBy, .ref a_wayThen, .int a__walkMost, .int a__walkGoing, .int a__walkSet, .ref a_kept, .long a__drawX, .ref a_images, .ref a_imageX, .ref a_isMade])), (a_tape, .inl (cs 1, 400, .inl a_tape_c))])) (va_Qi (fun (r : Int32) (u : (Nat → Int32) × (Nat → Nat → Int32)) => (r = 0 ∧ IV 0 400 (u.1 2) ∧ (a__next.toInt ≤ (u.1 2).toInt) ∧ (BS (u.2 0) 0) ∧ ((u.1 3).toInt ≠ 0)) ∨ (r = 1 ∧ IV 1 400 a__taped ∧ IV 0 400 (u.1 2) ∧ (a__next.toInt ≤ (u.1 2).toInt) ∧ (BS (u.2 0) 0))) (fun u t => va_P D classes [(a_read, .inl (cs 0, 86, .inl (u.2 0))), (a, .inr (12, [.ref a_tape, .int a__taped, .int a__rules, .ref a_sign, .ref a_length, .ref a_clause, .ref a_clauses, .ref a_read, .int (u.1 2), .int (u.1 3), .int (u.1 1), .int a__text, .int a__made, .int a__deep, .int a__lines, .ref a_open, .int a__opened, .ref a_stack, .int a__top, .ref a_word, .ref a_said, .int a__x, .ref a_worth, .ref a_mate, .ref a_wasSaid, .int a__undone, .int a__boughtNow, .ref a_wayBy, .ref a_wayThen, .int a__walkMost, .int a__walkGoing, .int a__walkSet, .ref a_kept, .long a__drawX, .ref a_images, .ref a_imageX, .ref a_isMade])), (a_tape, .inl (cs 1, 400, .inl a_tape_c))] t.heap ∧ va_D (va_A [(a_read, .inl (cs 0, 86, .inl a_read_c)), (a, .inr (12, [.ref a_tape, .int a__taped, .int a__rules, .ref a_sign, .ref a_length, .ref a_clause, .ref a_clauses, .ref a_read, .int a__next, .int a__wrong, .int a__number, .int a__text, .int a__made, .int a__deep, .int a__lines, .ref a_open, .int a__opened, .ref a_stack, .int a__top, .ref a_word, .ref a_said, .int a__x, .ref a_worth, .ref a_mate, .ref a_wasSaid, .int a__undone, .int a__boughtNow, .ref a_wayBy, .ref a_wayThen, .int a__walkMost, .int a__walkGoing, .int a__walkSet, .ref a_kept, .long a__drawX, .ref a_images, .ref a_imageX, .ref a_isMade])), (a_tape, .inl (cs 1, 400, .inl a_tape_c))] sz) [(a_read, .inl (cs 0, 86, .inl (u.2 0))), (a, .inr (12, [.ref a_tape, .int a__taped, .int a__rules, .ref a_sign, .ref a_length, .ref a_clause, .ref a_clauses, .ref a_read, .int (u.1 2), .int (u.1 3), .int (u.1 1), .int a__text, .int a__made, .int a__deep, .int a__lines, .ref a_open, .int a__opened, .ref a_stack, .int a__top, .ref a_word, .ref a_said, .int a__x, .ref a_worth, .ref a_mate, .ref a_wasSaid, .int a__undone, .int a__boughtNow, .ref a_wayBy, .ref a_wayThen, .int a__walkMost, .int a__walkGoing, .int a__walkSet, .ref a_kept, .long a__drawX, .ref a_images, .ref a_imageX, .ref a_isMade])), (a_tape, .inl (cs 1, 400, .inl a_tape_c))]) (va_A [(a_read, .inl (cs 0, 86, .inl a_read_c)), (a, .inr (12, [.ref a_tape, .int a__taped, .int a__rules, .ref a_sign, .ref a_length, .ref a_clause, .ref a_clauses, .ref a_read, .int a__next, .int a__wrong, .int a__number, .int a__text, .int a__made, .int a__deep, .int a__lines, .ref a_open, .int a__opened, .ref a_stack, .int a__top, .ref a_word, .ref a_said, .int a__x, .ref a_worth, .ref a_mate, .ref a_wasSaid, .int a__undone, .int a__boughtNow, .ref a_wayBy, .ref a_wayThen, .int a__walkMost, .int a__walkGoing, .int a__walkSet, .ref a_kept, .long a__drawX, .ref a_images, .ref a_imageX, .ref a_isMade])), (a_tape, .inl (cs 1, 400, .inl a_tape_c))] sz)) 0 0 (va_A [(a_read, .inl (cs 0, 86, .inl a_read_c)), (a, .inr (12, [.ref a_tape, .int a__taped, .int a__rules, .ref a_sign, .ref a_length, .ref a_clause, .ref a_clauses, .ref a_read, .int a__next, .int a__wrong, .int a__number, .int a__text, .int a__made, .int a__deep, .int a__lines, .ref a_open, .int a__opened, .ref a_stack, .int a__top, .ref a_word, .ref a_said, .int a__x, .ref a_worth, .ref a_mate, .ref a_wasSaid, .int a__undone, .int a__boughtNow, .ref a_wayBy, .ref a_wayThen, .int a__walkMost, .int a__walkGoing, .int a__walkSet, .ref a_kept, .long a__drawX, .ref a_images, .ref a_imageX, .ref a_isMade])), (a_tape, .inl (cs 1, 400, .inl a_tape_c))] sz) := by
  refine Met.ofW (cc := cX12_isBuyerHere) (maxL := 3) (ret := (some .boolean)) (by decide) rfl ?_
  intro p e s m args below meth c s₁ B hml hv
  obtain ⟨rfl, hsz, hP, hD0, hE⟩ := hv
  have hx := B.exec
  have hb := B.bytes
  have hr := B.returns
  have hT : ∀ w ∈ TB, w.before _ s = true := fun w h => atoms_spec (ws := hz_w yX12_isBuyerHere cX12_isBuyerHere 3 (some .boolean)) B.pre w (List.mem_cons_of_mem _ h)
  have hown : s.vm.findClass RX12 = some m.cls := findClass_of_methodNamed B.named
  have hlocks := B.notSynchronized
  clear B
  subst hsz
  have hD := hD0.self (sz := s.heap.size)
  generalize hAe : va_A [(a_read, .inl (cs 0, 86, .inl a_read_c)), (a, .inr (12, [.ref a_tape, .int a__taped, .int a__rules, .ref a_sign, .ref a_length, .ref a_clause, .ref a_clauses, .ref a_read, .int a__next, .int a__wrong, .int a__number, .int a__text, .int a__made, .int a__deep, .int a__lines, .ref a_open, .int a__opened, .ref a_stack, .int a__top, .ref a_word, .ref a_said, .int a__x, .ref a_worth, .ref a_mate, .ref a_wasSaid, .int a__undone, .int a__boughtNow, .ref a_wayBy, .ref a_wayThen, .int a__walkMost, .int a__walkGoing, .int a__walkSet, .ref a_kept, .long a__drawX, .ref a_images, .ref a_imageX, .ref a_isMade])), (a_tape, .inl (cs 1, 400, .inl a_tape_c))] s.heap.size = A at hD hE ⊢
  have hA : ∀ q : Nat, s.heap.size ≤ q → A q := fun q h => by rw [← hAe]; exact Or.inr h
  clear hAe hD0
  have hS : va_S A s.heap s.heap [] := va_S.rf
  have hK := hE.1
  have hl := lv_entry ([.ref a, .int p0]) (n := 3) (Nat.le_of_ble_eq_true rfl)
  rw [lg_entry_eq]
  generalize (lg_sl ([.ref a, .int p0]) ++ List.replicate (3 - (lg_sl ([.ref a, .int p0])).length) Slot.unset).toArray = ls at hl ⊢
  have hl : lv_has ls 3 [(0, .ref a), (1, .int p0)] := hl
  obtain ⟨H, eH⟩ : ∃ z, z = s.heap := ⟨_, rfl⟩
  have hP : va_P D classes [(a_read, .inl (cs 0, 86, .inl a_read_c)), (a, .inr (12, [.ref a_tape, .int a__taped, .int a__rules, .ref a_sign, .ref a_length, .ref a_clause, .ref a_clauses, .ref a_read, .int a__next, .int a__wrong, .int a__number, .int a__text, .int a__made, .int a__deep, .int a__lines, .ref a_open, .int a__opened, .ref a_stack, .int a__top, .ref a_word, .ref a_said, .int a__x, .ref a_worth, .ref a_mate, .ref a_wasSaid, .int a__undone, .int a__boughtNow, .ref a_wayBy, .ref a_wayThen, .int a__walkMost, .int a__walkGoing, .int a__walkSet, .ref a_kept, .long a__drawX, .ref a_images, .ref a_imageX, .ref a_isMade])), (a_tape, .inl (cs 1, 400, .inl a_tape_c))] H := by rw [eH]; exact hP
  have hS : va_S A s.heap H [] := by rw [eH]; exact hS
  rw [← eH]
  clear eH
  obtain ⟨locs, el⟩ : ∃ z : List Loc, z = [] := ⟨_, rfl⟩
  rw [← el] at hS ⊢
  clear el
  have z0 : (0 : Int32).toInt = 0 := by decide
  have z1 : (1 : Int32).toInt = 1 := by decide
  have zm1 : (-1 : Int32).toInt = -1 := by decide
  have i_a__lines : 0 ≤ a__lines.toInt ∧ a__lines.toInt ≤ 40 := h_a__lines
  have i_a__made : 0 ≤ a__made.toInt ∧ a__made.toInt ≤ 60 := h_a__made
  have i_a__next : 0 ≤ a__next.toInt ∧ a__next.toInt ≤ 400 := h_a__next
  have i_a__opened : 0 ≤ a__opened.toInt ∧ a__opened.toInt ≤ 400 := h_a__opened
  have i_a__rules : 0 ≤ a__rules.toInt ∧ a__rules.toInt ≤ 6 := h_a__rules
  have i_a__taped : 0 ≤ a__taped.toInt ∧ a__taped.toInt ≤ 400 := h_a__taped
  have i_a__text : 0 ≤ a__text.toInt ∧ a__text.toInt ≤ 6 := h_a__text
  have i_a__top : 0 ≤ a__top.toInt ∧ a__top.toInt ≤ 64 := h_a__top
  have i_a__undone : 0 ≤ a__undone.toInt ∧ a__undone.toInt ≤ 20 := h_a__undone
  have i_a__x : 0 ≤ a__x.toInt ∧ a__x.toInt ≤ 2147483647 := h_a__x
  have i_p0 : 0 ≤ p0.toInt ∧ p0.toInt ≤ 400 := h_p0
  refine lv_aload_n hx hb dX12_isBuyerHere_0 rfl (lv_at hl 0 rfl) ?_
  refine va_get (D := D) (ci := 12) (v := .ref a_read) (C := RX12) (T := TX12) (N := 37) hx hb hT i_X12 hown hK hP 1 rfl rfl 7 (by decide) (hT _ q_181) (fun _ h9 => h9) rfl dX12_isBuyerHere_1 ?_
  refine lv_iconst (v := 2) hx hb dX12_isBuyerHere_4 (by decide) ?_
  refine va_iald hx hb hK hP 0 0 rfl rfl (iv_vc (by decide)) dX12_isBuyerHere_5 ?_
  refine lv_topi (fun v1 ev1 => ?_)
  have h2 : IV 0 4 v1 := (by rw [ev1]; exact bs_i2 hf0)
  have ii3 : 0 ≤ v1.toInt ∧ v1.toInt ≤ 4 := h2
  have lv1 : v1.toInt = (a_read_c 2).toInt := by rw [ev1]; rfl
  refine lv_iconst (v := 4) hx hb dX12_isBuyerHere_6 (by decide) ?_
  refine lv_icmp_ne (tgt := 17) hx hb dX12_isBuyerHere_7 (by decide) (fun c4 => ?_) (fun c4 => ?_)
  · have t5 : v1.toInt ≠ 4 := lin_ne c4 rfl (by decide)
    have h6 : IV 0 3 v1 := iv_neR c4 h2 (by decide)
    have ii7 : 0 ≤ v1.toInt ∧ v1.toInt ≤ 3 := h6
    refine lv_aload_n hx hb dX12_isBuyerHere_17 rfl (lv_at hl 0 rfl) ?_
    have hFc := va_free (wc := [(a, .inr (12, [.ref a_tape, .int a__taped, .int a__rules, .ref a_sign, .ref a_length, .ref a_clause, .ref a_clauses, .ref a_read, .int a__next, .int a__wrong, .int a__number, .int a__text, .int a__made, .int a__deep, .int a__lines, .ref a_open, .int a__opened, .ref a_stack, .int a__top, .ref a_word, .ref a_said, .int a__x, .ref a_worth, .ref a_mate, .ref a_wasSaid, .int a__undone, .int a__boughtNow, .ref a_wayBy, .ref a_wayThen, .int a__walkMost, .int a__walkGoing, .int a__walkSet, .ref a_kept, .long a__drawX, .ref a_images, .ref a_imageX, .ref a_isMade])), (a_tape, .inl (cs 1, 400, .inl a_tape_c))]) hD hS hA [1,2] rfl
    refine va_callv (va_runV (As := []) (rest := []) ⟨hx, hb, hml, hown, hT⟩ (c_X12_passWord l D cs kK kV a a_tape a__taped a__rules a_sign a_length a_clause a_clauses a_read a__next a__wrong a__number a__text a__made a__deep a__lines a_open a__opened a_stack a__top a_word a_said a__x a_worth a_mate a_wasSaid a__undone a__boughtNow a_wayBy a_wayThen a__walkMost a__walkGoing a__walkSet a_kept a__drawX a_images a_imageX a_isMade a_tape_c h_a__taped h_a__rules h_a__next h_a__text h_a__made h_a__lines h_a__opened h_a__top h_a__x h_a__undone H.size) (cwV 0 hT (hz_gV q_952 q_953 q_954 q_701 q_955) rfl rfl rfl (by decide +kernel) ⟨(Nat.le_of_ble_eq_true rfl), (Nat.le_of_ble_eq_true rfl)⟩) ⟨hz_C.blind, va_recv hK hP (ci := 12) (q0 := 1) rfl rfl, hz_C.mk (hP.sub (ws' := [(a, .inr (12, [.ref a_tape, .int a__taped, .int a__rules, .ref a_sign, .ref a_length, .ref a_clause, .ref a_clauses, .ref a_read, .int a__next, .int a__wrong, .int a__number, .int a__text, .int a__made, .int a__deep, .int a__lines, .ref a_open, .int a__opened, .ref a_stack, .int a__top, .ref a_word, .ref a_said, .int a__x, .ref a_worth, .ref a_mate, .ref a_wasSaid, .int a__undone, .int a__boughtNow, .ref a_wayBy, .ref a_wayThen, .int a__walkMost, .int a__walkGoing, .int a__walkSet, .ref a_kept, .long a__drawX, .ref a_images, .ref a_imageX, .ref a_isMade])), (a_tape, .inl (cs 1, 400, .inl a_tape_c))]) [1,2] rfl) (hD.sub (ws' := [(a, .inr (12, [.ref a_tape, .int a__taped, .int a__rules, .ref a_sign, .ref a_length, .ref a_clause, .ref a_clauses, .ref a_read, .int a__next, .int a__wrong, .int a__number, .int a__text, .int a__made, .int a__deep, .int a__lines, .ref a_open, .int a__opened, .ref a_stack, .int a__top, .ref a_word, .ref a_said, .int a__x, .ref a_worth, .ref a_mate, .ref a_wasSaid, .int a__undone, .int a__boughtNow, .ref a_wayBy, .ref a_wayThen, .int a__walkMost, .int a__walkGoing, .int a__walkSet, .ref a_kept, .long a__drawX, .ref a_images, .ref a_imageX, .ref a_isMade])), (a_tape, .inl (cs 1, 400, .inl a_tape_c))]) [1,2] (by decide) rfl) hE hS hFc⟩ rfl rfl hl.1 rfl (lv_room (Nat.le_of_ble_eq_true rfl)) dX12_isBuyerHere_18 ⟨(Nat.le_of_ble_eq_true rfl), (Nat.le_of_ble_eq_true rfl)⟩) hS (fun q _ h => hFc q h) hFc (fun o9 t H1 locs ht hvm hw hB hz1 hk1 hS => ?_)
    obtain ⟨hP1, hD1⟩ := hB
    rw [ht] at hP1
    obtain ⟨hP, hD⟩ := va_join (wr := [(a_read, .inl (cs 0, 86, .inl a_read_c))]) (w1 := [(a, .inr (12, [.ref a_tape, .int a__taped, .int a__rules, .ref a_sign, .ref a_length, .ref a_clause, .ref a_clauses, .ref a_read, .int (o9.1 1), .int a__wrong, .int a__number, .int a__text, .int a__made, .int a__deep, .int a__lines, .ref a_open, .int a__opened, .ref a_stack, .int a__top, .ref a_word, .ref a_said, .int a__x, .ref a_worth, .ref a_mate, .ref a_wasSaid, .int a__undone, .int a__boughtNow, .ref a_wayBy, .ref a_wayThen, .int a__walkMost, .int a__walkGoing, .int a__walkSet, .ref a_kept, .long a__drawX, .ref a_images, .ref a_imageX, .ref a_isMade])), (a_tape, .inl (cs 1, 400, .inl a_tape_c))]) hP hD [1, 2] [0] rfl rfl (by decide) (by decide) hk1 hFc hP1 hD1
    generalize H1 = H at hP hS ⊢
    have hP : va_P D classes [(a_read, .inl (cs 0, 86, .inl a_read_c)), (a, .inr (12, [.ref a_tape, .int a__taped, .int a__rules, .ref a_sign, .ref a_length, .ref a_clause, .ref a_clauses, .ref a_read, .int (o9.1 1), .int a__wrong, .int a__number, .int a__text, .int a__made, .int a__deep, .int a__lines, .ref a_open, .int a__opened, .ref a_stack, .int a__top, .ref a_word, .ref a_said, .int a__x, .ref a_worth, .ref a_mate, .ref a_wasSaid, .int a__undone, .int a__boughtNow, .ref a_wayBy, .ref a_wayThen, .int a__walkMost, .int a__walkGoing, .int a__walkSet, .ref a_kept, .long a__drawX, .ref a_images, .ref a_imageX, .ref a_isMade])), (a_tape, .inl (cs 1, 400, .inl a_tape_c))] H := hP
    have hD : va_D A [(a_read, .inl (cs 0, 86, .inl a_read_c)), (a, .inr (12, [.ref a_tape, .int a__taped, .int a__rules, .ref a_sign, .ref a_length, .ref a_clause, .ref a_clauses, .ref a_read, .int (o9.1 1), .int a__wrong, .int a__number, .int a__text, .int a__made, .int a__deep, .int a__lines, .ref a_open, .int a__opened, .ref a_stack, .int a__top, .ref a_word, .ref a_said, .int a__x, .ref a_worth, .ref a_mate, .ref a_wasSaid, .int a__undone, .int a__boughtNow, .ref a_wayBy, .ref a_wayThen, .int a__walkMost, .int a__walkGoing, .int a__walkSet, .ref a_kept, .long a__drawX, .ref a_images, .ref a_imageX, .ref a_isMade])), (a_tape, .inl (cs 1, 400, .inl a_tape_c))] := hD
    clear hk1 hFc hP1 hD1 hz1
    rcases hw with ⟨h10, x11, x12⟩
    have ii13 : 0 ≤ (o9.1 1).toInt ∧ (o9.1 1).toInt ≤ 400 := h10
    refine lv_bipush (v := 70) hx hb dX12_isBuyerHere_21 (by decide) ?_
    refine lv_iconst (v := 4) hx hb dX12_isBuyerHere_23 (by decide) ?_
    refine lv_aload_n hx hb dX12_isBuyerHere_24 rfl (lv_at hl 0 rfl) ?_
    refine va_get (D := D) (ci := 12) (v := .ref a_read) (C := RX12) (T := TX12) (N := 37) hx hb hT i_X12 hown hK hP 1 rfl rfl 7 (by decide) (hT _ q_181) (fun _ h9 => h9) rfl dX12_isBuyerHere_25 ?_
    refine lv_iconst (v := 2) hx hb dX12_isBuyerHere_28 (by decide) ?_
    refine va_iald hx hb hK hP 0 0 rfl rfl (iv_vc (by decide)) dX12_isBuyerHere_29 ?_
    refine hz_ev v1 ev1.symm ?_
    refine lv_imul hx hb dX12_isBuyerHere_30 ?_
    refine lv_topi (fun v14 ev14 => ?_)
    have hv14 : IV 0 12 v14 := iv_mul ev14 (iv_c (a := 4) (b := 4) (by decide)) h6 (by decide) (by decide) (by decide) (by decide)
    have ii15 : 0 ≤ v14.toInt ∧ v14.toInt ≤ 12 := hv14
    have lv14 : v14.toInt = 4 * v1.toInt := lin_mul ev14 (iv_c (a := 4) (b := 4) (by decide)) h6 (by decide) rfl (by decide) (by decide) (by decide) (by decide)
    refine lv_iadd hx hb dX12_isBuyerHere_31 ?_
    refine lv_topi (fun v16 ev16 => ?_)
    have hv16 : IV 70 82 v16 := iv_add ev16 (iv_c (a := 70) (b := 70) (by decide)) hv14 (by decide) (by decide)
    have ii17 : 70 ≤ v16.toInt ∧ v16.toInt ≤ 82 := hv16
    have lv16 : v16.toInt = 70 + v14.toInt := lin_add ev16 (iv_c (a := 70) (b := 70) (by decide)) hv14 (by decide) rfl (by decide) (by decide)
    refine lv_istore_n (lv' := [(2, .int v16), (0, .ref a), (1, .int p0)]) hx hb dX12_isBuyerHere_32 rfl hl (by decide) rfl (fun ls hl => ?_)
    refine lv_aload_n hx hb dX12_isBuyerHere_33 rfl (lv_at hl 1 rfl) ?_
    refine lv_iload_n hx hb dX12_isBuyerHere_34 rfl (lv_at hl 0 rfl) ?_
    refine lv_iconst (v := 0) hx hb dX12_isBuyerHere_35 (by decide) ?_
    refine lv_sipush (v := 999) hx hb dX12_isBuyerHere_36 (by decide) ?_
    have hFc := va_free (wc := [(a_read, .inl (cs 0, 86, .inl a_read_c)), (a, .inr (12, [.ref a_tape, .int a__taped, .int a__rules, .ref a_sign, .ref a_length, .ref a_clause, .ref a_clauses, .ref a_read, .int (o9.1 1), .int a__wrong, .int a__number, .int a__text, .int a__made, .int a__deep, .int a__lines, .ref a_open, .int a__opened, .ref a_stack, .int a__top, .ref a_word, .ref a_said, .int a__x, .ref a_worth, .ref a_mate, .ref a_wasSaid, .int a__undone, .int a__boughtNow, .ref a_wayBy, .ref a_wayThen, .int a__walkMost, .int a__walkGoing, .int a__walkSet, .ref a_kept, .long a__drawX, .ref a_images, .ref a_imageX, .ref a_isMade])), (a_tape, .inl (cs 1, 400, .inl a_tape_c))]) hD hS hA [0,1,2] rfl
    refine va_calli (va_runV (As := [.int v16, .int 0, .int 999]) (rest := []) ⟨hx, hb, hml, hown, hT⟩ (c_X12_cellHere l D cs kK kV a v16 0 999 a_read a_read_c a_tape a__taped a__rules a_sign a_length a_clause a_clauses (o9.1 1) a__wrong a__number a__text a__made a__deep a__lines a_open a__opened a_stack a__top a_word a_said a__x a_worth a_mate a_wasSaid a__undone a__boughtNow a_wayBy a_wayThen a__walkMost a__walkGoing a__walkSet a_kept a__drawX a_images a_imageX a_isMade a_tape_c ((iv_w hv16 (by decide) (by decide))) h_a__taped h_a__rules h10 h_a__text h_a__made h_a__lines h_a__opened h_a__top h_a__x h_a__undone ((ck_o hf0 (by omega))) H.size) (cwV 3 hT (hz_gV q_1030 q_1031 q_1032 q_701 q_1033) rfl rfl rfl (by decide +kernel) ⟨(Nat.le_of_ble_eq_true rfl), (Nat.le_of_ble_eq_true rfl)⟩) ⟨hz_C.blind, va_recv hK hP (ci := 12) (q0 := 1) rfl rfl, hz_C.mk (hP.sub (ws' := [(a_read, .inl (cs 0, 86, .inl a_read_c)), (a, .inr (12, [.ref a_tape, .int a__taped, .int a__rules, .ref a_sign, .ref a_length, .ref a_clause, .ref a_clauses, .ref a_read, .int (o9.1 1), .int a__wrong, .int a__number, .int a__text, .int a__made, .int a__deep, .int a__lines, .ref a_open, .int a__opened, .ref a_stack, .int a__top, .ref a_word, .ref a_said, .int a__x, .ref a_worth, .ref a_mate, .ref a_wasSaid, .int a__undone, .int a__boughtNow, .ref a_wayBy, .ref a_wayThen, .int a__walkMost, .int a__walkGoing, .int a__walkSet, .ref a_kept, .long a__drawX, .ref a_images, .ref a_imageX, .ref a_isMade])), (a_tape, .inl (cs 1, 400, .inl a_tape_c))]) [0,1,2] rfl) (hD.sub (ws' := [(a_read, .inl (cs 0, 86, .inl a_read_c)), (a, .inr (12, [.ref a_tape, .int a__taped, .int a__rules, .ref a_sign, .ref a_length, .ref a_clause, .ref a_clauses, .ref a_read, .int (o9.1 1), .int a__wrong, .int a__number, .int a__text, .int a__made, .int a__deep, .int a__lines, .ref a_open, .int a__opened, .ref a_stack, .int a__top, .ref a_word, .ref a_said, .int a__x, .ref a_worth, .ref a_mate, .ref a_wasSaid, .int a__undone, .int a__boughtNow, .ref a_wayBy, .ref a_wayThen, .int a__walkMost, .int a__walkGoing, .int a__walkSet, .ref a_kept, .long a__drawX, .ref a_images, .ref a_imageX, .ref a_isMade])), (a_tape, .inl (cs 1, 400, .inl a_tape_c))]) [0,1,2] (by decide) rfl) hE hS hFc⟩ rfl rfl hl.1 rfl (lv_room (Nat.le_of_ble_eq_true rfl)) dX12_isBuyerHere_39 ⟨(Nat.le_of_ble_eq_true rfl), (Nat.le_of_ble_eq_true rfl)⟩) hS (fun q _ h => hFc q h) hFc (fun r18 o19 t H1 locs ht hvm hw hB hz1 hk1 hS => ?_)
    obtain ⟨hP1, hD1⟩ := hB
    rw [ht] at hP1
    obtain ⟨hP, hD⟩ := va_join (wr := []) (w1 := [(a_read, .inl (cs 0, 86, .inl (o19.2 0))), (a, .inr (12, [.ref a_tape, .int a__taped, .int a__rules, .ref a_sign, .ref a_length, .ref a_clause, .ref a_clauses, .ref a_read, .int (o19.1 2), .int (o19.1 3), .int (o19.1 1), .int a__text, .int a__made, .int a__deep, .int a__lines, .ref a_open, .int a__opened, .ref a_stack, .int a__top, .ref a_word, .ref a_said, .int a__x, .ref a_worth, .ref a_mate, .ref a_wasSaid, .int a__undone, .int a__boughtNow, .ref a_wayBy, .ref a_wayThen, .int a__walkMost, .int a__walkGoing, .int a__walkSet, .ref a_kept, .long a__drawX, .ref a_images, .ref a_imageX, .ref a_isMade])), (a_tape, .inl (cs 1, 400, .inl a_tape_c))]) hP hD [0, 1, 2] [] rfl rfl (by decide) (by decide) hk1 hFc hP1 hD1
    generalize H1 = H at hP hS ⊢
    have hP : va_P D classes [(a_read, .inl (cs 0, 86, .inl (o19.2 0))), (a, .inr (12, [.ref a_tape, .int a__taped, .int a__rules, .ref a_sign, .ref a_length, .ref a_clause, .ref a_clauses, .ref a_read, .int (o19.1 2), .int (o19.1 3), .int (o19.1 1), .int a__text, .int a__made, .int a__deep, .int a__lines, .ref a_open, .int a__opened, .ref a_stack, .int a__top, .ref a_word, .ref a_said, .int a__x, .ref a_worth, .ref a_mate, .ref a_wasSaid, .int a__undone, .int a__boughtNow, .ref a_wayBy, .ref a_wayThen, .int a__walkMost, .int a__walkGoing, .int a__walkSet, .ref a_kept, .long a__drawX, .ref a_images, .ref a_imageX, .ref a_isMade])), (a_tape, .inl (cs 1, 400, .inl a_tape_c))] H := hP
    have hD : va_D A [(a_read, .inl (cs 0, 86, .inl (o19.2 0))), (a, .inr (12, [.ref a_tape, .int a__taped, .int a__rules, .ref a_sign, .ref a_length, .ref a_clause, .ref a_clauses, .ref a_read, .int (o19.1 2), .int (o19.1 3), .int (o19.1 1), .int a__text, .int a__made, .int a__deep, .int a__lines, .ref a_open, .int a__opened, .ref a_stack, .int a__top, .ref a_word, .ref a_said, .int a__x, .ref a_worth, .ref a_mate, .ref a_wasSaid, .int a__undone, .int a__boughtNow, .ref a_wayBy, .ref a_wayThen, .int a__walkMost, .int a__walkGoing, .int a__walkSet, .ref a_kept, .long a__drawX, .ref a_images, .ref a_imageX, .ref a_isMade])), (a_tape, .inl (cs 1, 400, .inl a_tape_c))] := hD
    clear hk1 hFc hP1 hD1 hz1
    rcases hw with ⟨rfl, h20, x21, x22, x23⟩ | ⟨rfl, h24, h25, x26, x27, x28, x29, x30⟩
    · have ii31 : 0 ≤ (o19.1 2).toInt ∧ (o19.1 2).toInt ≤ 400 := h20
      refine lv_if_eq (tgt := 64) hx hb dX12_isBuyerHere_42 (by decide) (fun _ => ?_) (fun z => absurd (by decide) z)
      refine lv_iconst (v := 0) hx hb dX12_isBuyerHere_64 (by decide) ?_
      refine W.widen (k := 0) (n := 0) (Nat.le_of_ble_eq_true rfl) (Nat.le_of_ble_eq_true rfl) ?_
      have g32 : a__next.toInt ≤ (o19.1 2).toInt := (by omega)
      exact W.zret (v := 0) hx hb hr rfl (fun t ht hW => ⟨⟨0, (fun k => match k with | 0 => 0 | 1 => o19.1 1 | 2 => o19.1 2 | 3 => o19.1 3 | _ => 0, fun k => match k with | 0 => o19.2 0 | _ => fun _ => 0), rfl, (Or.inl (⟨rfl, h20, g32, x22, x23⟩)), by rw [ht]; exact hP.sub [0, 1, 2] rfl, hD.sub [0, 1, 2] (by decide) rfl⟩, hS.F ht⟩) hS.2.2 dX12_isBuyerHere_65
    · have z999 : (999 : Int32).toInt = 999 := by decide
      have ii33 : 1 ≤ a__taped.toInt ∧ a__taped.toInt ≤ 400 := h24
      have ii34 : 0 ≤ (o19.1 2).toInt ∧ (o19.1 2).toInt ≤ 400 := h25
      refine lv_if_eq (tgt := 64) hx hb dX12_isBuyerHere_42 (by decide) (fun z => absurd z (by decide)) (fun _ => ?_)
      have kb : ((o19.2 0) 2).toInt = (a_read_c 2).toInt := congrArg Int32.toInt (by rw [x28, pk_un (show 2 ≠ Int32.toNatClampNeg v16 from by (have q : Int32.toNatClampNeg v16 = v16.toInt.toNat := rfl; omega))])
      have kz : ((o19.2 0) 0).toInt = (a_read_c 0).toInt := congrArg Int32.toInt (by rw [x28, pk_un (show 0 ≠ Int32.toNatClampNeg v16 from by (have q : Int32.toNatClampNeg v16 = v16.toInt.toNat := rfl; omega))])
      refine lv_aload_n hx hb dX12_isBuyerHere_45 rfl (lv_at hl 1 rfl) ?_
      refine lv_iload_n hx hb dX12_isBuyerHere_46 rfl (lv_at hl 0 rfl) ?_
      refine lv_iconst (v := 1) hx hb dX12_isBuyerHere_47 (by decide) ?_
      refine lv_iadd hx hb dX12_isBuyerHere_48 ?_
      refine lv_topi (fun v35 ev35 => ?_)
      have hv35 : IV 71 83 v35 := iv_add ev35 hv16 (iv_c (a := 1) (b := 1) (by decide)) (by decide) (by decide)
      have ii36 : 71 ≤ v35.toInt ∧ v35.toInt ≤ 83 := hv35
      have dv35 : v35.toInt = v16.toInt + 1 := iv_addE ev35 hv16 (iv_c (a := 1) (b := 1) (by decide)) (by decide) (by decide) (by decide)
      have lv35 : v35.toInt = v16.toInt + 1 := lin_add ev35 hv16 (iv_c (a := 1) (b := 1) (by decide)) rfl (by decide) (by decide) (by decide)
      refine lv_iconst (v := 0) hx hb dX12_isBuyerHere_49 (by decide) ?_
      refine lv_aload_n hx hb dX12_isBuyerHere_50 rfl (lv_at hl 1 rfl) ?_
      refine va_get (D := D) (ci := 12) (v := .ref a_read) (C := RX12) (T := TX12) (N := 37) hx hb hT i_X12 hown hK hP 1 rfl rfl 7 (by decide) (hT _ q_181) (fun _ h9 => h9) rfl dX12_isBuyerHere_51 ?_
      refine lv_iconst (v := 0) hx hb dX12_isBuyerHere_54 (by decide) ?_
      refine va_iald hx hb hK hP 0 0 rfl rfl (iv_vc (by decide)) dX12_isBuyerHere_55 ?_
      refine lv_topi (fun v37 ev37 => ?_)
      have h38 : IV 0 8 v37 := (by rw [ev37]; exact bs_i0 x27)
      have ii39 : 0 ≤ v37.toInt ∧ v37.toInt ≤ 8 := h38
      have lv37 : v37.toInt = ((o19.2 0) 0).toInt := by rw [ev37]; rfl
      refine lv_iconst (v := 1) hx hb dX12_isBuyerHere_56 (by decide) ?_
      refine lv_isub hx hb dX12_isBuyerHere_57 ?_
      refine lv_topi (fun v40 ev40 => ?_)
      have hv40 : IV (-1) 7 v40 := iv_sub ev40 h38 (iv_c (a := 1) (b := 1) (by decide)) (by decide) (by decide)
      have ii41 : (-1) ≤ v40.toInt ∧ v40.toInt ≤ 7 := hv40
      have dv40 : v40.toInt = v37.toInt + (-1) := iv_subE ev40 h38 (iv_c (a := 1) (b := 1) (by decide)) (by decide) (by decide) (by decide)
      have lv40 : v40.toInt = v37.toInt - 1 := lin_sub ev40 h38 (iv_c (a := 1) (b := 1) (by decide)) rfl (by decide) (by decide) (by decide)
      have hFc := va_free (wc := [(a_read, .inl (cs 0, 86, .inl (o19.2 0))), (a, .inr (12, [.ref a_tape, .int a__taped, .int a__rules, .ref a_sign, .ref a_length, .ref a_clause, .ref a_clauses, .ref a_read, .int (o19.1 2), .int (o19.1 3), .int (o19.1 1), .int a__text, .int a__made, .int a__deep, .int a__lines, .ref a_open, .int a__opened, .ref a_stack, .int a__top, .ref a_word, .ref a_said, .int a__x, .ref a_worth, .ref a_mate, .ref a_wasSaid, .int a__undone, .int a__boughtNow, .ref a_wayBy, .ref a_wayThen, .int a__walkMost, .int a__walkGoing, .int a__walkSet, .ref a_kept, .long a__drawX, .ref a_images, .ref a_imageX, .ref a_isMade])), (a_tape, .inl (cs 1, 400, .inl a_tape_c))]) hD hS hA [0,1,2] rfl
      refine va_calli (va_runV (As := [.int v35, .int 0, .int v40]) (rest := []) ⟨hx, hb, hml, hown, hT⟩ (c_X12_cellHere l D cs kK kV a v35 0 v40 a_read (o19.2 0) a_tape a__taped a__rules a_sign a_length a_clause a_clauses (o19.1 2) (o19.1 3) (o19.1 1) a__text a__made a__deep a__lines a_open a__opened a_stack a__top a_word a_said a__x a_worth a_mate a_wasSaid a__undone a__boughtNow a_wayBy a_wayThen a__walkMost a__walkGoing a__walkSet a_kept a__drawX a_images a_imageX a_isMade a_tape_c ((iv_w hv35 (by decide) (by decide))) ((iv_w h24 (by decide) (by decide))) h_a__rules h25 h_a__text h_a__made h_a__lines h_a__opened h_a__top h_a__x h_a__undone ((ck_sp (k := ((o19.2 0) 2).toInt.toNat) x27 (by omega) (by omega))) H.size) (cwV 3 hT (hz_gV q_1030 q_1031 q_1032 q_701 q_1033) rfl rfl rfl (by decide +kernel) ⟨(Nat.le_of_ble_eq_true rfl), (Nat.le_of_ble_eq_true rfl)⟩) ⟨hz_C.blind, va_recv hK hP (ci := 12) (q0 := 1) rfl rfl, hz_C.mk (hP.sub (ws' := [(a_read, .inl (cs 0, 86, .inl (o19.2 0))), (a, .inr (12, [.ref a_tape, .int a__taped, .int a__rules, .ref a_sign, .ref a_length, .ref a_clause, .ref a_clauses, .ref a_read, .int (o19.1 2), .int (o19.1 3), .int (o19.1 1), .int a__text, .int a__made, .int a__deep, .int a__lines, .ref a_open, .int a__opened, .ref a_stack, .int a__top, .ref a_word, .ref a_said, .int a__x, .ref a_worth, .ref a_mate, .ref a_wasSaid, .int a__undone, .int a__boughtNow, .ref a_wayBy, .ref a_wayThen, .int a__walkMost, .int a__walkGoing, .int a__walkSet, .ref a_kept, .long a__drawX, .ref a_images, .ref a_imageX, .ref a_isMade])), (a_tape, .inl (cs 1, 400, .inl a_tape_c))]) [0,1,2] rfl) (hD.sub (ws' := [(a_read, .inl (cs 0, 86, .inl (o19.2 0))), (a, .inr (12, [.ref a_tape, .int a__taped, .int a__rules, .ref a_sign, .ref a_length, .ref a_clause, .ref a_clauses, .ref a_read, .int (o19.1 2), .int (o19.1 3), .int (o19.1 1), .int a__text, .int a__made, .int a__deep, .int a__lines, .ref a_open, .int a__opened, .ref a_stack, .int a__top, .ref a_word, .ref a_said, .int a__x, .ref a_worth, .ref a_mate, .ref a_wasSaid, .int a__undone, .int a__boughtNow, .ref a_wayBy, .ref a_wayThen, .int a__walkMost, .int a__walkGoing, .int a__walkSet, .ref a_kept, .long a__drawX, .ref a_images, .ref a_imageX, .ref a_isMade])), (a_tape, .inl (cs 1, 400, .inl a_tape_c))]) [0,1,2] (by decide) rfl) hE hS hFc⟩ rfl rfl hl.1 rfl (lv_room (Nat.le_of_ble_eq_true rfl)) dX12_isBuyerHere_58 ⟨(Nat.le_of_ble_eq_true rfl), (Nat.le_of_ble_eq_true rfl)⟩) hS (fun q _ h => hFc q h) hFc (fun r42 o43 t H1 locs ht hvm hw hB hz1 hk1 hS => ?_)
      obtain ⟨hP1, hD1⟩ := hB
      rw [ht] at hP1
      obtain ⟨hP, hD⟩ := va_join (wr := []) (w1 := [(a_read, .inl (cs 0, 86, .inl (o43.2 0))), (a, .inr (12, [.ref a_tape, .int a__taped, .int a__rules, .ref a_sign, .ref a_length, .ref a_clause, .ref a_clauses, .ref a_read, .int (o43.1 2), .int (o43.1 3), .int (o43.1 1), .int a__text, .int a__made, .int a__deep, .int a__lines, .ref a_open, .int a__opened, .ref a_stack, .int a__top, .ref a_word, .ref a_said, .int a__x, .ref a_worth, .ref a_mate, .ref a_wasSaid, .int a__undone, .int a__boughtNow, .ref a_wayBy, .ref a_wayThen, .int a__walkMost, .int a__walkGoing, .int a__walkSet, .ref a_kept, .long a__drawX, .ref a_images, .ref a_imageX, .ref a_isMade])), (a_tape, .inl (cs 1, 400, .inl a_tape_c))]) hP hD [0, 1, 2] [] rfl rfl (by decide) (by decide) hk1 hFc hP1 hD1
      generalize H1 = H at hP hS ⊢
      have hP : va_P D classes [(a_read, .inl (cs 0, 86, .inl (o43.2 0))), (a, .inr (12, [.ref a_tape, .int a__taped, .int a__rules, .ref a_sign, .ref a_length, .ref a_clause, .ref a_clauses, .ref a_read, .int (o43.1 2), .int (o43.1 3), .int (o43.1 1), .int a__text, .int a__made, .int a__deep, .int a__lines, .ref a_open, .int a__opened, .ref a_stack, .int a__top, .ref a_word, .ref a_said, .int a__x, .ref a_worth, .ref a_mate, .ref a_wasSaid, .int a__undone, .int a__boughtNow, .ref a_wayBy, .ref a_wayThen, .int a__walkMost, .int a__walkGoing, .int a__walkSet, .ref a_kept, .long a__drawX, .ref a_images, .ref a_imageX, .ref a_isMade])), (a_tape, .inl (cs 1, 400, .inl a_tape_c))] H := hP
      have hD : va_D A [(a_read, .inl (cs 0, 86, .inl (o43.2 0))), (a, .inr (12, [.ref a_tape, .int a__taped, .int a__rules, .ref a_sign, .ref a_length, .ref a_clause, .ref a_clauses, .ref a_read, .int (o43.1 2), .int (o43.1 3), .int (o43.1 1), .int a__text, .int a__made, .int a__deep, .int a__lines, .ref a_open, .int a__opened, .ref a_stack, .int a__top, .ref a_word, .ref a_said, .int a__x, .ref a_worth, .ref a_mate, .ref a_wasSaid, .int a__undone, .int a__boughtNow, .ref a_wayBy, .ref a_wayThen, .int a__walkMost, .int a__walkGoing, .int a__walkSet, .ref a_kept, .long a__drawX, .ref a_images, .ref a_imageX, .ref a_isMade])), (a_tape, .inl (cs 1, 400, .inl a_tape_c))] := hD
      clear hk1 hFc hP1 hD1 hz1
      rcases hw with ⟨rfl, h44, x45, x46, x47⟩ | ⟨rfl, h48, h49, x50, x51, x52, x53, x54⟩
      · have ii55 : 0 ≤ (o43.1 2).toInt ∧ (o43.1 2).toInt ≤ 400 := h44
        refine lv_if_ne (tgt := 66) hx hb dX12_isBuyerHere_61 (by decide) (fun z => absurd (by decide) z) (fun _ => ?_)
        refine lv_iconst (v := 0) hx hb dX12_isBuyerHere_64 (by decide) ?_
        refine W.widen (k := 0) (n := 0) (Nat.le_of_ble_eq_true rfl) (Nat.le_of_ble_eq_true rfl) ?_
        have g56 : a__next.toInt ≤ (o43.1 2).toInt := (by omega)
        exact W.zret (v := 0) hx hb hr rfl (fun t ht hW => ⟨⟨0, (fun k => match k with | 0 => 0 | 1 => o43.1 1 | 2 => o43.1 2 | 3 => o43.1 3 | _ => 0, fun k => match k with | 0 => o43.2 0 | _ => fun _ => 0), rfl, (Or.inl (⟨rfl, h44, g56, x46, x47⟩)), by rw [ht]; exact hP.sub [0, 1, 2] rfl, hD.sub [0, 1, 2] (by decide) rfl⟩, hS.F ht⟩) hS.2.2 dX12_isBuyerHere_65
      · have ii57 : 1 ≤ a__taped.toInt ∧ a__taped.toInt ≤ 400 := h48
        have ii58 : 0 ≤ (o43.1 2).toInt ∧ (o43.1 2).toInt ≤ 400 := h49
        refine lv_if_ne (tgt := 66) hx hb dX12_isBuyerHere_61 (by decide) (fun _ => ?_) (fun z => absurd z (by decide))
        have kb : ((o43.2 0) 2).toInt = (a_read_c 2).toInt := congrArg Int32.toInt (by rw [x52, pk_un (show 2 ≠ Int32.toNatClampNeg v35 from by (have q : Int32.toNatClampNeg v35 = v35.toInt.toNat := rfl; omega)), x28, pk_un (show 2 ≠ Int32.toNatClampNeg v16 from by (have q : Int32.toNatClampNeg v16 = v16.toInt.toNat := rfl; omega))])
        have kz : ((o43.2 0) 0).toInt = (a_read_c 0).toInt := congrArg Int32.toInt (by rw [x52, pk_un (show 0 ≠ Int32.toNatClampNeg v35 from by (have q : Int32.toNatClampNeg v35 = v35.toInt.toNat := rfl; omega)), x28, pk_un (show 0 ≠ Int32.toNatClampNeg v16 from by (have q : Int32.toNatClampNeg v16 = v16.toInt.toNat := rfl; omega))])
        refine lv_aload_n hx hb dX12_isBuyerHere_66 rfl (lv_at hl 1 rfl) ?_
        refine va_get (D := D) (ci := 12) (v := .ref a_read) (C := RX12) (T := TX12) (N := 37) hx hb hT i_X12 hown hK hP 1 rfl rfl 7 (by decide) (hT _ q_181) (fun _ h9 => h9) rfl dX12_isBuyerHere_67 ?_
        refine lv_iload_n hx hb dX12_isBuyerHere_70 rfl (lv_at hl 0 rfl) ?_
        refine lv_iconst (v := 2) hx hb dX12_isBuyerHere_71 (by decide) ?_
        refine lv_iadd hx hb dX12_isBuyerHere_72 ?_
        refine lv_topi (fun v59 ev59 => ?_)
        have hv59 : IV 72 84 v59 := iv_add ev59 hv16 (iv_c (a := 2) (b := 2) (by decide)) (by decide) (by decide)
        have ii60 : 72 ≤ v59.toInt ∧ v59.toInt ≤ 84 := hv59
        have dv59 : v59.toInt = v16.toInt + 2 := iv_addE ev59 hv16 (iv_c (a := 2) (b := 2) (by decide)) (by decide) (by decide) (by decide)
        have lv59 : v59.toInt = v16.toInt + 2 := lin_add ev59 hv16 (iv_c (a := 2) (b := 2) (by decide)) rfl (by decide) (by decide) (by decide)
        refine lv_iconst (v := 0) hx hb dX12_isBuyerHere_73 (by decide) ?_
        refine va_iast hx hb hK hP hD hS 0 0 rfl rfl (iv_v hv59 (by decide) (by decide)) dX12_isBuyerHere_74 (fun H locs hP hD hS => ?_)
        have hP : va_P D classes [(a_read, .inl (cs 0, 86, .inl (upd (o43.2 0) (Int32.toNatClampNeg v59) (0 : Int32)))), (a, .inr (12, [.ref a_tape, .int a__taped, .int a__rules, .ref a_sign, .ref a_length, .ref a_clause, .ref a_clauses, .ref a_read, .int (o43.1 2), .int (o43.1 3), .int (o43.1 1), .int a__text, .int a__made, .int a__deep, .int a__lines, .ref a_open, .int a__opened, .ref a_stack, .int a__top, .ref a_word, .ref a_said, .int a__x, .ref a_worth, .ref a_mate, .ref a_wasSaid, .int a__undone, .int a__boughtNow, .ref a_wayBy, .ref a_wayThen, .int a__walkMost, .int a__walkGoing, .int a__walkSet, .ref a_kept, .long a__drawX, .ref a_images, .ref a_imageX, .ref a_isMade])), (a_tape, .inl (cs 1, 400, .inl a_tape_c))] H := hP
        have hD : va_D A [(a_read, .inl (cs 0, 86, .inl (upd (o43.2 0) (Int32.toNatClampNeg v59) (0 : Int32)))), (a, .inr (12, [.ref a_tape, .int a__taped, .int a__rules, .ref a_sign, .ref a_length, .ref a_clause, .ref a_clauses, .ref a_read, .int (o43.1 2), .int (o43.1 3), .int (o43.1 1), .int a__text, .int a__made, .int a__deep, .int a__lines, .ref a_open, .int a__opened, .ref a_stack, .int a__top, .ref a_word, .ref a_said, .int a__x, .ref a_worth, .ref a_mate, .ref a_wasSaid, .int a__undone, .int a__boughtNow, .ref a_wayBy, .ref a_wayThen, .int a__walkMost, .int a__walkGoing, .int a__walkSet, .ref a_kept, .long a__drawX, .ref a_images, .ref a_imageX, .ref a_isMade])), (a_tape, .inl (cs 1, 400, .inl a_tape_c))] := hD
        obtain ⟨f61, uf61⟩ : ∃ z, z = upd (o43.2 0) (Int32.toNatClampNeg v59) (0 : Int32) := ⟨_, rfl⟩
        rw [← uf61] at hP hD
        have wf61 : (f61 (Int32.toNatClampNeg v59)).toInt = 0 := lin_us uf61 (by decide)
        have fb62 : BS f61 0 := (bs_upd x51 uf61 (show Int32.toNatClampNeg v59 ≠ 0 ∧ Int32.toNatClampNeg v59 ≠ 1 ∧ Int32.toNatClampNeg v59 ≠ 2 ∧ Int32.toNatClampNeg v59 ≠ 3 ∧ Int32.toNatClampNeg v59 ≠ 4 ∧ Int32.toNatClampNeg v59 ≠ 71 ∧ Int32.toNatClampNeg v59 ≠ 75 ∧ Int32.toNatClampNeg v59 ≠ 79 ∧ Int32.toNatClampNeg v59 ≠ 83 from by (have q : Int32.toNatClampNeg v59 = v59.toInt.toNat := rfl); omega))
        have kb : (f61 2).toInt = (a_read_c 2).toInt := congrArg Int32.toInt (by rw [uf61, pk_un (show 2 ≠ Int32.toNatClampNeg v59 from by (have q : Int32.toNatClampNeg v59 = v59.toInt.toNat := rfl; omega)), x52, pk_un (show 2 ≠ Int32.toNatClampNeg v35 from by (have q : Int32.toNatClampNeg v35 = v35.toInt.toNat := rfl; omega)), x28, pk_un (show 2 ≠ Int32.toNatClampNeg v16 from by (have q : Int32.toNatClampNeg v16 = v16.toInt.toNat := rfl; omega))])
        have kz : (f61 0).toInt = (a_read_c 0).toInt := congrArg Int32.toInt (by rw [uf61, pk_un (show 0 ≠ Int32.toNatClampNeg v59 from by (have q : Int32.toNatClampNeg v59 = v59.toInt.toNat := rfl; omega)), x52, pk_un (show 0 ≠ Int32.toNatClampNeg v35 from by (have q : Int32.toNatClampNeg v35 = v35.toInt.toNat := rfl; omega)), x28, pk_un (show 0 ≠ Int32.toNatClampNeg v16 from by (have q : Int32.toNatClampNeg v16 = v16.toInt.toNat := rfl; omega))])
        refine lv_aload_n hx hb dX12_isBuyerHere_75 rfl (lv_at hl 1 rfl) ?_
        refine va_get (D := D) (ci := 12) (v := .ref a_read) (C := RX12) (T := TX12) (N := 37) hx hb hT i_X12 hown hK hP 1 rfl rfl 7 (by decide) (hT _ q_181) (fun _ h9 => h9) rfl dX12_isBuyerHere_76 ?_
        refine lv_iload_n hx hb dX12_isBuyerHere_79 rfl (lv_at hl 0 rfl) ?_
        refine lv_iconst (v := 3) hx hb dX12_isBuyerHere_80 (by decide) ?_
        refine lv_iadd hx hb dX12_isBuyerHere_81 ?_
        refine lv_topi (fun v63 ev63 => ?_)
        have hv63 : IV 73 85 v63 := iv_add ev63 hv16 (iv_c (a := 3) (b := 3) (by decide)) (by decide) (by decide)
        have ii64 : 73 ≤ v63.toInt ∧ v63.toInt ≤ 85 := hv63
        have dv63 : v63.toInt = v16.toInt + 3 := iv_addE ev63 hv16 (iv_c (a := 3) (b := 3) (by decide)) (by decide) (by decide) (by decide)
        have lv63 : v63.toInt = v16.toInt + 3 := lin_add ev63 hv16 (iv_c (a := 3) (b := 3) (by decide)) rfl (by decide) (by decide) (by decide)
        refine lv_iconst (v := 1) hx hb dX12_isBuyerHere_82 (by decide) ?_
        refine lv_aload_n hx hb dX12_isBuyerHere_83 rfl (lv_at hl 1 rfl) ?_
        refine va_get (D := D) (ci := 12) (v := .ref a_read) (C := RX12) (T := TX12) (N := 37) hx hb hT i_X12 hown hK hP 1 rfl rfl 7 (by decide) (hT _ q_181) (fun _ h9 => h9) rfl dX12_isBuyerHere_84 ?_
        refine lv_iconst (v := 2) hx hb dX12_isBuyerHere_87 (by decide) ?_
        refine va_iald hx hb hK hP 0 0 rfl rfl (iv_vc (by decide)) dX12_isBuyerHere_88 ?_
        refine lv_topi (fun v65 ev65 => ?_)
        have h66 : IV 0 4 v65 := (by rw [ev65]; exact bs_i2 fb62)
        have ii67 : 0 ≤ v65.toInt ∧ v65.toInt ≤ 4 := h66
        have lv65 : v65.toInt = (f61 2).toInt := by rw [ev65]; rfl
        refine lv_ishl hx hb dX12_isBuyerHere_89 ?_
        refine lv_topi (fun v68 ev68 => ?_)
        have hv68 : IV 1 16 v68 := iv_shl1 ev68 h66 (by decide) (by decide) (by decide)
        have ii69 : 1 ≤ v68.toInt ∧ v68.toInt ≤ 16 := hv68
        refine va_iast hx hb hK hP hD hS 0 0 rfl rfl (iv_v hv63 (by decide) (by decide)) dX12_isBuyerHere_90 (fun H locs hP hD hS => ?_)
        have hP : va_P D classes [(a_read, .inl (cs 0, 86, .inl (upd f61 (Int32.toNatClampNeg v63) v68))), (a, .inr (12, [.ref a_tape, .int a__taped, .int a__rules, .ref a_sign, .ref a_length, .ref a_clause, .ref a_clauses, .ref a_read, .int (o43.1 2), .int (o43.1 3), .int (o43.1 1), .int a__text, .int a__made, .int a__deep, .int a__lines, .ref a_open, .int a__opened, .ref a_stack, .int a__top, .ref a_word, .ref a_said, .int a__x, .ref a_worth, .ref a_mate, .ref a_wasSaid, .int a__undone, .int a__boughtNow, .ref a_wayBy, .ref a_wayThen, .int a__walkMost, .int a__walkGoing, .int a__walkSet, .ref a_kept, .long a__drawX, .ref a_images, .ref a_imageX, .ref a_isMade])), (a_tape, .inl (cs 1, 400, .inl a_tape_c))] H := hP
        have hD : va_D A [(a_read, .inl (cs 0, 86, .inl (upd f61 (Int32.toNatClampNeg v63) v68))), (a, .inr (12, [.ref a_tape, .int a__taped, .int a__rules, .ref a_sign, .ref a_length, .ref a_clause, .ref a_clauses, .ref a_read, .int (o43.1 2), .int (o43.1 3), .int (o43.1 1), .int a__text, .int a__made, .int a__deep, .int a__lines, .ref a_open, .int a__opened, .ref a_stack, .int a__top, .ref a_word, .ref a_said, .int a__x, .ref a_worth, .ref a_mate, .ref a_wasSaid, .int a__undone, .int a__boughtNow, .ref a_wayBy, .ref a_wayThen, .int a__walkMost, .int a__walkGoing, .int a__walkSet, .ref a_kept, .long a__drawX, .ref a_images, .ref a_imageX, .ref a_isMade])), (a_tape, .inl (cs 1, 400, .inl a_tape_c))] := hD
        obtain ⟨f70, uf70⟩ : ∃ z, z = upd f61 (Int32.toNatClampNeg v63) v68 := ⟨_, rfl⟩
        rw [← uf70] at hP hD
        have wf70 : (f70 (Int32.toNatClampNeg v63)).toInt = v68.toInt := lin_us uf70 rfl
        have fb71 : BS f70 0 := (bs_upd fb62 uf70 (show Int32.toNatClampNeg v63 ≠ 0 ∧ Int32.toNatClampNeg v63 ≠ 1 ∧ Int32.toNatClampNeg v63 ≠ 2 ∧ Int32.toNatClampNeg v63 ≠ 3 ∧ Int32.toNatClampNeg v63 ≠ 4 ∧ Int32.toNatClampNeg v63 ≠ 71 ∧ Int32.toNatClampNeg v63 ≠ 75 ∧ Int32.toNatClampNeg v63 ≠ 79 ∧ Int32.toNatClampNeg v63 ≠ 83 from by (have q : Int32.toNatClampNeg v63 = v63.toInt.toNat := rfl); omega))
        have kb : (f70 2).toInt = (a_read_c 2).toInt := congrArg Int32.toInt (by rw [uf70, pk_un (show 2 ≠ Int32.toNatClampNeg v63 from by (have q : Int32.toNatClampNeg v63 = v63.toInt.toNat := rfl; omega)), uf61, pk_un (show 2 ≠ Int32.toNatClampNeg v59 from by (have q : Int32.toNatClampNeg v59 = v59.toInt.toNat := rfl; omega)), x52, pk_un (show 2 ≠ Int32.toNatClampNeg v35 from by (have q : Int32.toNatClampNeg v35 = v35.toInt.toNat := rfl; omega)), x28, pk_un (show 2 ≠ Int32.toNatClampNeg v16 from by (have q : Int32.toNatClampNeg v16 = v16.toInt.toNat := rfl; omega))])
        have kz : (f70 0).toInt = (a_read_c 0).toInt := congrArg Int32.toInt (by rw [uf70, pk_un (show 0 ≠ Int32.toNatClampNeg v63 from by (have q : Int32.toNatClampNeg v63 = v63.toInt.toNat := rfl; omega)), uf61, pk_un (show 0 ≠ Int32.toNatClampNeg v59 from by (have q : Int32.toNatClampNeg v59 = v59.toInt.toNat := rfl; omega)), x52, pk_un (show 0 ≠ Int32.toNatClampNeg v35 from by (have q : Int32.toNatClampNeg v35 = v35.toInt.toNat := rfl; omega)), x28, pk_un (show 0 ≠ Int32.toNatClampNeg v16 from by (have q : Int32.toNatClampNeg v16 = v16.toInt.toNat := rfl; omega))])
        refine lv_aload_n hx hb dX12_isBuyerHere_91 rfl (lv_at hl 1 rfl) ?_
        refine va_get (D := D) (ci := 12) (v := .ref a_read) (C := RX12) (T := TX12) (N := 37) hx hb hT i_X12 hown hK hP 1 rfl rfl 7 (by decide) (hT _ q_181) (fun _ h9 => h9) rfl dX12_isBuyerHere_92 ?_
        refine lv_iconst (v := 2) hx hb dX12_isBuyerHere_95 (by decide) ?_
        refine lv_dup2_11 hx hb dX12_isBuyerHere_96 rfl rfl ?_
        refine va_iald hx hb hK hP 0 0 rfl rfl (iv_vc (by decide)) dX12_isBuyerHere_97 ?_
        refine lv_topi (fun v72 ev72 => ?_)
        have h73 : IV 0 4 v72 := (by rw [ev72]; exact bs_i2 fb71)
        have ii74 : 0 ≤ v72.toInt ∧ v72.toInt ≤ 4 := h73
        have lv72 : v72.toInt = (f70 2).toInt := by rw [ev72]; rfl
        refine lv_iconst (v := 1) hx hb dX12_isBuyerHere_98 (by decide) ?_
        refine lv_iadd hx hb dX12_isBuyerHere_99 ?_
        refine lv_topi (fun v75 ev75 => ?_)
        have hv75 : IV 1 5 v75 := iv_add ev75 h73 (iv_c (a := 1) (b := 1) (by decide)) (by decide) (by decide)
        have ii76 : 1 ≤ v75.toInt ∧ v75.toInt ≤ 5 := hv75
        have dv75 : v75.toInt = v72.toInt + 1 := iv_addE ev75 h73 (iv_c (a := 1) (b := 1) (by decide)) (by decide) (by decide) (by decide)
        have lv75 : v75.toInt = v72.toInt + 1 := lin_add ev75 h73 (iv_c (a := 1) (b := 1) (by decide)) rfl (by decide) (by decide) (by decide)
        refine va_iast hx hb hK hP hD hS 0 0 rfl rfl (iv_vc (by decide)) dX12_isBuyerHere_100 (fun H locs hP hD hS => ?_)
        have hP : va_P D classes [(a_read, .inl (cs 0, 86, .inl (upd f70 (Int32.toNatClampNeg (2 : Int32)) v75))), (a, .inr (12, [.ref a_tape, .int a__taped, .int a__rules, .ref a_sign, .ref a_length, .ref a_clause, .ref a_clauses, .ref a_read, .int (o43.1 2), .int (o43.1 3), .int (o43.1 1), .int a__text, .int a__made, .int a__deep, .int a__lines, .ref a_open, .int a__opened, .ref a_stack, .int a__top, .ref a_word, .ref a_said, .int a__x, .ref a_worth, .ref a_mate, .ref a_wasSaid, .int a__undone, .int a__boughtNow, .ref a_wayBy, .ref a_wayThen, .int a__walkMost, .int a__walkGoing, .int a__walkSet, .ref a_kept, .long a__drawX, .ref a_images, .ref a_imageX, .ref a_isMade])), (a_tape, .inl (cs 1, 400, .inl a_tape_c))] H := hP
        have hD : va_D A [(a_read, .inl (cs 0, 86, .inl (upd f70 (Int32.toNatClampNeg (2 : Int32)) v75))), (a, .inr (12, [.ref a_tape, .int a__taped, .int a__rules, .ref a_sign, .ref a_length, .ref a_clause, .ref a_clauses, .ref a_read, .int (o43.1 2), .int (o43.1 3), .int (o43.1 1), .int a__text, .int a__made, .int a__deep, .int a__lines, .ref a_open, .int a__opened, .ref a_stack, .int a__top, .ref a_word, .ref a_said, .int a__x, .ref a_worth, .ref a_mate, .ref a_wasSaid, .int a__undone, .int a__boughtNow, .ref a_wayBy, .ref a_wayThen, .int a__walkMost, .int a__walkGoing, .int a__walkSet, .ref a_kept, .long a__drawX, .ref a_images, .ref a_imageX, .ref a_isMade])), (a_tape, .inl (cs 1, 400, .inl a_tape_c))] := hD
        obtain ⟨f77, uf77⟩ : ∃ z, z = upd f70 (Int32.toNatClampNeg (2 : Int32)) v75 := ⟨_, rfl⟩
        rw [← uf77] at hP hD
        have uf77 : f77 = upd f70 2 v75 := uf77
        have wf77 : (f77 2).toInt = v75.toInt := lin_us uf77 rfl
        obtain ⟨ixn, eixn⟩ : ∃ z : Nat, z = 71 + 4 * (f70 2).toInt.toNat := ⟨_, rfl⟩
        have ksp : (f70 ixn).toInt = (o43.1 1).toInt := congrArg Int32.toInt (by rw [uf70, pk_un (show ixn ≠ Int32.toNatClampNeg v63 from by (have q : Int32.toNatClampNeg v63 = v63.toInt.toNat := rfl); omega), uf61, pk_un (show ixn ≠ Int32.toNatClampNeg v59 from by (have q : Int32.toNatClampNeg v59 = v59.toInt.toNat := rfl); omega), x52, show ixn = Int32.toNatClampNeg v35 from (show _ = v35.toInt.toNat by omega), pk_us])
        rw [eixn] at ksp
        have fb78 : BS f77 0 := (bs_2 fb71 uf77 (by omega) (by omega) (by omega) (by omega))
        refine lv_iconst (v := 1) hx hb dX12_isBuyerHere_101 (by decide) ?_
        refine W.widen (k := 0) (n := 0) (Nat.le_of_ble_eq_true rfl) (Nat.le_of_ble_eq_true rfl) ?_
        have g79 : a__next.toInt ≤ (o43.1 2).toInt := (by omega)
        exact W.zret (v := 1) hx hb hr rfl (fun t ht hW => ⟨⟨1, (fun k => match k with | 0 => 0 | 1 => o43.1 1 | 2 => o43.1 2 | 3 => o43.1 3 | _ => 0, fun k => match k with | 0 => f77 | _ => fun _ => 0), rfl, (Or.inr ((⟨rfl, h48, h49, g79, fb78⟩))), by rw [ht]; exact hP.sub [0, 1, 2] rfl, hD.sub [0, 1, 2] (by decide) rfl⟩, hS.F ht⟩) hS.2.2 dX12_isBuyerHere_102
  · have t80 : v1.toInt = 4 := lin_eqN c4 rfl (by decide)
    have h81 : IV 4 4 v1 := iv_eq1 c4 h2 (iv_c (a := 4) (b := 4) (by decide)) (by decide) (by decide)
    have ii82 : 4 ≤ v1.toInt ∧ v1.toInt ≤ 4 := h81
    refine lv_aload_n hx hb dX12_isBuyerHere_10 rfl (lv_at hl 0 rfl) ?_
    refine lv_iconst (v := 4) hx hb dX12_isBuyerHere_11 (by decide) ?_
    refine lv_iload_n hx hb dX12_isBuyerHere_12 rfl (lv_at hl 1 rfl) ?_
    have hFc := va_free (wc := [(a, .inr (12, [.ref a_tape, .int a__taped, .int a__rules, .ref a_sign, .ref a_length, .ref a_clause, .ref a_clauses, .ref a_read, .int a__next, .int a__wrong, .int a__number, .int a__text, .int a__made, .int a__deep, .int a__lines, .ref a_open, .int a__opened, .ref a_stack, .int a__top, .ref a_word, .ref a_said, .int a__x, .ref a_worth, .ref a_mate, .ref a_wasSaid, .int a__undone, .int a__boughtNow, .ref a_wayBy, .ref a_wayThen, .int a__walkMost, .int a__walkGoing, .int a__walkSet, .ref a_kept, .long a__drawX, .ref a_images, .ref a_imageX, .ref a_isMade]))]) hD hS hA [1] rfl
    refine va_calli (va_runV (As := [.int 4, .int p0]) (rest := []) ⟨hx, hb, hml, hown, hT⟩ (c_X12_fails l D cs kK kV a 4 p0 a_tape a__taped a__rules a_sign a_length a_clause a_clauses a_read a__next a__wrong a__number a__text a__made a__deep a__lines a_open a__opened a_stack a__top a_word a_said a__x a_worth a_mate a_wasSaid a__undone a__boughtNow a_wayBy a_wayThen a__walkMost a__walkGoing a__walkSet a_kept a__drawX a_images a_imageX a_isMade ((iv_c (by decide))) h_p0 h_a__taped h_a__rules h_a__next h_a__text h_a__made h_a__lines h_a__opened h_a__top h_a__x h_a__undone H.size) (cwV 2 hT (hz_gV q_960 q_961 q_962 q_701 q_963) rfl rfl rfl (by decide +kernel) ⟨(Nat.le_of_ble_eq_true rfl), (Nat.le_of_ble_eq_true rfl)⟩) ⟨hz_C.blind, va_recv hK hP (ci := 12) (q0 := 1) rfl rfl, hz_C.mk (hP.sub (ws' := [(a, .inr (12, [.ref a_tape, .int a__taped, .int a__rules, .ref a_sign, .ref a_length, .ref a_clause, .ref a_clauses, .ref a_read, .int a__next, .int a__wrong, .int a__number, .int a__text, .int a__made, .int a__deep, .int a__lines, .ref a_open, .int a__opened, .ref a_stack, .int a__top, .ref a_word, .ref a_said, .int a__x, .ref a_worth, .ref a_mate, .ref a_wasSaid, .int a__undone, .int a__boughtNow, .ref a_wayBy, .ref a_wayThen, .int a__walkMost, .int a__walkGoing, .int a__walkSet, .ref a_kept, .long a__drawX, .ref a_images, .ref a_imageX, .ref a_isMade]))]) [1] rfl) (hD.sub (ws' := [(a, .inr (12, [.ref a_tape, .int a__taped, .int a__rules, .ref a_sign, .ref a_length, .ref a_clause, .ref a_clauses, .ref a_read, .int a__next, .int a__wrong, .int a__number, .int a__text, .int a__made, .int a__deep, .int a__lines, .ref a_open, .int a__opened, .ref a_stack, .int a__top, .ref a_word, .ref a_said, .int a__x, .ref a_worth, .ref a_mate, .ref a_wasSaid, .int a__undone, .int a__boughtNow, .ref a_wayBy, .ref a_wayThen, .int a__walkMost, .int a__walkGoing, .int a__walkSet, .ref a_kept, .long a__drawX, .ref a_images, .ref a_imageX, .ref a_isMade]))]) [1] (by decide) rfl) hE hS hFc⟩ rfl rfl hl.1 rfl (lv_room (Nat.le_of_ble_eq_true rfl)) dX12_isBuyerHere_13 ⟨(Nat.le_of_ble_eq_true rfl), (Nat.le_of_ble_eq_true rfl)⟩) hS (fun q _ h => hFc q h) hFc (fun r83 o84 t H1 locs ht hvm hw hB hz1 hk1 hS => ?_)
    obtain ⟨hP1, hD1⟩ := hB
    rw [ht] at hP1
    obtain ⟨hP, hD⟩ := va_join (wr := [(a_read, .inl (cs 0, 86, .inl a_read_c)), (a_tape, .inl (cs 1, 400, .inl a_tape_c))]) (w1 := [(a, .inr (12, [.ref a_tape, .int a__taped, .int a__rules, .ref a_sign, .ref a_length, .ref a_clause, .ref a_clauses, .ref a_read, .int a__next, .int (o84.1 1), .int a__number, .int a__text, .int a__made, .int a__deep, .int a__lines, .ref a_open, .int a__opened, .ref a_stack, .int a__top, .ref a_word, .ref a_said, .int a__x, .ref a_worth, .ref a_mate, .ref a_wasSaid, .int a__undone, .int a__boughtNow, .ref a_wayBy, .ref a_wayThen, .int a__walkMost, .int a__walkGoing, .int a__walkSet, .ref a_kept, .long a__drawX, .ref a_images, .ref a_imageX, .ref a_isMade]))]) hP hD [1] [0, 2] rfl rfl (by decide) (by decide) hk1 hFc hP1 hD1
    generalize H1 = H at hP hS ⊢
    have hP : va_P D classes [(a_read, .inl (cs 0, 86, .inl a_read_c)), (a_tape, .inl (cs 1, 400, .inl a_tape_c)), (a, .inr (12, [.ref a_tape, .int a__taped, .int a__rules, .ref a_sign, .ref a_length, .ref a_clause, .ref a_clauses, .ref a_read, .int a__next, .int (o84.1 1), .int a__number, .int a__text, .int a__made, .int a__deep, .int a__lines, .ref a_open, .int a__opened, .ref a_stack, .int a__top, .ref a_word, .ref a_said, .int a__x, .ref a_worth, .ref a_mate, .ref a_wasSaid, .int a__undone, .int a__boughtNow, .ref a_wayBy, .ref a_wayThen, .int a__walkMost, .int a__walkGoing, .int a__walkSet, .ref a_kept, .long a__drawX, .ref a_images, .ref a_imageX, .ref a_isMade]))] H := hP
    have hD : va_D A [(a_read, .inl (cs 0, 86, .inl a_read_c)), (a_tape, .inl (cs 1, 400, .inl a_tape_c)), (a, .inr (12, [.ref a_tape, .int a__taped, .int a__rules, .ref a_sign, .ref a_length, .ref a_clause, .ref a_clauses, .ref a_read, .int a__next, .int (o84.1 1), .int a__number, .int a__text, .int a__made, .int a__deep, .int a__lines, .ref a_open, .int a__opened, .ref a_stack, .int a__top, .ref a_word, .ref a_said, .int a__x, .ref a_worth, .ref a_mate, .ref a_wasSaid, .int a__undone, .int a__boughtNow, .ref a_wayBy, .ref a_wayThen, .int a__walkMost, .int a__walkGoing, .int a__walkSet, .ref a_kept, .long a__drawX, .ref a_images, .ref a_imageX, .ref a_isMade]))] := hD
    clear hk1 hFc hP1 hD1 hz1
    rcases hw with ⟨rfl, x85⟩
    refine W.widen (k := 0) (n := 0) (Nat.le_of_ble_eq_true rfl) (Nat.le_of_ble_eq_true rfl) ?_
    have g86 : a__next.toInt ≤ a__next.toInt := (by omega)
    exact W.zret (v := 0) hx hb hr rfl (fun t ht hW => ⟨⟨0, (fun k => match k with | 0 => 0 | 1 => a__number | 2 => a__next | 3 => o84.1 1 | _ => 0, fun k => match k with | 0 => a_read_c | _ => fun _ => 0), rfl, (Or.inl (⟨rfl, h_a__next, g86, hf0, x85⟩)), by rw [ht]; exact hP.sub [0, 2, 1] rfl, hD.sub [0, 2, 1] (by decide) rfl⟩, hS.F ht⟩) hS.2.2 dX12_isBuyerHere_16
