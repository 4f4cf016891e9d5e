theorem dX12_go_0 : decode cX12_go 0 = .ok (.aload_n 0, 1) := by decide +kernel
theorem dX12_go_1 : decode cX12_go 1 = .ok (.iload_n 1, 1) := by decide +kernel
theorem dX12_go_2 : decode cX12_go 2 = .ok (.invokevirtual 343, 3) := by decide +kernel
theorem dX12_go_5 : decode cX12_go 5 = .ok (.ifCond .eq 26, 3) := by decide +kernel
theorem dX12_go_8 : decode cX12_go 8 = .ok (.iload_n 2, 1) := by decide +kernel
theorem dX12_go_9 : decode cX12_go 9 = .ok (.i2l, 1) := by decide +kernel
theorem dX12_go_10 : decode cX12_go 10 = .ok (.ldc2_w 354, 3) := by decide +kernel
theorem dX12_go_13 : decode cX12_go 13 = .ok (.lconst 1, 1) := by decide +kernel
theorem dX12_go_14 : decode cX12_go 14 = .ok (.invokestatic 109, 3) := by decide +kernel
theorem dX12_go_17 : decode cX12_go 17 = .ok (.ifCond .eq 14, 3) := by decide +kernel
theorem dX12_go_20 : decode cX12_go 20 = .ok (.aload_n 0, 1) := by decide +kernel
theorem dX12_go_21 : decode cX12_go 21 = .ok (.getfield 39, 3) := by decide +kernel
theorem dX12_go_24 : decode cX12_go 24 = .ok (.iconst 3, 1) := by decide +kernel
theorem dX12_go_25 : decode cX12_go 25 = .ok (.iaload, 1) := by decide +kernel
theorem dX12_go_26 : decode cX12_go 26 = .ok (.bipush 99, 2) := by decide +kernel
theorem dX12_go_28 : decode cX12_go 28 = .ok (.if_icmp .ne 5, 3) := by decide +kernel
theorem dX12_go_31 : decode cX12_go 31 = .ok (.iconst (-1), 1) := by decide +kernel
theorem dX12_go_32 : decode cX12_go 32 = .ok (.ireturn, 1) := by decide +kernel
theorem dX12_go_33 : decode cX12_go 33 = .ok (.aload_n 0, 1) := by decide +kernel
theorem dX12_go_34 : decode cX12_go 34 = .ok (.invokevirtual 356, 3) := by decide +kernel
theorem dX12_go_37 : decode cX12_go 37 = .ok (.aload_n 0, 1) := by decide +kernel
theorem dX12_go_38 : decode cX12_go 38 = .ok (.iload_n 1, 1) := by decide +kernel
theorem dX12_go_39 : decode cX12_go 39 = .ok (.iload_n 2, 1) := by decide +kernel
theorem dX12_go_40 : decode cX12_go 40 = .ok (.invokevirtual 359, 3) := by decide +kernel
theorem dX12_go_43 : decode cX12_go 43 = .ok (.aload_n 0, 1) := by decide +kernel
theorem dX12_go_44 : decode cX12_go 44 = .ok (.invokevirtual 362, 3) := by decide +kernel
theorem dX12_go_47 : decode cX12_go 47 = .ok (.aload_n 0, 1) := by decide +kernel
theorem dX12_go_48 : decode cX12_go 48 = .ok (.getfield 39, 3) := by decide +kernel
theorem dX12_go_51 : decode cX12_go 51 = .ok (.iconst 3, 1) := by decide +kernel
theorem dX12_go_52 : decode cX12_go 52 = .ok (.iaload, 1) := by decide +kernel
theorem dX12_go_53 : decode cX12_go 53 = .ok (.ireturn, 1) := by decide +kernel
set_option maxHeartbeats 4000000 in
set_option maxRecDepth 100000 in
theorem c_X12_go (l : Launch) (D : va_G) (cs : Nat → ClassId) (kK kV : Nat → Nat) (a : Nat) (p0 : Int32) (p1 : Int32) (a_said : Nat) (a_said_c : Nat → Int32) (a_wasSaid : Nat) (a_wasSaid_c : Nat → Int32) (a_tape : Nat) (a__taped : Int32) (a__rules : Int32) (a_sign : Nat) (a_length : Nat) (a_clause : Nat) (a_clauses : Nat) (a_read : Nat) (a__next : Int32) (a__wrong : Int32) (a__number : Int32) (a__text : Int32) (a__made : Int32) (a__deep : Int32) (a__lines : Int32) (a_open : Nat) (a__opened : Int32) (a_stack : Nat) (a__top : Int32) (a_word : Nat) (a__x : Int32) (a_worth : Nat) (a_mate : Nat) (a__undone : Int32) (a__boughtNow : Int32) (a_wayBy : Nat) (a_wayThen : Nat) (a__walkMost : Int32) (a__walkGoing : Int32) (a__walkSet : Int32) (a_kept : Nat) (a__drawX : Int64) (a_images : Nat) (a_imageX : Nat) (a_isMade : Nat) (h_a__taped : IV 0 400 a__taped) (h_a__rules : IV 0 6 a__rules) (h_a__next : IV 0 400 a__next) (h_a__text : IV 0 6 a__text) (h_a__made : IV 0 60 a__made) (h_a__lines : IV 0 40 a__lines) (h_a__opened : IV 0 400 a__opened) (h_a__top : IV 0 64 a__top) (h_a__x : IV 0 2147483647 a__x) (h_a__undone : IV 0 20 a__undone) (hf0 : BS a_said_c 200) (hf1 : TR a_said_c) (hf2 : (a_said_c 3).toInt ≤ 99) (hf3 : WSN a_wasSaid_c a__undone.toInt) (sz : Nat) : Met l yX12_go (hz_w yX12_go cX12_go 3 (some .int)) ({ frames := 4, cells := 0, slots := 0, locals := 86 }) (va_Pc [.ref a, .int p0, .int p1] (hz_C D cs kK kV sz [(a_said, .inl (cs 0, 123, .inl a_said_c)), (a_wasSaid, .inl (cs 0, 1720, .inl a_wasSaid_c)), (a, .inr (12, [.ref a_tape, .int a__taped, .int a__rules, .ref a_sign, .ref a_length, .ref a_clause, .ref a_clauses, .ref a_read, .int a__next, .int a__wrong, .int a__number, .int a__text, .int a__made, .int a__deep, .int a__lines, .ref a_open, .int a__opened, .ref a_stack, .int a__top, .ref a_word, .ref a_said, .int a__x, .ref a_worth, .ref a_mate, .ref a_wasSaid, .int a__undone, .int a__boughtNow, .ref a_wayBy, .ref a_wayThen, .int a__walkMost, .int a__walkGoing, .int a__walkSet, .ref a_kept, .long a__drawX, .ref a_images, .ref a_imageX, .ref a_isMade]))])) (va_Qi (fun (r : Int32) (u : (Nat → Int32) × (Nat → Nat → Int32)) => (r = (-1) ∧ IV (-2147483648) 2147483647 p0 ∧ IV 0 20 (u.1 1) ∧ (BS (u.2 0) 200) ∧ (TR (u.2 0)) ∧ (((u.2 0) 3).toInt ≤ 99) ∧ (WSN (u.2 1) (u.1 1).toInt)) ∨ (IV 0 200 r ∧ IV 0 3 p0 ∧ IV (-1) 1 p1 ∧ IV 1 20 (u.1 1) ∧ (BS (u.2 0) 200) ∧ (TR (u.2 0)) ∧ (((u.2 0) 3).toInt ≤ 99) ∧ (WSN (u.2 1) (u.1 1).toInt))) (fun u t => va_P D classes [(a_said, .inl (cs 0, 123, .inl (u.2 0))), (a_wasSaid, .inl (cs 0, 1720, .inl (u.2 1))), (a, .inr (12, [.ref a_tape, .int a__taped, .int a__rules, .ref a_sign, .ref a_length, .ref a_clause, .ref a_clauses, .ref a_read, .int a__next, .int a__wrong, .int a__number, .int a__text, .int a__made, .int a__deep, .int a__lines, .ref a_open, .int a__opened, .ref a_stack, .int a__top, .ref a_word, .ref a_said, .int a__x, .ref a_worth, .ref a_mate, .ref a_wasSaid, .int (u.1 1), .int a__boughtNow, .ref a_wayBy, .ref a_wayThen, .int a__walkMost, .int a__walkGoing, .int a__walkSet, .ref a_kept, .long a__drawX, .ref a_images, .ref a_imageX, .ref a_isMade]))] t.heap ∧ va_D (va_A [(a_said, .inl (cs 0, 123, .inl a_said_c)), (a_wasSaid, .inl (cs 0, 1720, .inl a_wasSaid_c)), (a, .inr (12, [.ref a_tape, .int a__taped, .int a__rules, .ref a_sign, .ref a_length, .ref a_clause, .ref a_clauses, .ref a_read, .int a__next, .int a__wrong, .int a__number, .int a__text, .int a__made, .int a__deep, .int a__lines, .ref a_open, .int a__opened, .ref a_stack, .int a__top, .ref a_word, .ref a_said, .int a__x, .ref a_worth, .ref a_mate, .ref a_wasSaid, .int a__undone, .int a__boughtNow, .ref a_wayBy, .ref a_wayThen, .int a__walkMost, .int a__walkGoing, .int a__walkSet, .ref a_kept, .long a__drawX, .ref a_images, .ref a_imageX, .ref a_isMade]))] sz) [(a_said, .inl (cs 0, 123, .inl (u.2 0))), (a_wasSaid, .inl (cs 0, 1720, .inl (u.2 1))), (a, .inr (12, [.ref a_tape, .int a__taped, .int a__rules, .ref a_sign, .ref a_length, .ref a_clause, .ref a_clauses, .ref a_read, .int a__next, .int a__wrong, .int a__number, .int a__text, .int a__made, .int a__deep, .int a__lines, .ref a_open, .int a__opened, .ref a_stack, .int a__top, .ref a_word, .ref a_said, .int a__x, .ref a_worth, .ref a_mate, .ref a_wasSaid, .int (u.1 1), .int a__boughtNow, .ref a_wayBy, .ref a_wayThen, .int a__walkMost, .int a__walkGoing, .int a__walkSet, .ref a_kept, .long a__drawX, .ref a_images, .ref a_imageX, .ref a_isMade]))]) (va_A [(a_said, .inl (cs 0, 123, .inl a_said_c)), (a_wasSaid, .inl (cs 0, 1720, .inl a_wasSaid_c)), (a, .inr (12, [.ref a_tape, .int a__taped, .int a__rules, .ref a_sign, .ref a_length, .ref a_clause, .ref a_clauses, .ref a_read, .int a__next, .int a__wrong, .int a__number, .int a__text, .int a__made, .int a__deep, .int a__lines, .ref a_open, .int a__opened, .ref a_stack, .int a__top, .ref a_word, .ref a_said, .int a__x, .ref a_worth, .ref a_mate, .ref a_wasSaid, .int a__undone, .int a__boughtNow, .ref a_wayBy, .ref a_wayThen, .int a__walkMost, .int a__walkGoing, .int a__walkSet, .ref a_kept, .long a__drawX, .ref a_images, .ref a_imageX, .ref a_isMade]))] sz)) 0 0 (va_A [(a_said, .inl (cs 0, 123, .inl a_said_c)), (a_wasSaid, .inl (cs 0, 1720, .inl a_wasSaid_c)), (a, .inr (12, [.ref a_tape, .int a__taped, .int a__rules, .ref a_sign, .ref a_length, .ref a_clause, .ref a_clauses, .ref a_read, .int a__next, .int a__wrong, .int a__number, .int a__text, .int a__made, .int a__deep, .int a__lines, .ref a_open, .int a__opened, .ref a_stack, .int a__top, .ref a_word, .ref a_said, .int a__x, .ref a_worth, .ref a_mate, .ref a_wasSaid, .int a__undone, .int a__boughtNow, .ref a_wayBy, .ref a_wayThen, .int a__walkMost, .int a__walkGoing, .int a__walkSet, .ref a_kept, .long a__drawX, .ref a_images, .ref a_imageX, .ref a_isMade]))] sz) := by
  refine Met.ofW (cc := cX12_go) (maxL := 3) (ret := (some .int)) (by decide) rfl ?_
  intro p e s m args below meth c s₁ B hml hv
  obtain ⟨rfl, hsz, hP, hD0, hE⟩ := hv
  have hx := B.exec
  have hb := B.bytes
  have hr := B.returns
  have hT : ∀ w ∈ TB, w.before _ s = true := fun w h => atoms_spec (ws := hz_w yX12_go cX12_go 3 (some .int)) B.pre w (List.mem_cons_of_mem _ h)
  have hown : s.vm.findClass RX12 = some m.cls := findClass_of_methodNamed B.named
  have hlocks := B.notSynchronized
  clear B
  subst hsz
  have hD := hD0.self (sz := s.heap.size)
  generalize hAe : va_A [(a_said, .inl (cs 0, 123, .inl a_said_c)), (a_wasSaid, .inl (cs 0, 1720, .inl a_wasSaid_c)), (a, .inr (12, [.ref a_tape, .int a__taped, .int a__rules, .ref a_sign, .ref a_length, .ref a_clause, .ref a_clauses, .ref a_read, .int a__next, .int a__wrong, .int a__number, .int a__text, .int a__made, .int a__deep, .int a__lines, .ref a_open, .int a__opened, .ref a_stack, .int a__top, .ref a_word, .ref a_said, .int a__x, .ref a_worth, .ref a_mate, .ref a_wasSaid, .int a__undone, .int a__boughtNow, .ref a_wayBy, .ref a_wayThen, .int a__walkMost, .int a__walkGoing, .int a__walkSet, .ref a_kept, .long a__drawX, .ref a_images, .ref a_imageX, .ref a_isMade]))] s.heap.size = A at hD hE ⊢
  have hA : ∀ q : Nat, s.heap.size ≤ q → A q := fun q h => by rw [← hAe]; exact Or.inr h
  clear hAe hD0
  have hS : va_S A s.heap s.heap [] := va_S.rf
  have hK := hE.1
  have hl := lv_entry ([.ref a, .int p0, .int p1]) (n := 3) (Nat.le_of_ble_eq_true rfl)
  rw [lg_entry_eq]
  generalize (lg_sl ([.ref a, .int p0, .int p1]) ++ List.replicate (3 - (lg_sl ([.ref a, .int p0, .int p1])).length) Slot.unset).toArray = ls at hl ⊢
  have hl : lv_has ls 3 [(0, .ref a), (1, .int p0), (2, .int p1)] := hl
  obtain ⟨H, eH⟩ : ∃ z, z = s.heap := ⟨_, rfl⟩
  have hP : va_P D classes [(a_said, .inl (cs 0, 123, .inl a_said_c)), (a_wasSaid, .inl (cs 0, 1720, .inl a_wasSaid_c)), (a, .inr (12, [.ref a_tape, .int a__taped, .int a__rules, .ref a_sign, .ref a_length, .ref a_clause, .ref a_clauses, .ref a_read, .int a__next, .int a__wrong, .int a__number, .int a__text, .int a__made, .int a__deep, .int a__lines, .ref a_open, .int a__opened, .ref a_stack, .int a__top, .ref a_word, .ref a_said, .int a__x, .ref a_worth, .ref a_mate, .ref a_wasSaid, .int a__undone, .int a__boughtNow, .ref a_wayBy, .ref a_wayThen, .int a__walkMost, .int a__walkGoing, .int a__walkSet, .ref a_kept, .long a__drawX, .ref a_images, .ref a_imageX, .ref a_isMade]))] H := by rw [eH]; exact hP
  have hS : va_S A s.heap H [] := by rw [eH]; exact hS
  rw [← eH]
  clear eH
  obtain ⟨locs, el⟩ : ∃ z : List Loc, z = [] := ⟨_, rfl⟩
  rw [← el] at hS ⊢
  clear el
  have z0 : (0 : Int32).toInt = 0 := by decide
  have z1 : (1 : Int32).toInt = 1 := by decide
  have zm1 : (-1 : Int32).toInt = -1 := by decide
  have i_a__lines : 0 ≤ a__lines.toInt ∧ a__lines.toInt ≤ 40 := h_a__lines
  have i_a__made : 0 ≤ a__made.toInt ∧ a__made.toInt ≤ 60 := h_a__made
  have i_a__next : 0 ≤ a__next.toInt ∧ a__next.toInt ≤ 400 := h_a__next
  have i_a__opened : 0 ≤ a__opened.toInt ∧ a__opened.toInt ≤ 400 := h_a__opened
  have i_a__rules : 0 ≤ a__rules.toInt ∧ a__rules.toInt ≤ 6 := h_a__rules
  have i_a__taped : 0 ≤ a__taped.toInt ∧ a__taped.toInt ≤ 400 := h_a__taped
  have i_a__text : 0 ≤ a__text.toInt ∧ a__text.toInt ≤ 6 := h_a__text
  have i_a__top : 0 ≤ a__top.toInt ∧ a__top.toInt ≤ 64 := h_a__top
  have i_a__undone : 0 ≤ a__undone.toInt ∧ a__undone.toInt ≤ 20 := h_a__undone
  have i_a__x : 0 ≤ a__x.toInt ∧ a__x.toInt ≤ 2147483647 := h_a__x
  refine lv_aload_n hx hb dX12_go_0 rfl (lv_at hl 0 rfl) ?_
  refine lv_iload_n hx hb dX12_go_1 rfl (lv_at hl 1 rfl) ?_
  refine va_calli (va_runV (As := [.int p0]) (rest := []) ⟨hx, hb, hml, hown, hT⟩ (c_X12_isBuyer l D cs kK kV a p0 a_said a_said_c a_tape a__taped a__rules a_sign a_length a_clause a_clauses a_read a__next a__wrong a__number a__text a__made a__deep a__lines a_open a__opened a_stack a__top a_word a__x a_worth a_mate a_wasSaid a__undone a__boughtNow a_wayBy a_wayThen a__walkMost a__walkGoing a__walkSet a_kept a__drawX a_images a_imageX a_isMade h_a__taped h_a__rules h_a__next h_a__text h_a__made h_a__lines h_a__opened h_a__top h_a__x h_a__undone hf0) (cwV 1 hT (hz_gV q_1156 q_1157 q_1158 q_701 q_1159) rfl rfl rfl (by decide +kernel) ⟨(Nat.le_of_ble_eq_true rfl), (Nat.le_of_ble_eq_true rfl)⟩) ⟨hz_P.blind, va_recv hK hP (ci := 12) (q0 := 2) rfl rfl, hz_P.mk (hP.sub (ws' := [(a_said, .inl (cs 0, 123, .inl a_said_c)), (a, .inr (12, [.ref a_tape, .int a__taped, .int a__rules, .ref a_sign, .ref a_length, .ref a_clause, .ref a_clauses, .ref a_read, .int a__next, .int a__wrong, .int a__number, .int a__text, .int a__made, .int a__deep, .int a__lines, .ref a_open, .int a__opened, .ref a_stack, .int a__top, .ref a_word, .ref a_said, .int a__x, .ref a_worth, .ref a_mate, .ref a_wasSaid, .int a__undone, .int a__boughtNow, .ref a_wayBy, .ref a_wayThen, .int a__walkMost, .int a__walkGoing, .int a__walkSet, .ref a_kept, .long a__drawX, .ref a_images, .ref a_imageX, .ref a_isMade]))]) [0,2] rfl) hE hS⟩ rfl rfl hl.1 rfl (lv_room (Nat.le_of_ble_eq_true rfl)) dX12_go_2 ⟨(Nat.le_of_ble_eq_true rfl), (Nat.le_of_ble_eq_true rfl)⟩) hS (fun _ _ h => h.elim) (fun _ h => h.elim) (fun r1 u t H1 locs ht hvm hw hB hz1 hk1 hS => ?_)
  have hP := hz_keep hP hk1
  clear hk1 hB hz1
  generalize H1 = H at hP hS ⊢
  rcases hw with ⟨rfl, h2⟩ | ⟨rfl, h3, x4, x5⟩
  · have ii6 : (-2147483648) ≤ p0.toInt ∧ p0.toInt ≤ 2147483647 := h2
    refine lv_if_eq (tgt := 31) hx hb dX12_go_5 (by decide) (fun _ => ?_) (fun z => absurd (by decide) z)
    refine lv_iconst (v := (-1)) hx hb dX12_go_31 (by decide) ?_
    refine W.widen (k := 0) (n := 0) (Nat.le_of_ble_eq_true rfl) (Nat.le_of_ble_eq_true rfl) ?_
    exact W.iret (v := (-1)) hx hb hr (fun t ht hW => ⟨⟨(-1), (fun k => match k with | 0 => 0 | 1 => a__undone | _ => 0, fun k => match k with | 0 => a_said_c | 1 => a_wasSaid_c | _ => fun _ => 0), rfl, (Or.inl (⟨rfl, h2, h_a__undone, hf0, hf1, hf2, hf3⟩)), by rw [ht]; exact hP.sub [0, 1, 2] rfl, hD.sub [0, 1, 2] (by decide) rfl⟩, hS.F ht⟩) hS.2.2 dX12_go_32
  · have ii7 : 0 ≤ p0.toInt ∧ p0.toInt ≤ 3 := h3
    refine lv_if_eq (tgt := 31) hx hb dX12_go_5 (by decide) (fun z => absurd z (by decide)) (fun _ => ?_)
    refine lv_iload_n hx hb dX12_go_8 rfl (lv_at hl 2 rfl) ?_
    refine lv_i2l (v := p1.toInt64) hx hb dX12_go_9 rfl ?_
    refine lv_ldc2 hx hb hown (hT _ q_1419) dX12_go_10 ?_
    refine lv_lconst (v := 1) hx hb dX12_go_13 (by decide) ?_
    refine va_calli (va_runS (As := [.long p1.toInt64, .long (-1), .long 1]) (rest := []) ⟨hx, hb, hml, hown, hT⟩ (c_X12_in l D cs kK kV p1.toInt64 ((-1)) 1) (va_cwS 3 hT (hz_gS q_964 q_965 q_701 q_966) rfl rfl rfl (by decide +kernel) ⟨(Nat.le_of_ble_eq_true rfl), (Nat.le_of_ble_eq_true rfl)⟩) ⟨hz_P.blind, hz_P.mk (hP.sub (ws' := []) [] rfl) hE hS⟩ rfl rfl hl.1 rfl (lv_room (Nat.le_of_ble_eq_true rfl)) dX12_go_14 ⟨(Nat.le_of_ble_eq_true rfl), (Nat.le_of_ble_eq_true rfl)⟩) hS (fun _ _ h => h.elim) (fun _ h => h.elim) (fun r8 u t H1 locs ht hvm hw hB hz1 hk1 hS => ?_)
    have hP := hz_keep hP hk1
    clear hk1 hB hz1
    generalize H1 = H at hP hS ⊢
    rcases hw with ⟨rfl, x9⟩ | ⟨rfl, x10, x11⟩
    · have t12 : ¬ ((-1) ≤ p1.toInt ∧ p1.toInt ≤ 1) := fun z => x9 ⟨l64_clI z.1 (by decide), l64_lcI z.2 (by decide)⟩
      refine lv_if_eq (tgt := 31) hx hb dX12_go_17 (by decide) (fun _ => ?_) (fun z => absurd (by decide) z)
      refine lv_iconst (v := (-1)) hx hb dX12_go_31 (by decide) ?_
      refine W.widen (k := 0) (n := 0) (Nat.le_of_ble_eq_true rfl) (Nat.le_of_ble_eq_true rfl) ?_
      exact W.iret (v := (-1)) hx hb hr (fun t ht hW => ⟨⟨(-1), (fun k => match k with | 0 => 0 | 1 => a__undone | _ => 0, fun k => match k with | 0 => a_said_c | 1 => a_wasSaid_c | _ => fun _ => 0), rfl, (Or.inl (⟨rfl, (iv_w h3 (by decide) (by decide)), h_a__undone, hf0, hf1, hf2, hf3⟩)), by rw [ht]; exact hP.sub [0, 1, 2] rfl, hD.sub [0, 1, 2] (by decide) rfl⟩, hS.F ht⟩) hS.2.2 dX12_go_32
    · have h13 : IV (-1) 2147483647 p1 := ⟨l64_cle x10 (by decide), iv_top.2⟩
      have ii14 : (-1) ≤ p1.toInt ∧ p1.toInt ≤ 2147483647 := h13
      have h15 : IV (-1) 1 p1 := ⟨(h13).1, l64_lec x11 (by decide)⟩
      have ii16 : (-1) ≤ p1.toInt ∧ p1.toInt ≤ 1 := h15
      refine lv_if_eq (tgt := 31) hx hb dX12_go_17 (by decide) (fun z => absurd z (by decide)) (fun _ => ?_)
      refine lv_aload_n hx hb dX12_go_20 rfl (lv_at hl 0 rfl) ?_
      refine va_get (D := D) (ci := 12) (v := .ref a_said) (C := RX12) (T := TX12) (N := 37) hx hb hT i_X12 hown hK hP 2 rfl rfl 20 (by decide) (hT _ q_185) (fun _ h9 => h9) rfl dX12_go_21 ?_
      refine lv_iconst (v := 3) hx hb dX12_go_24 (by decide) ?_
      refine va_iald hx hb hK hP 0 0 rfl rfl (iv_vc (by decide)) dX12_go_25 ?_
      refine lv_topi (fun v17 ev17 => ?_)
      have h18 : IV 0 200 v17 := (by rw [ev17]; exact bs_i3 hf0)
      have ii19 : 0 ≤ v17.toInt ∧ v17.toInt ≤ 200 := h18
      have lv17 : v17.toInt = (a_said_c 3).toInt := by rw [ev17]; rfl
      refine lv_bipush (v := 99) hx hb dX12_go_26 (by decide) ?_
      refine lv_icmp_ne (tgt := 33) hx hb dX12_go_28 (by decide) (fun c20 => ?_) (fun c20 => ?_)
      · have t21 : v17.toInt ≠ 99 := lin_ne c20 rfl (by decide)
        refine lv_aload_n hx hb dX12_go_33 rfl (lv_at hl 0 rfl) ?_
        have hFc := va_free (wc := [(a_said, .inl (cs 0, 123, .inl a_said_c)), (a_wasSaid, .inl (cs 0, 1720, .inl a_wasSaid_c)), (a, .inr (12, [.ref a_tape, .int a__taped, .int a__rules, .ref a_sign, .ref a_length, .ref a_clause, .ref a_clauses, .ref a_read, .int a__next, .int a__wrong, .int a__number, .int a__text, .int a__made, .int a__deep, .int a__lines, .ref a_open, .int a__opened, .ref a_stack, .int a__top, .ref a_word, .ref a_said, .int a__x, .ref a_worth, .ref a_mate, .ref a_wasSaid, .int a__undone, .int a__boughtNow, .ref a_wayBy, .ref a_wayThen, .int a__walkMost, .int a__walkGoing, .int a__walkSet, .ref a_kept, .long a__drawX, .ref a_images, .ref a_imageX, .ref a_isMade]))]) hD hS hA [0,1,2] rfl
        refine va_callv (va_runV (As := []) (rest := []) ⟨hx, hb, hml, hown, hT⟩ (c_X12_keepsAct l D cs kK kV a a_said a_said_c a_wasSaid a_wasSaid_c a_tape a__taped a__rules a_sign a_length a_clause a_clauses a_read a__next a__wrong a__number a__text a__made a__deep a__lines a_open a__opened a_stack a__top a_word a__x a_worth a_mate a__undone a__boughtNow a_wayBy a_wayThen a__walkMost a__walkGoing a__walkSet a_kept a__drawX a_images a_imageX a_isMade h_a__taped h_a__rules h_a__next h_a__text h_a__made h_a__lines h_a__opened h_a__top h_a__x h_a__undone ((bs_99 hf0 (by omega))) hf3 H.size) (cwV 0 hT (hz_gV q_1168 q_1169 q_1170 q_701 q_1171) rfl rfl rfl (by decide +kernel) ⟨(Nat.le_of_ble_eq_true rfl), (Nat.le_of_ble_eq_true rfl)⟩) ⟨hz_C.blind, va_recv hK hP (ci := 12) (q0 := 2) rfl rfl, hz_C.mk (hP.sub (ws' := [(a_said, .inl (cs 0, 123, .inl a_said_c)), (a_wasSaid, .inl (cs 0, 1720, .inl a_wasSaid_c)), (a, .inr (12, [.ref a_tape, .int a__taped, .int a__rules, .ref a_sign, .ref a_length, .ref a_clause, .ref a_clauses, .ref a_read, .int a__next, .int a__wrong, .int a__number, .int a__text, .int a__made, .int a__deep, .int a__lines, .ref a_open, .int a__opened, .ref a_stack, .int a__top, .ref a_word, .ref a_said, .int a__x, .ref a_worth, .ref a_mate, .ref a_wasSaid, .int a__undone, .int a__boughtNow, .ref a_wayBy, .ref a_wayThen, .int a__walkMost, .int a__walkGoing, .int a__walkSet, .ref a_kept, .long a__drawX, .ref a_images, .ref a_imageX, .ref a_isMade]))]) [0,1,2] rfl) (hD.sub (ws' := [(a_said, .inl (cs 0, 123, .inl a_said_c)), (a_wasSaid, .inl (cs 0, 1720, .inl a_wasSaid_c)), (a, .inr (12, [.ref a_tape, .int a__taped, .int a__rules, .ref a_sign, .ref a_length, .ref a_clause, .ref a_clauses, .ref a_read, .int a__next, .int a__wrong, .int a__number, .int a__text, .int a__made, .int a__deep, .int a__lines, .ref a_open, .int a__opened, .ref a_stack, .int a__top, .ref a_word, .ref a_said, .int a__x, .ref a_worth, .ref a_mate, .ref a_wasSaid, .int a__undone, .int a__boughtNow, .ref a_wayBy, .ref a_wayThen, .int a__walkMost, .int a__walkGoing, .int a__walkSet, .ref a_kept, .long a__drawX, .ref a_images, .ref a_imageX, .ref a_isMade]))]) [0,1,2] (by decide) rfl) hE hS hFc⟩ rfl rfl hl.1 rfl (lv_room (Nat.le_of_ble_eq_true rfl)) dX12_go_34 ⟨(Nat.le_of_ble_eq_true rfl), (Nat.le_of_ble_eq_true rfl)⟩) hS (fun q _ h => hFc q h) hFc (fun o23 t H1 locs ht hvm hw hB hz1 hk1 hS => ?_)
        obtain ⟨hP1, hD1⟩ := hB
        rw [ht] at hP1
        obtain ⟨hP, hD⟩ := va_join (wr := []) (w1 := [(a_said, .inl (cs 0, 123, .inl a_said_c)), (a_wasSaid, .inl (cs 0, 1720, .inl (o23.2 0))), (a, .inr (12, [.ref a_tape, .int a__taped, .int a__rules, .ref a_sign, .ref a_length, .ref a_clause, .ref a_clauses, .ref a_read, .int a__next, .int a__wrong, .int a__number, .int a__text, .int a__made, .int a__deep, .int a__lines, .ref a_open, .int a__opened, .ref a_stack, .int a__top, .ref a_word, .ref a_said, .int a__x, .ref a_worth, .ref a_mate, .ref a_wasSaid, .int (o23.1 1), .int a__boughtNow, .ref a_wayBy, .ref a_wayThen, .int a__walkMost, .int a__walkGoing, .int a__walkSet, .ref a_kept, .long a__drawX, .ref a_images, .ref a_imageX, .ref a_isMade]))]) hP hD [0, 1, 2] [] rfl rfl (by decide) (by decide) hk1 hFc hP1 hD1
        generalize H1 = H at hP hS ⊢
        have hP : va_P D classes [(a_said, .inl (cs 0, 123, .inl a_said_c)), (a_wasSaid, .inl (cs 0, 1720, .inl (o23.2 0))), (a, .inr (12, [.ref a_tape, .int a__taped, .int a__rules, .ref a_sign, .ref a_length, .ref a_clause, .ref a_clauses, .ref a_read, .int a__next, .int a__wrong, .int a__number, .int a__text, .int a__made, .int a__deep, .int a__lines, .ref a_open, .int a__opened, .ref a_stack, .int a__top, .ref a_word, .ref a_said, .int a__x, .ref a_worth, .ref a_mate, .ref a_wasSaid, .int (o23.1 1), .int a__boughtNow, .ref a_wayBy, .ref a_wayThen, .int a__walkMost, .int a__walkGoing, .int a__walkSet, .ref a_kept, .long a__drawX, .ref a_images, .ref a_imageX, .ref a_isMade]))] H := hP
        have hD : va_D A [(a_said, .inl (cs 0, 123, .inl a_said_c)), (a_wasSaid, .inl (cs 0, 1720, .inl (o23.2 0))), (a, .inr (12, [.ref a_tape, .int a__taped, .int a__rules, .ref a_sign, .ref a_length, .ref a_clause, .ref a_clauses, .ref a_read, .int a__next, .int a__wrong, .int a__number, .int a__text, .int a__made, .int a__deep, .int a__lines, .ref a_open, .int a__opened, .ref a_stack, .int a__top, .ref a_word, .ref a_said, .int a__x, .ref a_worth, .ref a_mate, .ref a_wasSaid, .int (o23.1 1), .int a__boughtNow, .ref a_wayBy, .ref a_wayThen, .int a__walkMost, .int a__walkGoing, .int a__walkSet, .ref a_kept, .long a__drawX, .ref a_images, .ref a_imageX, .ref a_isMade]))] := hD
        clear hk1 hFc hP1 hD1 hz1
        rcases hw with ⟨h24, x25⟩
        have ii26 : 1 ≤ (o23.1 1).toInt ∧ (o23.1 1).toInt ≤ 20 := h24
        refine lv_aload_n hx hb dX12_go_37 rfl (lv_at hl 0 rfl) ?_
        refine lv_iload_n hx hb dX12_go_38 rfl (lv_at hl 1 rfl) ?_
        refine lv_iload_n hx hb dX12_go_39 rfl (lv_at hl 2 rfl) ?_
        have hFc := va_free (wc := [(a_said, .inl (cs 0, 123, .inl a_said_c)), (a, .inr (12, [.ref a_tape, .int a__taped, .int a__rules, .ref a_sign, .ref a_length, .ref a_clause, .ref a_clauses, .ref a_read, .int a__next, .int a__wrong, .int a__number, .int a__text, .int a__made, .int a__deep, .int a__lines, .ref a_open, .int a__opened, .ref a_stack, .int a__top, .ref a_word, .ref a_said, .int a__x, .ref a_worth, .ref a_mate, .ref a_wasSaid, .int (o23.1 1), .int a__boughtNow, .ref a_wayBy, .ref a_wayThen, .int a__walkMost, .int a__walkGoing, .int a__walkSet, .ref a_kept, .long a__drawX, .ref a_images, .ref a_imageX, .ref a_isMade]))]) hD hS hA [0,2] rfl
        refine va_callv (va_runV (As := [.int p0, .int p1]) (rest := []) ⟨hx, hb, hml, hown, hT⟩ (c_X12_goes l D cs kK kV a p0 p1 a_said a_said_c a_tape a__taped a__rules a_sign a_length a_clause a_clauses a_read a__next a__wrong a__number a__text a__made a__deep a__lines a_open a__opened a_stack a__top a_word a__x a_worth a_mate a_wasSaid (o23.1 1) a__boughtNow a_wayBy a_wayThen a__walkMost a__walkGoing a__walkSet a_kept a__drawX a_images a_imageX a_isMade h3 h15 h_a__taped h_a__rules h_a__next h_a__text h_a__made h_a__lines h_a__opened h_a__top h_a__x ((iv_w h24 (by decide) (by decide))) hf0 hf1 x5 H.size) (cwV 2 hT (hz_gV q_1172 q_1173 q_1174 q_701 q_1175) rfl rfl rfl (by decide +kernel) ⟨(Nat.le_of_ble_eq_true rfl), (Nat.le_of_ble_eq_true rfl)⟩) ⟨hz_C.blind, va_recv hK hP (ci := 12) (q0 := 2) rfl rfl, hz_C.mk (hP.sub (ws' := [(a_said, .inl (cs 0, 123, .inl a_said_c)), (a, .inr (12, [.ref a_tape, .int a__taped, .int a__rules, .ref a_sign, .ref a_length, .ref a_clause, .ref a_clauses, .ref a_read, .int a__next, .int a__wrong, .int a__number, .int a__text, .int a__made, .int a__deep, .int a__lines, .ref a_open, .int a__opened, .ref a_stack, .int a__top, .ref a_word, .ref a_said, .int a__x, .ref a_worth, .ref a_mate, .ref a_wasSaid, .int (o23.1 1), .int a__boughtNow, .ref a_wayBy, .ref a_wayThen, .int a__walkMost, .int a__walkGoing, .int a__walkSet, .ref a_kept, .long a__drawX, .ref a_images, .ref a_imageX, .ref a_isMade]))]) [0,2] rfl) (hD.sub (ws' := [(a_said, .inl (cs 0, 123, .inl a_said_c)), (a, .inr (12, [.ref a_tape, .int a__taped, .int a__rules, .ref a_sign, .ref a_length, .ref a_clause, .ref a_clauses, .ref a_read, .int a__next, .int a__wrong, .int a__number, .int a__text, .int a__made, .int a__deep, .int a__lines, .ref a_open, .int a__opened, .ref a_stack, .int a__top, .ref a_word, .ref a_said, .int a__x, .ref a_worth, .ref a_mate, .ref a_wasSaid, .int (o23.1 1), .int a__boughtNow, .ref a_wayBy, .ref a_wayThen, .int a__walkMost, .int a__walkGoing, .int a__walkSet, .ref a_kept, .long a__drawX, .ref a_images, .ref a_imageX, .ref a_isMade]))]) [0,2] (by decide) rfl) hE hS hFc⟩ rfl rfl hl.1 rfl (lv_room (Nat.le_of_ble_eq_true rfl)) dX12_go_40 ⟨(Nat.le_of_ble_eq_true rfl), (Nat.le_of_ble_eq_true rfl)⟩) hS (fun q _ h => hFc q h) hFc (fun o28 t H1 locs ht hvm hw hB hz1 hk1 hS => ?_)
        obtain ⟨hP1, hD1⟩ := hB
        rw [ht] at hP1
        obtain ⟨hP, hD⟩ := va_join (wr := [(a_wasSaid, .inl (cs 0, 1720, .inl (o23.2 0)))]) (w1 := [(a_said, .inl (cs 0, 123, .inl (o28.2 0))), (a, .inr (12, [.ref a_tape, .int a__taped, .int a__rules, .ref a_sign, .ref a_length, .ref a_clause, .ref a_clauses, .ref a_read, .int a__next, .int a__wrong, .int a__number, .int a__text, .int a__made, .int a__deep, .int a__lines, .ref a_open, .int a__opened, .ref a_stack, .int a__top, .ref a_word, .ref a_said, .int a__x, .ref a_worth, .ref a_mate, .ref a_wasSaid, .int (o23.1 1), .int a__boughtNow, .ref a_wayBy, .ref a_wayThen, .int a__walkMost, .int a__walkGoing, .int a__walkSet, .ref a_kept, .long a__drawX, .ref a_images, .ref a_imageX, .ref a_isMade]))]) hP hD [0, 2] [1] rfl rfl (by decide) (by decide) hk1 hFc hP1 hD1
        generalize H1 = H at hP hS ⊢
        have hP : va_P D classes [(a_wasSaid, .inl (cs 0, 1720, .inl (o23.2 0))), (a_said, .inl (cs 0, 123, .inl (o28.2 0))), (a, .inr (12, [.ref a_tape, .int a__taped, .int a__rules, .ref a_sign, .ref a_length, .ref a_clause, .ref a_clauses, .ref a_read, .int a__next, .int a__wrong, .int a__number, .int a__text, .int a__made, .int a__deep, .int a__lines, .ref a_open, .int a__opened, .ref a_stack, .int a__top, .ref a_word, .ref a_said, .int a__x, .ref a_worth, .ref a_mate, .ref a_wasSaid, .int (o23.1 1), .int a__boughtNow, .ref a_wayBy, .ref a_wayThen, .int a__walkMost, .int a__walkGoing, .int a__walkSet, .ref a_kept, .long a__drawX, .ref a_images, .ref a_imageX, .ref a_isMade]))] H := hP
        have hD : va_D A [(a_wasSaid, .inl (cs 0, 1720, .inl (o23.2 0))), (a_said, .inl (cs 0, 123, .inl (o28.2 0))), (a, .inr (12, [.ref a_tape, .int a__taped, .int a__rules, .ref a_sign, .ref a_length, .ref a_clause, .ref a_clauses, .ref a_read, .int a__next, .int a__wrong, .int a__number, .int a__text, .int a__made, .int a__deep, .int a__lines, .ref a_open, .int a__opened, .ref a_stack, .int a__top, .ref a_word, .ref a_said, .int a__x, .ref a_worth, .ref a_mate, .ref a_wasSaid, .int (o23.1 1), .int a__boughtNow, .ref a_wayBy, .ref a_wayThen, .int a__walkMost, .int a__walkGoing, .int a__walkSet, .ref a_kept, .long a__drawX, .ref a_images, .ref a_imageX, .ref a_isMade]))] := hD
        clear hk1 hFc hP1 hD1 hz1
        rcases hw with ⟨x29, x30, x31, x32, x33, x34⟩
        refine lv_aload_n hx hb dX12_go_43 rfl (lv_at hl 0 rfl) ?_
        have hFc := va_free (wc := [(a_said, .inl (cs 0, 123, .inl (o28.2 0))), (a, .inr (12, [.ref a_tape, .int a__taped, .int a__rules, .ref a_sign, .ref a_length, .ref a_clause, .ref a_clauses, .ref a_read, .int a__next, .int a__wrong, .int a__number, .int a__text, .int a__made, .int a__deep, .int a__lines, .ref a_open, .int a__opened, .ref a_stack, .int a__top, .ref a_word, .ref a_said, .int a__x, .ref a_worth, .ref a_mate, .ref a_wasSaid, .int (o23.1 1), .int a__boughtNow, .ref a_wayBy, .ref a_wayThen, .int a__walkMost, .int a__walkGoing, .int a__walkSet, .ref a_kept, .long a__drawX, .ref a_images, .ref a_imageX, .ref a_isMade]))]) hD hS hA [1,2] rfl
        refine va_callv (va_runV (As := []) (rest := []) ⟨hx, hb, hml, hown, hT⟩ (c_X12_hourComes l D cs kK kV a a_said (o28.2 0) a_tape a__taped a__rules a_sign a_length a_clause a_clauses a_read a__next a__wrong a__number a__text a__made a__deep a__lines a_open a__opened a_stack a__top a_word a__x a_worth a_mate a_wasSaid (o23.1 1) a__boughtNow a_wayBy a_wayThen a__walkMost a__walkGoing a__walkSet a_kept a__drawX a_images a_imageX a_isMade h_a__taped h_a__rules h_a__next h_a__text h_a__made h_a__lines h_a__opened h_a__top h_a__x ((iv_w h24 (by decide) (by decide))) x29 x30 ((by omega)) H.size) (cwV 0 hT (hz_gV q_1176 q_1177 q_1178 q_701 q_1179) rfl rfl rfl (by decide +kernel) ⟨(Nat.le_of_ble_eq_true rfl), (Nat.le_of_ble_eq_true rfl)⟩) ⟨hz_C.blind, va_recv hK hP (ci := 12) (q0 := 2) rfl rfl, hz_C.mk (hP.sub (ws' := [(a_said, .inl (cs 0, 123, .inl (o28.2 0))), (a, .inr (12, [.ref a_tape, .int a__taped, .int a__rules, .ref a_sign, .ref a_length, .ref a_clause, .ref a_clauses, .ref a_read, .int a__next, .int a__wrong, .int a__number, .int a__text, .int a__made, .int a__deep, .int a__lines, .ref a_open, .int a__opened, .ref a_stack, .int a__top, .ref a_word, .ref a_said, .int a__x, .ref a_worth, .ref a_mate, .ref a_wasSaid, .int (o23.1 1), .int a__boughtNow, .ref a_wayBy, .ref a_wayThen, .int a__walkMost, .int a__walkGoing, .int a__walkSet, .ref a_kept, .long a__drawX, .ref a_images, .ref a_imageX, .ref a_isMade]))]) [1,2] rfl) (hD.sub (ws' := [(a_said, .inl (cs 0, 123, .inl (o28.2 0))), (a, .inr (12, [.ref a_tape, .int a__taped, .int a__rules, .ref a_sign, .ref a_length, .ref a_clause, .ref a_clauses, .ref a_read, .int a__next, .int a__wrong, .int a__number, .int a__text, .int a__made, .int a__deep, .int a__lines, .ref a_open, .int a__opened, .ref a_stack, .int a__top, .ref a_word, .ref a_said, .int a__x, .ref a_worth, .ref a_mate, .ref a_wasSaid, .int (o23.1 1), .int a__boughtNow, .ref a_wayBy, .ref a_wayThen, .int a__walkMost, .int a__walkGoing, .int a__walkSet, .ref a_kept, .long a__drawX, .ref a_images, .ref a_imageX, .ref a_isMade]))]) [1,2] (by decide) rfl) hE hS hFc⟩ rfl rfl hl.1 rfl (lv_room (Nat.le_of_ble_eq_true rfl)) dX12_go_44 ⟨(Nat.le_of_ble_eq_true rfl), (Nat.le_of_ble_eq_true rfl)⟩) hS (fun q _ h => hFc q h) hFc (fun o36 t H1 locs ht hvm hw hB hz1 hk1 hS => ?_)
        obtain ⟨hP1, hD1⟩ := hB
        rw [ht] at hP1
        obtain ⟨hP, hD⟩ := va_join (wr := [(a_wasSaid, .inl (cs 0, 1720, .inl (o23.2 0)))]) (w1 := [(a_said, .inl (cs 0, 123, .inl (o36.2 0))), (a, .inr (12, [.ref a_tape, .int a__taped, .int a__rules, .ref a_sign, .ref a_length, .ref a_clause, .ref a_clauses, .ref a_read, .int a__next, .int a__wrong, .int a__number, .int a__text, .int a__made, .int a__deep, .int a__lines, .ref a_open, .int a__opened, .ref a_stack, .int a__top, .ref a_word, .ref a_said, .int a__x, .ref a_worth, .ref a_mate, .ref a_wasSaid, .int (o23.1 1), .int a__boughtNow, .ref a_wayBy, .ref a_wayThen, .int a__walkMost, .int a__walkGoing, .int a__walkSet, .ref a_kept, .long a__drawX, .ref a_images, .ref a_imageX, .ref a_isMade]))]) hP hD [1, 2] [0] rfl rfl (by decide) (by decide) hk1 hFc hP1 hD1
        generalize H1 = H at hP hS ⊢
        have hP : va_P D classes [(a_wasSaid, .inl (cs 0, 1720, .inl (o23.2 0))), (a_said, .inl (cs 0, 123, .inl (o36.2 0))), (a, .inr (12, [.ref a_tape, .int a__taped, .int a__rules, .ref a_sign, .ref a_length, .ref a_clause, .ref a_clauses, .ref a_read, .int a__next, .int a__wrong, .int a__number, .int a__text, .int a__made, .int a__deep, .int a__lines, .ref a_open, .int a__opened, .ref a_stack, .int a__top, .ref a_word, .ref a_said, .int a__x, .ref a_worth, .ref a_mate, .ref a_wasSaid, .int (o23.1 1), .int a__boughtNow, .ref a_wayBy, .ref a_wayThen, .int a__walkMost, .int a__walkGoing, .int a__walkSet, .ref a_kept, .long a__drawX, .ref a_images, .ref a_imageX, .ref a_isMade]))] H := hP
        have hD : va_D A [(a_wasSaid, .inl (cs 0, 1720, .inl (o23.2 0))), (a_said, .inl (cs 0, 123, .inl (o36.2 0))), (a, .inr (12, [.ref a_tape, .int a__taped, .int a__rules, .ref a_sign, .ref a_length, .ref a_clause, .ref a_clauses, .ref a_read, .int a__next, .int a__wrong, .int a__number, .int a__text, .int a__made, .int a__deep, .int a__lines, .ref a_open, .int a__opened, .ref a_stack, .int a__top, .ref a_word, .ref a_said, .int a__x, .ref a_worth, .ref a_mate, .ref a_wasSaid, .int (o23.1 1), .int a__boughtNow, .ref a_wayBy, .ref a_wayThen, .int a__walkMost, .int a__walkGoing, .int a__walkSet, .ref a_kept, .long a__drawX, .ref a_images, .ref a_imageX, .ref a_isMade]))] := hD
        clear hk1 hFc hP1 hD1 hz1
        rcases hw with ⟨x37, x38, x39⟩
        refine lv_aload_n hx hb dX12_go_47 rfl (lv_at hl 0 rfl) ?_
        refine va_get (D := D) (ci := 12) (v := .ref a_said) (C := RX12) (T := TX12) (N := 37) hx hb hT i_X12 hown hK hP 2 rfl rfl 20 (by decide) (hT _ q_185) (fun _ h9 => h9) rfl dX12_go_48 ?_
        refine lv_iconst (v := 3) hx hb dX12_go_51 (by decide) ?_
        refine va_iald hx hb hK hP 1 0 rfl rfl (iv_vc (by decide)) dX12_go_52 ?_
        refine lv_topi (fun v40 ev40 => ?_)
        have h41 : IV 0 200 v40 := (by rw [ev40]; exact bs_i3 x37)
        have ii42 : 0 ≤ v40.toInt ∧ v40.toInt ≤ 200 := h41
        have lv40 : v40.toInt = ((o36.2 0) 3).toInt := by rw [ev40]; rfl
        refine W.widen (k := 0) (n := 0) (Nat.le_of_ble_eq_true rfl) (Nat.le_of_ble_eq_true rfl) ?_
        have g43 : ((o36.2 0) 3).toInt ≤ 99 := (by omega)
        exact W.iret (v := v40) hx hb hr (fun t ht hW => ⟨⟨v40, (fun k => match k with | 0 => 0 | 1 => o23.1 1 | _ => 0, fun k => match k with | 0 => o36.2 0 | 1 => o23.2 0 | _ => fun _ => 0), rfl, (Or.inr ((⟨h41, h3, h15, h24, x37, x38, g43, x25⟩))), by rw [ht]; exact hP.sub [1, 0, 2] rfl, hD.sub [1, 0, 2] (by decide) rfl⟩, hS.F ht⟩) hS.2.2 dX12_go_53
      · have t44 : v17.toInt = 99 := lin_eqN c20 rfl (by decide)
        have h45 : IV 99 99 v17 := iv_eq1 c20 h18 (iv_c (a := 99) (b := 99) (by decide)) (by decide) (by decide)
        have ii46 : 99 ≤ v17.toInt ∧ v17.toInt ≤ 99 := h45
        refine lv_iconst (v := (-1)) hx hb dX12_go_31 (by decide) ?_
        refine W.widen (k := 0) (n := 0) (Nat.le_of_ble_eq_true rfl) (Nat.le_of_ble_eq_true rfl) ?_
        exact W.iret (v := (-1)) hx hb hr (fun t ht hW => ⟨⟨(-1), (fun k => match k with | 0 => 0 | 1 => a__undone | _ => 0, fun k => match k with | 0 => a_said_c | 1 => a_wasSaid_c | _ => fun _ => 0), rfl, (Or.inl (⟨rfl, (iv_w h3 (by decide) (by decide)), h_a__undone, hf0, hf1, hf2, hf3⟩)), by rw [ht]; exact hP.sub [0, 1, 2] rfl, hD.sub [0, 1, 2] (by decide) rfl⟩, hS.F ht⟩) hS.2.2 dX12_go_32
theorem dX12_canBuy_0 : decode cX12_canBuy 0 = .ok (.aload_n 0, 1) := by decide +kernel
theorem dX12_canBuy_1 : decode cX12_canBuy 1 = .ok (.iload_n 2, 1) := by decide +kernel
theorem dX12_canBuy_2 : decode cX12_canBuy 2 = .ok (.iconst 3, 1) := by decide +kernel
theorem dX12_canBuy_3 : decode cX12_canBuy 3 = .ok (.invokevirtual 301, 3) := by decide +kernel
theorem dX12_canBuy_6 : decode cX12_canBuy 6 = .ok (.aload_n 0, 1) := by decide +kernel
theorem dX12_canBuy_7 : decode cX12_canBuy 7 = .ok (.aload_n 0, 1) := by decide +kernel
theorem dX12_canBuy_8 : decode cX12_canBuy 8 = .ok (.iload_n 1, 1) := by decide +kernel
theorem dX12_canBuy_9 : decode cX12_canBuy 9 = .ok (.iconst 1, 1) := by decide +kernel
theorem dX12_canBuy_10 : decode cX12_canBuy 10 = .ok (.invokevirtual 314, 3) := by decide +kernel
theorem dX12_canBuy_13 : decode cX12_canBuy 13 = .ok (.aload_n 0, 1) := by decide +kernel
theorem dX12_canBuy_14 : decode cX12_canBuy 14 = .ok (.getfield 39, 3) := by decide +kernel
theorem dX12_canBuy_17 : decode cX12_canBuy 17 = .ok (.iconst 3, 1) := by decide +kernel
theorem dX12_canBuy_18 : decode cX12_canBuy 18 = .ok (.iaload, 1) := by decide +kernel
theorem dX12_canBuy_19 : decode cX12_canBuy 19 = .ok (.invokevirtual 317, 3) := by decide +kernel
theorem dX12_canBuy_22 : decode cX12_canBuy 22 = .ok (.if_icmp .ne 21, 3) := by decide +kernel
theorem dX12_canBuy_25 : decode cX12_canBuy 25 = .ok (.aload_n 0, 1) := by decide +kernel
theorem dX12_canBuy_26 : decode cX12_canBuy 26 = .ok (.iload_n 2, 1) := by decide +kernel
theorem dX12_canBuy_27 : decode cX12_canBuy 27 = .ok (.invokevirtual 340, 3) := by decide +kernel
theorem dX12_canBuy_30 : decode cX12_canBuy 30 = .ok (.aload_n 0, 1) := by decide +kernel
theorem dX12_canBuy_31 : decode cX12_canBuy 31 = .ok (.iload_n 1, 1) := by decide +kernel
theorem dX12_canBuy_32 : decode cX12_canBuy 32 = .ok (.iconst 0, 1) := by decide +kernel
theorem dX12_canBuy_33 : decode cX12_canBuy 33 = .ok (.invokevirtual 314, 3) := by decide +kernel
theorem dX12_canBuy_36 : decode cX12_canBuy 36 = .ok (.if_icmp .gt 7, 3) := by decide +kernel
theorem dX12_canBuy_39 : decode cX12_canBuy 39 = .ok (.iconst 1, 1) := by decide +kernel
theorem dX12_canBuy_40 : decode cX12_canBuy 40 = .ok (.goto 4, 3) := by decide +kernel
theorem dX12_canBuy_43 : decode cX12_canBuy 43 = .ok (.iconst 0, 1) := by decide +kernel
theorem dX12_canBuy_44 : decode cX12_canBuy 44 = .ok (.ireturn, 1) := by decide +kernel
set_option maxHeartbeats 4000000 in
set_option maxRecDepth 100000 in
theorem c_X12_canBuy (l : Launch) (D : va_G) (cs : Nat → ClassId) (kK kV : Nat → Nat) (a : Nat) (p0 : Int32) (p1 : Int32) (a_said : Nat) (a_said_c : Nat → Int32) (a_tape : Nat) (a__taped : Int32) (a__rules : Int32) (a_sign : Nat) (a_length : Nat) (a_clause : Nat) (a_clauses : Nat) (a_read : Nat) (a__next : Int32) (a__wrong : Int32) (a__number : Int32) (a__text : Int32) (a__made : Int32) (a__deep : Int32) (a__lines : Int32) (a_open : Nat) (a__opened : Int32) (a_stack : Nat) (a__top : Int32) (a_word : Nat) (a__x : Int32) (a_worth : Nat) (a_mate : Nat) (a_wasSaid : Nat) (a__undone : Int32) (a__boughtNow : Int32) (a_wayBy : Nat) (a_wayThen : Nat) (a__walkMost : Int32) (a__walkGoing : Int32) (a__walkSet : Int32) (a_kept : Nat) (a__drawX : Int64) (a_images : Nat) (a_imageX : Nat) (a_isMade : Nat) (h_p0 : IV 0 3 p0) (h_p1 : IV 0 11 p1) (h_a__taped : IV 0 400 a__taped) (h_a__rules : IV 0 6 a__rules) (h_a__next : IV 0 400 a__next) (h_a__text : IV 0 6 a__text) (h_a__made : IV 0 60 a__made) (h_a__lines : IV 0 40 a__lines) (h_a__opened : IV 0 400 a__opened) (h_a__top : IV 0 64 a__top) (h_a__x : IV 0 2147483647 a__x) (h_a__undone : IV 0 20 a__undone) (hf0 : BS a_said_c 200) (hf1 : p0.toInt < (a_said_c 2).toInt) : Met l yX12_canBuy (hz_w yX12_canBuy cX12_canBuy 3 (some .boolean)) ({ frames := 2, cells := 0, slots := 0, locals := 45 }) (va_Pc [.ref a, .int p0, .int p1] (hz_P D cs kK kV [(a_said, .inl (cs 0, 123, .inl a_said_c)), (a, .inr (12, [.ref a_tape, .int a__taped, .int a__rules, .ref a_sign, .ref a_length, .ref a_clause, .ref a_clauses, .ref a_read, .int a__next, .int a__wrong, .int a__number, .int a__text, .int a__made, .int a__deep, .int a__lines, .ref a_open, .int a__opened, .ref a_stack, .int a__top, .ref a_word, .ref a_said, .int a__x, .ref a_worth, .ref a_mate, .ref a_wasSaid, .int a__undone, .int a__boughtNow, .ref a_wayBy, .ref a_wayThen, .int a__walkMost, .int a__walkGoing, .int a__walkSet, .ref a_kept, .long a__drawX, .ref a_images, .ref a_imageX, .ref a_isMade]))])) (va_Qi (fun (r : Int32) (_ : Unit) => (r = 0) ∨ (r = 1 ∧ ((a_said_c (13 + 5 * p1.toInt.toNat)).toInt < 100))) (fun _ t => True) (fun _ => False)) 0 0 (fun _ => False) := by
  refine Met.ofW (cc := cX12_canBuy) (maxL := 3) (ret := (some .boolean)) (by decide) rfl ?_
  intro p e s m args below meth c s₁ B hml hv
  obtain ⟨rfl, hP, hE⟩ := hv
  have hx := B.exec
  have hb := B.bytes
  have hr := B.returns
  have hT : ∀ w ∈ TB, w.before _ s = true := fun w h => atoms_spec (ws := hz_w yX12_canBuy cX12_canBuy 3 (some .boolean)) B.pre w (List.mem_cons_of_mem _ h)
  have hown : s.vm.findClass RX12 = some m.cls := findClass_of_methodNamed B.named
  have hlocks := B.notSynchronized
  clear B
  have hS : va_S (fun _ => False) s.heap s.heap [] := va_S.rf
  have hK := hE.1
  have hl := lv_entry ([.ref a, .int p0, .int p1]) (n := 3) (Nat.le_of_ble_eq_true rfl)
  rw [lg_entry_eq]
  generalize (lg_sl ([.ref a, .int p0, .int p1]) ++ List.replicate (3 - (lg_sl ([.ref a, .int p0, .int p1])).length) Slot.unset).toArray = ls at hl ⊢
  have hl : lv_has ls 3 [(0, .ref a), (1, .int p0), (2, .int p1)] := hl
  obtain ⟨H, eH⟩ : ∃ z, z = s.heap := ⟨_, rfl⟩
  have hP : va_P D classes [(a_said, .inl (cs 0, 123, .inl a_said_c)), (a, .inr (12, [.ref a_tape, .int a__taped, .int a__rules, .ref a_sign, .ref a_length, .ref a_clause, .ref a_clauses, .ref a_read, .int a__next, .int a__wrong, .int a__number, .int a__text, .int a__made, .int a__deep, .int a__lines, .ref a_open, .int a__opened, .ref a_stack, .int a__top, .ref a_word, .ref a_said, .int a__x, .ref a_worth, .ref a_mate, .ref a_wasSaid, .int a__undone, .int a__boughtNow, .ref a_wayBy, .ref a_wayThen, .int a__walkMost, .int a__walkGoing, .int a__walkSet, .ref a_kept, .long a__drawX, .ref a_images, .ref a_imageX, .ref a_isMade]))] H := by rw [eH]; exact hP
  have hS : va_S (fun _ => False) s.heap H [] := by rw [eH]; exact hS
  rw [← eH]
  clear eH
  obtain ⟨locs, el⟩ : ∃ z : List Loc, z = [] := ⟨_, rfl⟩
  rw [← el] at hS ⊢
  clear el
  have z0 : (0 : Int32).toInt = 0 := by decide
  have z1 : (1 : Int32).toInt = 1 := by decide
  have zm1 : (-1 : Int32).toInt = -1 := by decide
  have i_a__lines : 0 ≤ a__lines.toInt ∧ a__lines.toInt ≤ 40 := h_a__lines
  have i_a__made : 0 ≤ a__made.toInt ∧ a__made.toInt ≤ 60 := h_a__made
  have i_a__next : 0 ≤ a__next.toInt ∧ a__next.toInt ≤ 400 := h_a__next
  have i_a__opened : 0 ≤ a__opened.toInt ∧ a__opened.toInt ≤ 400 := h_a__opened
  have i_a__rules : 0 ≤ a__rules.toInt ∧ a__rules.toInt ≤ 6 := h_a__rules
  have i_a__taped : 0 ≤ a__taped.toInt ∧ a__taped.toInt ≤ 400 := h_a__taped
  have i_a__text : 0 ≤ a__text.toInt ∧ a__text.toInt ≤ 6 := h_a__text
  have i_a__top : 0 ≤ a__top.toInt ∧ a__top.toInt ≤ 64 := h_a__top
  have i_a__undone : 0 ≤ a__undone.toInt ∧ a__undone.toInt ≤ 20 := h_a__undone
  have i_a__x : 0 ≤ a__x.toInt ∧ a__x.toInt ≤ 2147483647 := h_a__x
  have i_p0 : 0 ≤ p0.toInt ∧ p0.toInt ≤ 3 := h_p0
  have i_p1 : 0 ≤ p1.toInt ∧ p1.toInt ≤ 11 := h_p1
  refine lv_aload_n hx hb dX12_canBuy_0 rfl (lv_at hl 0 rfl) ?_
  refine lv_iload_n hx hb dX12_canBuy_1 rfl (lv_at hl 2 rfl) ?_
  refine lv_iconst (v := 3) hx hb dX12_canBuy_2 (by decide) ?_
  refine va_calli (va_runV (As := [.int p1, .int 3]) (rest := []) ⟨hx, hb, hml, hown, hT⟩ (c_X12_halfOf l D cs kK kV a p1 3 a_tape a__taped a__rules a_sign a_length a_clause a_clauses a_read a__next a__wrong a__number a__text a__made a__deep a__lines a_open a__opened a_stack a__top a_word a_said a__x a_worth a_mate a_wasSaid a__undone a__boughtNow a_wayBy a_wayThen a__walkMost a__walkGoing a__walkSet a_kept a__drawX a_images a_imageX a_isMade a_said_c h_p1 ((iv_c (by decide))) h_a__taped h_a__rules h_a__next h_a__text h_a__made h_a__lines h_a__opened h_a__top h_a__x h_a__undone) (cwV 2 hT (hz_gV q_1104 q_1105 q_1106 q_701 q_1107) rfl rfl rfl (by decide +kernel) ⟨(Nat.le_of_ble_eq_true rfl), (Nat.le_of_ble_eq_true rfl)⟩) ⟨hz_P.blind, va_recv hK hP (ci := 12) (q0 := 1) rfl rfl, hz_P.mk (hP.sub (ws' := [(a, .inr (12, [.ref a_tape, .int a__taped, .int a__rules, .ref a_sign, .ref a_length, .ref a_clause, .ref a_clauses, .ref a_read, .int a__next, .int a__wrong, .int a__number, .int a__text, .int a__made, .int a__deep, .int a__lines, .ref a_open, .int a__opened, .ref a_stack, .int a__top, .ref a_word, .ref a_said, .int a__x, .ref a_worth, .ref a_mate, .ref a_wasSaid, .int a__undone, .int a__boughtNow, .ref a_wayBy, .ref a_wayThen, .int a__walkMost, .int a__walkGoing, .int a__walkSet, .ref a_kept, .long a__drawX, .ref a_images, .ref a_imageX, .ref a_isMade])), (a_said, .inl (cs 0, 123, .inl a_said_c))]) [1,0] rfl) hE hS⟩ rfl rfl hl.1 rfl (lv_room (Nat.le_of_ble_eq_true rfl)) dX12_canBuy_3 ⟨(Nat.le_of_ble_eq_true rfl), (Nat.le_of_ble_eq_true rfl)⟩) hS (fun _ _ h => h.elim) (fun _ h => h.elim) (fun r1 u t H1 locs ht hvm hw hB hz1 hk1 hS => ?_)
  have hP := hz_keep hP hk1
  clear hk1 hB hz1
  generalize H1 = H at hP hS ⊢
  have x2 := hw
  have z3 : (3 : Int32).toInt = 3 := by decide
  refine lv_aload_n hx hb dX12_canBuy_6 rfl (lv_at hl 0 rfl) ?_
  refine lv_aload_n hx hb dX12_canBuy_7 rfl (lv_at hl 0 rfl) ?_
  refine lv_iload_n hx hb dX12_canBuy_8 rfl (lv_at hl 1 rfl) ?_
  refine lv_iconst (v := 1) hx hb dX12_canBuy_9 (by decide) ?_
  refine va_calli (va_runV (As := [.int p0, .int 1]) (rest := [.ref a, .int r1]) ⟨hx, hb, hml, hown, hT⟩ (c_X12_buyerOf l D cs kK kV a p0 1 a_said a_said_c a_tape a__taped a__rules a_sign a_length a_clause a_clauses a_read a__next a__wrong a__number a__text a__made a__deep a__lines a_open a__opened a_stack a__top a_word a__x a_worth a_mate a_wasSaid a__undone a__boughtNow a_wayBy a_wayThen a__walkMost a__walkGoing a__walkSet a_kept a__drawX a_images a_imageX a_isMade h_p0 ((iv_c (by decide))) h_a__taped h_a__rules h_a__next h_a__text h_a__made h_a__lines h_a__opened h_a__top h_a__x h_a__undone hf0) (cwV 2 hT (hz_gV q_1120 q_1121 q_1122 q_701 q_1123) rfl rfl rfl (by decide +kernel) ⟨(Nat.le_of_ble_eq_true rfl), (Nat.le_of_ble_eq_true rfl)⟩) ⟨hz_P.blind, va_recv hK hP (ci := 12) (q0 := 1) rfl rfl, hz_P.mk (hP.sub (ws' := [(a_said, .inl (cs 0, 123, .inl a_said_c)), (a, .inr (12, [.ref a_tape, .int a__taped, .int a__rules, .ref a_sign, .ref a_length, .ref a_clause, .ref a_clauses, .ref a_read, .int a__next, .int a__wrong, .int a__number, .int a__text, .int a__made, .int a__deep, .int a__lines, .ref a_open, .int a__opened, .ref a_stack, .int a__top, .ref a_word, .ref a_said, .int a__x, .ref a_worth, .ref a_mate, .ref a_wasSaid, .int a__undone, .int a__boughtNow, .ref a_wayBy, .ref a_wayThen, .int a__walkMost, .int a__walkGoing, .int a__walkSet, .ref a_kept, .long a__drawX, .ref a_images, .ref a_imageX, .ref a_isMade]))]) [0,1] rfl) hE hS⟩ rfl rfl hl.1 rfl (lv_room (Nat.le_of_ble_eq_true rfl)) dX12_canBuy_10 ⟨(Nat.le_of_ble_eq_true rfl), (Nat.le_of_ble_eq_true rfl)⟩) hS (fun _ _ h => h.elim) (fun _ h => h.elim) (fun r3 u t H1 locs ht hvm hw hB hz1 hk1 hS => ?_)
  have hP := hz_keep hP hk1
  clear hk1 hB hz1
  generalize H1 = H at hP hS ⊢
  rcases hw with ⟨x4, x5⟩
  have sp := x5 (by decide) (by omega)
  refine lv_aload_n hx hb dX12_canBuy_13 rfl (lv_at hl 0 rfl) ?_
  refine va_get (D := D) (ci := 12) (v := .ref a_said) (C := RX12) (T := TX12) (N := 37) hx hb hT i_X12 hown hK hP 1 rfl rfl 20 (by decide) (hT _ q_185) (fun _ h9 => h9) rfl dX12_canBuy_14 ?_
  refine lv_iconst (v := 3) hx hb dX12_canBuy_17 (by decide) ?_
  refine va_iald hx hb hK hP 0 0 rfl rfl (iv_vc (by decide)) dX12_canBuy_18 ?_
  refine lv_topi (fun v6 ev6 => ?_)
  have h7 : IV 0 200 v6 := (by rw [ev6]; exact bs_i3 hf0)
  have ii8 : 0 ≤ v6.toInt ∧ v6.toInt ≤ 200 := h7
  have lv6 : v6.toInt = (a_said_c 3).toInt := by rw [ev6]; rfl
  refine va_calli (va_runV (As := [.int r3, .int v6]) (rest := [.int r1]) ⟨hx, hb, hml, hown, hT⟩ (c_X12_stallAt l D cs kK kV a r3 v6 a_said a_said_c a_tape a__taped a__rules a_sign a_length a_clause a_clauses a_read a__next a__wrong a__number a__text a__made a__deep a__lines a_open a__opened a_stack a__top a_word a__x a_worth a_mate a_wasSaid a__undone a__boughtNow a_wayBy a_wayThen a__walkMost a__walkGoing a__walkSet a_kept a__drawX a_images a_imageX a_isMade ((iv_w h7 (by decide) (by decide))) h_a__taped h_a__rules h_a__next h_a__text h_a__made h_a__lines h_a__opened h_a__top h_a__x h_a__undone hf0 ((by omega)) ((by omega))) (cwV 2 hT (hz_gV q_1124 q_1125 q_1126 q_701 q_1127) rfl rfl rfl (by decide +kernel) ⟨(Nat.le_of_ble_eq_true rfl), (Nat.le_of_ble_eq_true rfl)⟩) ⟨hz_P.blind, va_recv hK hP (ci := 12) (q0 := 1) rfl rfl, hz_P.mk (hP.sub (ws' := [(a_said, .inl (cs 0, 123, .inl a_said_c)), (a, .inr (12, [.ref a_tape, .int a__taped, .int a__rules, .ref a_sign, .ref a_length, .ref a_clause, .ref a_clauses, .ref a_read, .int a__next, .int a__wrong, .int a__number, .int a__text, .int a__made, .int a__deep, .int a__lines, .ref a_open, .int a__opened, .ref a_stack, .int a__top, .ref a_word, .ref a_said, .int a__x, .ref a_worth, .ref a_mate, .ref a_wasSaid, .int a__undone, .int a__boughtNow, .ref a_wayBy, .ref a_wayThen, .int a__walkMost, .int a__walkGoing, .int a__walkSet, .ref a_kept, .long a__drawX, .ref a_images, .ref a_imageX, .ref a_isMade]))]) [0,1] rfl) hE hS⟩ rfl rfl hl.1 rfl (lv_room (Nat.le_of_ble_eq_true rfl)) dX12_canBuy_19 ⟨(Nat.le_of_ble_eq_true rfl), (Nat.le_of_ble_eq_true rfl)⟩) hS (fun _ _ h => h.elim) (fun _ h => h.elim) (fun r9 u t H1 locs ht hvm hw hB hz1 hk1 hS => ?_)
  have hP := hz_keep hP hk1
  clear hk1 hB hz1
  generalize H1 = H at hP hS ⊢
  rcases hw with ⟨h10, h11, x12⟩
  have ii13 : 0 ≤ r9.toInt ∧ r9.toInt ≤ 7 := h10
  have ii14 : (-7) ≤ r3.toInt ∧ r3.toInt ≤ 7 := h11
  refine lv_icmp_ne (tgt := 43) hx hb dX12_canBuy_22 (by decide) (fun c15 => ?_) (fun c15 => ?_)
  · have t16 : r1.toInt ≠ r9.toInt := lin_ne c15 rfl rfl
    refine lv_iconst (v := 0) hx hb dX12_canBuy_43 (by decide) ?_
    exact W.zret (v := 0) hx hb hr rfl (fun t ht hW => ⟨⟨0, (), rfl, (Or.inl (rfl)), trivial⟩, hS.F ht⟩) hS.2.2 dX12_canBuy_44
  · have t17 : r1.toInt = r9.toInt := lin_eqN c15 rfl rfl
    have h18 : IV 0 7 r1 := iv_eq1 c15 iv_top h10 (by decide) (by decide)
    have ii19 : 0 ≤ r1.toInt ∧ r1.toInt ≤ 7 := h18
    refine lv_aload_n hx hb dX12_canBuy_25 rfl (lv_at hl 0 rfl) ?_
    refine lv_iload_n hx hb dX12_canBuy_26 rfl (lv_at hl 2 rfl) ?_
    refine va_calli (va_runV (As := [.int p1]) (rest := []) ⟨hx, hb, hml, hown, hT⟩ (c_X12_priceOf l D cs kK kV a p1 a_tape a__taped a__rules a_sign a_length a_clause a_clauses a_read a__next a__wrong a__number a__text a__made a__deep a__lines a_open a__opened a_stack a__top a_word a_said a__x a_worth a_mate a_wasSaid a__undone a__boughtNow a_wayBy a_wayThen a__walkMost a__walkGoing a__walkSet a_kept a__drawX a_images a_imageX a_isMade a_said_c h_p1 h_a__taped h_a__rules h_a__next h_a__text h_a__made h_a__lines h_a__opened h_a__top h_a__x h_a__undone) (cwV 1 hT (hz_gV q_1152 q_1153 q_1154 q_701 q_1155) rfl rfl rfl (by decide +kernel) ⟨(Nat.le_of_ble_eq_true rfl), (Nat.le_of_ble_eq_true rfl)⟩) ⟨hz_P.blind, va_recv hK hP (ci := 12) (q0 := 1) rfl rfl, hz_P.mk (hP.sub (ws' := [(a, .inr (12, [.ref a_tape, .int a__taped, .int a__rules, .ref a_sign, .ref a_length, .ref a_clause, .ref a_clauses, .ref a_read, .int a__next, .int a__wrong, .int a__number, .int a__text, .int a__made, .int a__deep, .int a__lines, .ref a_open, .int a__opened, .ref a_stack, .int a__top, .ref a_word, .ref a_said, .int a__x, .ref a_worth, .ref a_mate, .ref a_wasSaid, .int a__undone, .int a__boughtNow, .ref a_wayBy, .ref a_wayThen, .int a__walkMost, .int a__walkGoing, .int a__walkSet, .ref a_kept, .long a__drawX, .ref a_images, .ref a_imageX, .ref a_isMade])), (a_said, .inl (cs 0, 123, .inl a_said_c))]) [1,0] rfl) hE hS⟩ rfl rfl hl.1 rfl (lv_room (Nat.le_of_ble_eq_true rfl)) dX12_canBuy_27 ⟨(Nat.le_of_ble_eq_true rfl), (Nat.le_of_ble_eq_true rfl)⟩) hS (fun _ _ h => h.elim) (fun _ h => h.elim) (fun r20 u t H1 locs ht hvm hw hB hz1 hk1 hS => ?_)
    have hP := hz_keep hP hk1
    clear hk1 hB hz1
    generalize H1 = H at hP hS ⊢
    refine lv_aload_n hx hb dX12_canBuy_30 rfl (lv_at hl 0 rfl) ?_
    refine lv_iload_n hx hb dX12_canBuy_31 rfl (lv_at hl 1 rfl) ?_
    refine lv_iconst (v := 0) hx hb dX12_canBuy_32 (by decide) ?_
    refine va_calli (va_runV (As := [.int p0, .int 0]) (rest := [.int r20]) ⟨hx, hb, hml, hown, hT⟩ (c_X12_buyerOf l D cs kK kV a p0 0 a_said a_said_c a_tape a__taped a__rules a_sign a_length a_clause a_clauses a_read a__next a__wrong a__number a__text a__made a__deep a__lines a_open a__opened a_stack a__top a_word a__x a_worth a_mate a_wasSaid a__undone a__boughtNow a_wayBy a_wayThen a__walkMost a__walkGoing a__walkSet a_kept a__drawX a_images a_imageX a_isMade h_p0 ((iv_c (by decide))) h_a__taped h_a__rules h_a__next h_a__text h_a__made h_a__lines h_a__opened h_a__top h_a__x h_a__undone hf0) (cwV 2 hT (hz_gV q_1120 q_1121 q_1122 q_701 q_1123) rfl rfl rfl (by decide +kernel) ⟨(Nat.le_of_ble_eq_true rfl), (Nat.le_of_ble_eq_true rfl)⟩) ⟨hz_P.blind, va_recv hK hP (ci := 12) (q0 := 1) rfl rfl, hz_P.mk (hP.sub (ws' := [(a_said, .inl (cs 0, 123, .inl a_said_c)), (a, .inr (12, [.ref a_tape, .int a__taped, .int a__rules, .ref a_sign, .ref a_length, .ref a_clause, .ref a_clauses, .ref a_read, .int a__next, .int a__wrong, .int a__number, .int a__text, .int a__made, .int a__deep, .int a__lines, .ref a_open, .int a__opened, .ref a_stack, .int a__top, .ref a_word, .ref a_said, .int a__x, .ref a_worth, .ref a_mate, .ref a_wasSaid, .int a__undone, .int a__boughtNow, .ref a_wayBy, .ref a_wayThen, .int a__walkMost, .int a__walkGoing, .int a__walkSet, .ref a_kept, .long a__drawX, .ref a_images, .ref a_imageX, .ref a_isMade]))]) [0,1] rfl) hE hS⟩ rfl rfl hl.1 rfl (lv_room (Nat.le_of_ble_eq_true rfl)) dX12_canBuy_33 ⟨(Nat.le_of_ble_eq_true rfl), (Nat.le_of_ble_eq_true rfl)⟩) hS (fun _ _ h => h.elim) (fun _ h => h.elim) (fun r21 u t H1 locs ht hvm hw hB hz1 hk1 hS => ?_)
    have hP := hz_keep hP hk1
    clear hk1 hB hz1
    generalize H1 = H at hP hS ⊢
    rcases hw with ⟨x22, x23⟩
    refine lv_icmp_gt (tgt := 43) hx hb dX12_canBuy_36 (by decide) (fun c24 => ?_) (fun c24 => ?_)
    · have t25 : r20.toInt > r21.toInt := lin_gt c24 rfl rfl
      have h26 : IV (-2147483648) 2147483646 r21 := iv_lt1 c24 iv_top iv_top (by decide)
      have ii27 : (-2147483648) ≤ r21.toInt ∧ r21.toInt ≤ 2147483646 := h26
      have h28 : IV (-2147483647) 2147483647 r20 := iv_lt2 c24 iv_top iv_top (by decide)
      have ii29 : (-2147483647) ≤ r20.toInt ∧ r20.toInt ≤ 2147483647 := h28
      refine lv_iconst (v := 0) hx hb dX12_canBuy_43 (by decide) ?_
      exact W.zret (v := 0) hx hb hr rfl (fun t ht hW => ⟨⟨0, (), rfl, (Or.inl (rfl)), trivial⟩, hS.F ht⟩) hS.2.2 dX12_canBuy_44
    · have t30 : r20.toInt ≤ r21.toInt := lin_gtN c24 rfl rfl
      refine lv_iconst (v := 1) hx hb dX12_canBuy_39 (by decide) ?_
      refine lv_goto (tgt := 44) hx hb dX12_canBuy_40 (by decide) ?_
      have g31 : (a_said_c (13 + 5 * p1.toInt.toNat)).toInt < 100 := (by rw [← (show r1 = a_said_c (13 + 5 * p1.toInt.toNat) from (by rw [x2]; congr 1; have z3 : (3 : Int32).toInt.toNat = 3 := (by decide); omega))]; omega)
      exact W.zret (v := 1) hx hb hr rfl (fun t ht hW => ⟨⟨1, (), rfl, (Or.inr ((⟨rfl, g31⟩))), trivial⟩, hS.F ht⟩) hS.2.2 dX12_canBuy_44
theorem dX12_buys_0 : decode cX12_buys 0 = .ok (.aload_n 0, 1) := by decide +kernel
theorem dX12_buys_1 : decode cX12_buys 1 = .ok (.getfield 39, 3) := by decide +kernel
theorem dX12_buys_4 : decode cX12_buys 4 = .ok (.bipush 70, 2) := by decide +kernel
theorem dX12_buys_6 : decode cX12_buys 6 = .ok (.iconst 4, 1) := by decide +kernel
theorem dX12_buys_7 : decode cX12_buys 7 = .ok (.iload_n 1, 1) := by decide +kernel
theorem dX12_buys_8 : decode cX12_buys 8 = .ok (.imul, 1) := by decide +kernel
theorem dX12_buys_9 : decode cX12_buys 9 = .ok (.iadd, 1) := by decide +kernel
theorem dX12_buys_10 : decode cX12_buys 10 = .ok (.dup2, 1) := by decide +kernel
theorem dX12_buys_11 : decode cX12_buys 11 = .ok (.iaload, 1) := by decide +kernel
theorem dX12_buys_12 : decode cX12_buys 12 = .ok (.aload_n 0, 1) := by decide +kernel
theorem dX12_buys_13 : decode cX12_buys 13 = .ok (.iload_n 2, 1) := by decide +kernel
theorem dX12_buys_14 : decode cX12_buys 14 = .ok (.invokevirtual 340, 3) := by decide +kernel
theorem dX12_buys_17 : decode cX12_buys 17 = .ok (.isub, 1) := by decide +kernel
theorem dX12_buys_18 : decode cX12_buys 18 = .ok (.iastore, 1) := by decide +kernel
theorem dX12_buys_19 : decode cX12_buys 19 = .ok (.aload_n 0, 1) := by decide +kernel
theorem dX12_buys_20 : decode cX12_buys 20 = .ok (.getfield 39, 3) := by decide +kernel
theorem dX12_buys_23 : decode cX12_buys 23 = .ok (.bipush 10, 2) := by decide +kernel
theorem dX12_buys_25 : decode cX12_buys 25 = .ok (.iconst 5, 1) := by decide +kernel
theorem dX12_buys_26 : decode cX12_buys 26 = .ok (.iload_n 2, 1) := by decide +kernel
theorem dX12_buys_27 : decode cX12_buys 27 = .ok (.imul, 1) := by decide +kernel
theorem dX12_buys_28 : decode cX12_buys 28 = .ok (.iadd, 1) := by decide +kernel
theorem dX12_buys_29 : decode cX12_buys 29 = .ok (.iconst 3, 1) := by decide +kernel
theorem dX12_buys_30 : decode cX12_buys 30 = .ok (.iadd, 1) := by decide +kernel
theorem dX12_buys_31 : decode cX12_buys 31 = .ok (.bipush 100, 2) := by decide +kernel
theorem dX12_buys_33 : decode cX12_buys 33 = .ok (.iload_n 1, 1) := by decide +kernel
theorem dX12_buys_34 : decode cX12_buys 34 = .ok (.iadd, 1) := by decide +kernel
theorem dX12_buys_35 : decode cX12_buys 35 = .ok (.iastore, 1) := by decide +kernel
theorem dX12_buys_36 : decode cX12_buys 36 = .ok (.return_, 1) := by decide +kernel
set_option maxHeartbeats 4000000 in
set_option maxRecDepth 100000 in
theorem c_X12_buys (l : Launch) (D : va_G) (cs : Nat → ClassId) (kK kV : Nat → Nat) (a : Nat) (p0 : Int32) (p1 : Int32) (a_said : Nat) (a_said_c : Nat → Int32) (a_tape : Nat) (a__taped : Int32) (a__rules : Int32) (a_sign : Nat) (a_length : Nat) (a_clause : Nat) (a_clauses : Nat) (a_read : Nat) (a__next : Int32) (a__wrong : Int32) (a__number : Int32) (a__text : Int32) (a__made : Int32) (a__deep : Int32) (a__lines : Int32) (a_open : Nat) (a__opened : Int32) (a_stack : Nat) (a__top : Int32) (a_word : Nat) (a__x : Int32) (a_worth : Nat) (a_mate : Nat) (a_wasSaid : Nat) (a__undone : Int32) (a__boughtNow : Int32) (a_wayBy : Nat) (a_wayThen : Nat) (a__walkMost : Int32) (a__walkGoing : Int32) (a__walkSet : Int32) (a_kept : Nat) (a__drawX : Int64) (a_images : Nat) (a_imageX : Nat) (a_isMade : Nat) (h_p0 : IV 0 3 p0) (h_p1 : IV 0 11 p1) (h_a__taped : IV 0 400 a__taped) (h_a__rules : IV 0 6 a__rules) (h_a__next : IV 0 400 a__next) (h_a__text : IV 0 6 a__text) (h_a__made : IV 0 60 a__made) (h_a__lines : IV 0 40 a__lines) (h_a__opened : IV 0 400 a__opened) (h_a__top : IV 0 64 a__top) (h_a__x : IV 0 2147483647 a__x) (h_a__undone : IV 0 20 a__undone) (hf0 : BS a_said_c 200) (hf1 : TR a_said_c) (sz : Nat) : Met l yX12_buys (hz_w yX12_buys cX12_buys 3 none) ({ frames := 2, cells := 0, slots := 0, locals := 43 }) (va_Pc [.ref a, .int p0, .int p1] (hz_C D cs kK kV sz [(a_said, .inl (cs 0, 123, .inl a_said_c)), (a, .inr (12, [.ref a_tape, .int a__taped, .int a__rules, .ref a_sign, .ref a_length, .ref a_clause, .ref a_clauses, .ref a_read, .int a__next, .int a__wrong, .int a__number, .int a__text, .int a__made, .int a__deep, .int a__lines, .ref a_open, .int a__opened, .ref a_stack, .int a__top, .ref a_word, .ref a_said, .int a__x, .ref a_worth, .ref a_mate, .ref a_wasSaid, .int a__undone, .int a__boughtNow, .ref a_wayBy, .ref a_wayThen, .int a__walkMost, .int a__walkGoing, .int a__walkSet, .ref a_kept, .long a__drawX, .ref a_images, .ref a_imageX, .ref a_isMade]))])) (va_Qv (fun (u : (Nat → Int32) × (Nat → Nat → Int32)) => ((BS (u.2 0) 200) ∧ (TR (u.2 0)) ∧ (((u.2 0) 3).toInt = (a_said_c 3).toInt) ∧ (((u.2 0) 0).toInt = (a_said_c 0).toInt) ∧ (((u.2 0) 1).toInt = (a_said_c 1).toInt) ∧ (((u.2 0) 2).toInt = (a_said_c 2).toInt) ∧ (MW (u.2 0) + (if (a_said_c (13 + 5 * p1.toInt.toNat)).toInt < 100 then 1 else 0) = MW a_said_c))) (fun u t => va_P D classes [(a_said, .inl (cs 0, 123, .inl (u.2 0))), (a, .inr (12, [.ref a_tape, .int a__taped, .int a__rules, .ref a_sign, .ref a_length, .ref a_clause, .ref a_clauses, .ref a_read, .int a__next, .int a__wrong, .int a__number, .int a__text, .int a__made, .int a__deep, .int a__lines, .ref a_open, .int a__opened, .ref a_stack, .int a__top, .ref a_word, .ref a_said, .int a__x, .ref a_worth, .ref a_mate, .ref a_wasSaid, .int a__undone, .int a__boughtNow, .ref a_wayBy, .ref a_wayThen, .int a__walkMost, .int a__walkGoing, .int a__walkSet, .ref a_kept, .long a__drawX, .ref a_images, .ref a_imageX, .ref a_isMade]))] t.heap ∧ va_D (va_A [(a_said, .inl (cs 0, 123, .inl a_said_c)), (a, .inr (12, [.ref a_tape, .int a__taped, .int a__rules, .ref a_sign, .ref a_length, .ref a_clause, .ref a_clauses, .ref a_read, .int a__next, .int a__wrong, .int a__number, .int a__text, .int a__made, .int a__deep, .int a__lines, .ref a_open, .int a__opened, .ref a_stack, .int a__top, .ref a_word, .ref a_said, .int a__x, .ref a_worth, .ref a_mate, .ref a_wasSaid, .int a__undone, .int a__boughtNow, .ref a_wayBy, .ref a_wayThen, .int a__walkMost, .int a__walkGoing, .int a__walkSet, .ref a_kept, .long a__drawX, .ref a_images, .ref a_imageX, .ref a_isMade]))] sz) [(a_said, .inl (cs 0, 123, .inl (u.2 0))), (a, .inr (12, [.ref a_tape, .int a__taped, .int a__rules, .ref a_sign, .ref a_length, .ref a_clause, .ref a_clauses, .ref a_read, .int a__next, .int a__wrong, .int a__number, .int a__text, .int a__made, .int a__deep, .int a__lines, .ref a_open, .int a__opened, .ref a_stack, .int a__top, .ref a_word, .ref a_said, .int a__x, .ref a_worth, .ref a_mate, .ref a_wasSaid, .int a__undone, .int a__boughtNow, .ref a_wayBy, .ref a_wayThen, .int a__walkMost, .int a__walkGoing, .int a__walkSet, .ref a_kept, .long a__drawX, .ref a_images, .ref a_imageX, .ref a_isMade]))]) (va_A [(a_said, .inl (cs 0, 123, .inl a_said_c)), (a, .inr (12, [.ref a_tape, .int a__taped, .int a__rules, .ref a_sign, .ref a_length, .ref a_clause, .ref a_clauses, .ref a_read, .int a__next, .int a__wrong, .int a__number, .int a__text, .int a__made, .int a__deep, .int a__lines, .ref a_open, .int a__opened, .ref a_stack, .int a__top, .ref a_word, .ref a_said, .int a__x, .ref a_worth, .ref a_mate, .ref a_wasSaid, .int a__undone, .int a__boughtNow, .ref a_wayBy, .ref a_wayThen, .int a__walkMost, .int a__walkGoing, .int a__walkSet, .ref a_kept, .long a__drawX, .ref a_images, .ref a_imageX, .ref a_isMade]))] sz)) 0 0 (va_A [(a_said, .inl (cs 0, 123, .inl a_said_c)), (a, .inr (12, [.ref a_tape, .int a__taped, .int a__rules, .ref a_sign, .ref a_length, .ref a_clause, .ref a_clauses, .ref a_read, .int a__next, .int a__wrong, .int a__number, .int a__text, .int a__made, .int a__deep, .int a__lines, .ref a_open, .int a__opened, .ref a_stack, .int a__top, .ref a_word, .ref a_said, .int a__x, .ref a_worth, .ref a_mate, .ref a_wasSaid, .int a__undone, .int a__boughtNow, .ref a_wayBy, .ref a_wayThen, .int a__walkMost, .int a__walkGoing, .int a__walkSet, .ref a_kept, .long a__drawX, .ref a_images, .ref a_imageX, .ref a_isMade]))] sz) := by
  refine Met.ofW (cc := cX12_buys) (maxL := 3) (ret := none) (by decide) rfl ?_
  intro p e s m args below meth c s₁ B hml hv
  obtain ⟨rfl, hsz, hP, hD0, hE⟩ := hv
  have hx := B.exec
  have hb := B.bytes
  have hr := B.returns
  have hT : ∀ w ∈ TB, w.before _ s = true := fun w h => atoms_spec (ws := hz_w yX12_buys cX12_buys 3 none) B.pre w (List.mem_cons_of_mem _ h)
  have hown : s.vm.findClass RX12 = some m.cls := findClass_of_methodNamed B.named
  have hlocks := B.notSynchronized
  clear B
  subst hsz
  have hD := hD0.self (sz := s.heap.size)
  generalize hAe : va_A [(a_said, .inl (cs 0, 123, .inl a_said_c)), (a, .inr (12, [.ref a_tape, .int a__taped, .int a__rules, .ref a_sign, .ref a_length, .ref a_clause, .ref a_clauses, .ref a_read, .int a__next, .int a__wrong, .int a__number, .int a__text, .int a__made, .int a__deep, .int a__lines, .ref a_open, .int a__opened, .ref a_stack, .int a__top, .ref a_word, .ref a_said, .int a__x, .ref a_worth, .ref a_mate, .ref a_wasSaid, .int a__undone, .int a__boughtNow, .ref a_wayBy, .ref a_wayThen, .int a__walkMost, .int a__walkGoing, .int a__walkSet, .ref a_kept, .long a__drawX, .ref a_images, .ref a_imageX, .ref a_isMade]))] s.heap.size = A at hD hE ⊢
  have hA : ∀ q : Nat, s.heap.size ≤ q → A q := fun q h => by rw [← hAe]; exact Or.inr h
  clear hAe hD0
  have hS : va_S A s.heap s.heap [] := va_S.rf
  have hK := hE.1
  have hl := lv_entry ([.ref a, .int p0, .int p1]) (n := 3) (Nat.le_of_ble_eq_true rfl)
  rw [lg_entry_eq]
  generalize (lg_sl ([.ref a, .int p0, .int p1]) ++ List.replicate (3 - (lg_sl ([.ref a, .int p0, .int p1])).length) Slot.unset).toArray = ls at hl ⊢
  have hl : lv_has ls 3 [(0, .ref a), (1, .int p0), (2, .int p1)] := hl
  obtain ⟨H, eH⟩ : ∃ z, z = s.heap := ⟨_, rfl⟩
  have hP : va_P D classes [(a_said, .inl (cs 0, 123, .inl a_said_c)), (a, .inr (12, [.ref a_tape, .int a__taped, .int a__rules, .ref a_sign, .ref a_length, .ref a_clause, .ref a_clauses, .ref a_read, .int a__next, .int a__wrong, .int a__number, .int a__text, .int a__made, .int a__deep, .int a__lines, .ref a_open, .int a__opened, .ref a_stack, .int a__top, .ref a_word, .ref a_said, .int a__x, .ref a_worth, .ref a_mate, .ref a_wasSaid, .int a__undone, .int a__boughtNow, .ref a_wayBy, .ref a_wayThen, .int a__walkMost, .int a__walkGoing, .int a__walkSet, .ref a_kept, .long a__drawX, .ref a_images, .ref a_imageX, .ref a_isMade]))] H := by rw [eH]; exact hP
  have hS : va_S A s.heap H [] := by rw [eH]; exact hS
  rw [← eH]
  clear eH
  obtain ⟨locs, el⟩ : ∃ z : List Loc, z = [] := ⟨_, rfl⟩
  rw [← el] at hS ⊢
  clear el
  have z0 : (0 : Int32).toInt = 0 := by decide
  have z1 : (1 : Int32).toInt = 1 := by decide
  have zm1 : (-1 : Int32).toInt = -1 := by decide
  have i_a__lines : 0 ≤ a__lines.toInt ∧ a__lines.toInt ≤ 40 := h_a__lines
  have i_a__made : 0 ≤ a__made.toInt ∧ a__made.toInt ≤ 60 := h_a__made
  have i_a__next : 0 ≤ a__next.toInt ∧ a__next.toInt ≤ 400 := h_a__next
  have i_a__opened : 0 ≤ a__opened.toInt ∧ a__opened.toInt ≤ 400 := h_a__opened
  have i_a__rules : 0 ≤ a__rules.toInt ∧ a__rules.toInt ≤ 6 := h_a__rules
  have i_a__taped : 0 ≤ a__taped.toInt ∧ a__taped.toInt ≤ 400 := h_a__taped
  have i_a__text : 0 ≤ a__text.toInt ∧ a__text.toInt ≤ 6 := h_a__text
  have i_a__top : 0 ≤ a__top.toInt ∧ a__top.toInt ≤ 64 := h_a__top
  have i_a__undone : 0 ≤ a__undone.toInt ∧ a__undone.toInt ≤ 20 := h_a__undone
  have i_a__x : 0 ≤ a__x.toInt ∧ a__x.toInt ≤ 2147483647 := h_a__x
  have i_p0 : 0 ≤ p0.toInt ∧ p0.toInt ≤ 3 := h_p0
  have i_p1 : 0 ≤ p1.toInt ∧ p1.toInt ≤ 11 := h_p1
  refine lv_aload_n hx hb dX12_buys_0 rfl (lv_at hl 0 rfl) ?_
  refine va_get (D := D) (ci := 12) (v := .ref a_said) (C := RX12) (T := TX12) (N := 37) hx hb hT i_X12 hown hK hP 1 rfl rfl 20 (by decide) (hT _ q_185) (fun _ h9 => h9) rfl dX12_buys_1 ?_
  refine lv_bipush (v := 70) hx hb dX12_buys_4 (by decide) ?_
  refine lv_iconst (v := 4) hx hb dX12_buys_6 (by decide) ?_
  refine lv_iload_n hx hb dX12_buys_7 rfl (lv_at hl 1 rfl) ?_
  refine lv_imul hx hb dX12_buys_8 ?_
  refine lv_topi (fun v1 ev1 => ?_)
  have hv1 : IV 0 12 v1 := iv_mul ev1 (iv_c (a := 4) (b := 4) (by decide)) h_p0 (by decide) (by decide) (by decide) (by decide)
  have ii2 : 0 ≤ v1.toInt ∧ v1.toInt ≤ 12 := hv1
  have lv1 : v1.toInt = 4 * p0.toInt := lin_mul ev1 (iv_c (a := 4) (b := 4) (by decide)) h_p0 (by decide) rfl (by decide) (by decide) (by decide) (by decide)
  refine lv_iadd hx hb dX12_buys_9 ?_
  refine lv_topi (fun v3 ev3 => ?_)
  have hv3 : IV 70 82 v3 := iv_add ev3 (iv_c (a := 70) (b := 70) (by decide)) hv1 (by decide) (by decide)
  have ii4 : 70 ≤ v3.toInt ∧ v3.toInt ≤ 82 := hv3
  have lv3 : v3.toInt = 70 + v1.toInt := lin_add ev3 (iv_c (a := 70) (b := 70) (by decide)) hv1 (by decide) rfl (by decide) (by decide)
  refine lv_dup2_11 hx hb dX12_buys_10 rfl rfl ?_
  refine va_iald hx hb hK hP 0 0 rfl rfl (iv_v hv3 (by decide) (by decide)) dX12_buys_11 ?_
  refine lv_topi (fun v5 ev5 => ?_)
  have lv5 : v5.toInt = (a_said_c (Int32.toNatClampNeg v3)).toInt := by rw [ev5]
  refine lv_aload_n hx hb dX12_buys_12 rfl (lv_at hl 0 rfl) ?_
  refine lv_iload_n hx hb dX12_buys_13 rfl (lv_at hl 2 rfl) ?_
  refine va_calli (va_runV (As := [.int p1]) (rest := [.int v5, .int v3, .ref a_said]) ⟨hx, hb, hml, hown, hT⟩ (c_X12_priceOf l D cs kK kV a p1 a_tape a__taped a__rules a_sign a_length a_clause a_clauses a_read a__next a__wrong a__number a__text a__made a__deep a__lines a_open a__opened a_stack a__top a_word a_said a__x a_worth a_mate a_wasSaid a__undone a__boughtNow a_wayBy a_wayThen a__walkMost a__walkGoing a__walkSet a_kept a__drawX a_images a_imageX a_isMade a_said_c h_p1 h_a__taped h_a__rules h_a__next h_a__text h_a__made h_a__lines h_a__opened h_a__top h_a__x h_a__undone) (cwV 1 hT (hz_gV q_1152 q_1153 q_1154 q_701 q_1155) rfl rfl rfl (by decide +kernel) ⟨(Nat.le_of_ble_eq_true rfl), (Nat.le_of_ble_eq_true rfl)⟩) ⟨hz_P.blind, va_recv hK hP (ci := 12) (q0 := 1) rfl rfl, hz_P.mk (hP.sub (ws' := [(a, .inr (12, [.ref a_tape, .int a__taped, .int a__rules, .ref a_sign, .ref a_length, .ref a_clause, .ref a_clauses, .ref a_read, .int a__next, .int a__wrong, .int a__number, .int a__text, .int a__made, .int a__deep, .int a__lines, .ref a_open, .int a__opened, .ref a_stack, .int a__top, .ref a_word, .ref a_said, .int a__x, .ref a_worth, .ref a_mate, .ref a_wasSaid, .int a__undone, .int a__boughtNow, .ref a_wayBy, .ref a_wayThen, .int a__walkMost, .int a__walkGoing, .int a__walkSet, .ref a_kept, .long a__drawX, .ref a_images, .ref a_imageX, .ref a_isMade])), (a_said, .inl (cs 0, 123, .inl a_said_c))]) [1,0] rfl) hE hS⟩ rfl rfl hl.1 rfl (lv_room (Nat.le_of_ble_eq_true rfl)) dX12_buys_14 ⟨(Nat.le_of_ble_eq_true rfl), (Nat.le_of_ble_eq_true rfl)⟩) hS (fun _ _ h => h.elim) (fun _ h => h.elim) (fun r6 u t H1 locs ht hvm hw hB hz1 hk1 hS => ?_)
  have hP := hz_keep hP hk1
  clear hk1 hB hz1
  generalize H1 = H at hP hS ⊢
  refine lv_isub hx hb dX12_buys_17 ?_
  refine lv_topi (fun v7 ev7 => ?_)
  refine va_iast hx hb hK hP hD hS 0 0 rfl rfl (iv_v hv3 (by decide) (by decide)) dX12_buys_18 (fun H locs hP hD hS => ?_)
  have hP : va_P D classes [(a_said, .inl (cs 0, 123, .inl (upd a_said_c (Int32.toNatClampNeg v3) v7))), (a, .inr (12, [.ref a_tape, .int a__taped, .int a__rules, .ref a_sign, .ref a_length, .ref a_clause, .ref a_clauses, .ref a_read, .int a__next, .int a__wrong, .int a__number, .int a__text, .int a__made, .int a__deep, .int a__lines, .ref a_open, .int a__opened, .ref a_stack, .int a__top, .ref a_word, .ref a_said, .int a__x, .ref a_worth, .ref a_mate, .ref a_wasSaid, .int a__undone, .int a__boughtNow, .ref a_wayBy, .ref a_wayThen, .int a__walkMost, .int a__walkGoing, .int a__walkSet, .ref a_kept, .long a__drawX, .ref a_images, .ref a_imageX, .ref a_isMade]))] H := hP
  have hD : va_D A [(a_said, .inl (cs 0, 123, .inl (upd a_said_c (Int32.toNatClampNeg v3) v7))), (a, .inr (12, [.ref a_tape, .int a__taped, .int a__rules, .ref a_sign, .ref a_length, .ref a_clause, .ref a_clauses, .ref a_read, .int a__next, .int a__wrong, .int a__number, .int a__text, .int a__made, .int a__deep, .int a__lines, .ref a_open, .int a__opened, .ref a_stack, .int a__top, .ref a_word, .ref a_said, .int a__x, .ref a_worth, .ref a_mate, .ref a_wasSaid, .int a__undone, .int a__boughtNow, .ref a_wayBy, .ref a_wayThen, .int a__walkMost, .int a__walkGoing, .int a__walkSet, .ref a_kept, .long a__drawX, .ref a_images, .ref a_imageX, .ref a_isMade]))] := hD
  obtain ⟨f8, uf8⟩ : ∃ z, z = upd a_said_c (Int32.toNatClampNeg v3) v7 := ⟨_, rfl⟩
  rw [← uf8] at hP hD
  have wf8 : (f8 (Int32.toNatClampNeg v3)).toInt = v7.toInt := lin_us uf8 rfl
  have kk9 : (f8 0).toInt = (a_said_c 0).toInt := congrArg Int32.toInt (by rw [uf8, pk_un (show 0 ≠ Int32.toNatClampNeg v3 from by (have q : Int32.toNatClampNeg v3 = v3.toInt.toNat := rfl); omega)])
  have kk10 : (f8 1).toInt = (a_said_c 1).toInt := congrArg Int32.toInt (by rw [uf8, pk_un (show 1 ≠ Int32.toNatClampNeg v3 from by (have q : Int32.toNatClampNeg v3 = v3.toInt.toNat := rfl); omega)])
  have kk11 : (f8 2).toInt = (a_said_c 2).toInt := congrArg Int32.toInt (by rw [uf8, pk_un (show 2 ≠ Int32.toNatClampNeg v3 from by (have q : Int32.toNatClampNeg v3 = v3.toInt.toNat := rfl); omega)])
  have kk12 : (f8 3).toInt = (a_said_c 3).toInt := congrArg Int32.toInt (by rw [uf8, pk_un (show 3 ≠ Int32.toNatClampNeg v3 from by (have q : Int32.toNatClampNeg v3 = v3.toInt.toNat := rfl); omega)])
  have fb13 : BS f8 200 := (bs_upd hf0 uf8 (show Int32.toNatClampNeg v3 ≠ 0 ∧ Int32.toNatClampNeg v3 ≠ 1 ∧ Int32.toNatClampNeg v3 ≠ 2 ∧ Int32.toNatClampNeg v3 ≠ 3 ∧ Int32.toNatClampNeg v3 ≠ 4 ∧ Int32.toNatClampNeg v3 ≠ 71 ∧ Int32.toNatClampNeg v3 ≠ 75 ∧ Int32.toNatClampNeg v3 ≠ 79 ∧ Int32.toNatClampNeg v3 ≠ 83 from by (have q : Int32.toNatClampNeg v3 = v3.toInt.toNat := rfl); omega))
  have fb14 : TR f8 := tr_upd hf1 uf8 (show Int32.toNatClampNeg v3 < 86 from by (have q : Int32.toNatClampNeg v3 = v3.toInt.toNat := rfl); omega)
  refine lv_aload_n hx hb dX12_buys_19 rfl (lv_at hl 0 rfl) ?_
  refine va_get (D := D) (ci := 12) (v := .ref a_said) (C := RX12) (T := TX12) (N := 37) hx hb hT i_X12 hown hK hP 1 rfl rfl 20 (by decide) (hT _ q_185) (fun _ h9 => h9) rfl dX12_buys_20 ?_
  refine lv_bipush (v := 10) hx hb dX12_buys_23 (by decide) ?_
  refine lv_iconst (v := 5) hx hb dX12_buys_25 (by decide) ?_
  refine lv_iload_n hx hb dX12_buys_26 rfl (lv_at hl 2 rfl) ?_
  refine lv_imul hx hb dX12_buys_27 ?_
  refine lv_topi (fun v15 ev15 => ?_)
  have hv15 : IV 0 55 v15 := iv_mul ev15 (iv_c (a := 5) (b := 5) (by decide)) h_p1 (by decide) (by decide) (by decide) (by decide)
  have ii16 : 0 ≤ v15.toInt ∧ v15.toInt ≤ 55 := hv15
  have lv15 : v15.toInt = 5 * p1.toInt := lin_mul ev15 (iv_c (a := 5) (b := 5) (by decide)) h_p1 (by decide) rfl (by decide) (by decide) (by decide) (by decide)
  refine lv_iadd hx hb dX12_buys_28 ?_
  refine lv_topi (fun v17 ev17 => ?_)
  have hv17 : IV 10 65 v17 := iv_add ev17 (iv_c (a := 10) (b := 10) (by decide)) hv15 (by decide) (by decide)
  have ii18 : 10 ≤ v17.toInt ∧ v17.toInt ≤ 65 := hv17
  have lv17 : v17.toInt = 10 + v15.toInt := lin_add ev17 (iv_c (a := 10) (b := 10) (by decide)) hv15 (by decide) rfl (by decide) (by decide)
  refine lv_iconst (v := 3) hx hb dX12_buys_29 (by decide) ?_
  refine lv_iadd hx hb dX12_buys_30 ?_
  refine lv_topi (fun v19 ev19 => ?_)
  have hv19 : IV 13 68 v19 := iv_add ev19 hv17 (iv_c (a := 3) (b := 3) (by decide)) (by decide) (by decide)
  have ii20 : 13 ≤ v19.toInt ∧ v19.toInt ≤ 68 := hv19
  have dv19 : v19.toInt = v17.toInt + 3 := iv_addE ev19 hv17 (iv_c (a := 3) (b := 3) (by decide)) (by decide) (by decide) (by decide)
  have lv19 : v19.toInt = v17.toInt + 3 := lin_add ev19 hv17 (iv_c (a := 3) (b := 3) (by decide)) rfl (by decide) (by decide) (by decide)
  refine lv_bipush (v := 100) hx hb dX12_buys_31 (by decide) ?_
  refine lv_iload_n hx hb dX12_buys_33 rfl (lv_at hl 1 rfl) ?_
  refine lv_iadd hx hb dX12_buys_34 ?_
  refine lv_topi (fun v21 ev21 => ?_)
  have hv21 : IV 100 103 v21 := iv_add ev21 (iv_c (a := 100) (b := 100) (by decide)) h_p0 (by decide) (by decide)
  have ii22 : 100 ≤ v21.toInt ∧ v21.toInt ≤ 103 := hv21
  have lv21 : v21.toInt = 100 + p0.toInt := lin_add ev21 (iv_c (a := 100) (b := 100) (by decide)) h_p0 (by decide) rfl (by decide) (by decide)
  refine va_iast hx hb hK hP hD hS 0 0 rfl rfl (iv_v hv19 (by decide) (by decide)) dX12_buys_35 (fun H locs hP hD hS => ?_)
  have hP : va_P D classes [(a_said, .inl (cs 0, 123, .inl (upd f8 (Int32.toNatClampNeg v19) v21))), (a, .inr (12, [.ref a_tape, .int a__taped, .int a__rules, .ref a_sign, .ref a_length, .ref a_clause, .ref a_clauses, .ref a_read, .int a__next, .int a__wrong, .int a__number, .int a__text, .int a__made, .int a__deep, .int a__lines, .ref a_open, .int a__opened, .ref a_stack, .int a__top, .ref a_word, .ref a_said, .int a__x, .ref a_worth, .ref a_mate, .ref a_wasSaid, .int a__undone, .int a__boughtNow, .ref a_wayBy, .ref a_wayThen, .int a__walkMost, .int a__walkGoing, .int a__walkSet, .ref a_kept, .long a__drawX, .ref a_images, .ref a_imageX, .ref a_isMade]))] H := hP
  have hD : va_D A [(a_said, .inl (cs 0, 123, .inl (upd f8 (Int32.toNatClampNeg v19) v21))), (a, .inr (12, [.ref a_tape, .int a__taped, .int a__rules, .ref a_sign, .ref a_length, .ref a_clause, .ref a_clauses, .ref a_read, .int a__next, .int a__wrong, .int a__number, .int a__text, .int a__made, .int a__deep, .int a__lines, .ref a_open, .int a__opened, .ref a_stack, .int a__top, .ref a_word, .ref a_said, .int a__x, .ref a_worth, .ref a_mate, .ref a_wasSaid, .int a__undone, .int a__boughtNow, .ref a_wayBy, .ref a_wayThen, .int a__walkMost, .int a__walkGoing, .int a__walkSet, .ref a_kept, .long a__drawX, .ref a_images, .ref a_imageX, .ref a_isMade]))] := hD
  obtain ⟨f23, uf23⟩ : ∃ z, z = upd f8 (Int32.toNatClampNeg v19) v21 := ⟨_, rfl⟩
  rw [← uf23] at hP hD
  have wf23 : (f23 (Int32.toNatClampNeg v19)).toInt = v21.toInt := lin_us uf23 rfl
  have kk24 : (f23 0).toInt = (f8 0).toInt := congrArg Int32.toInt (by rw [uf23, pk_un (show 0 ≠ Int32.toNatClampNeg v19 from by (have q : Int32.toNatClampNeg v19 = v19.toInt.toNat := rfl); omega)])
  have kk25 : (f23 1).toInt = (f8 1).toInt := congrArg Int32.toInt (by rw [uf23, pk_un (show 1 ≠ Int32.toNatClampNeg v19 from by (have q : Int32.toNatClampNeg v19 = v19.toInt.toNat := rfl); omega)])
  have kk26 : (f23 2).toInt = (f8 2).toInt := congrArg Int32.toInt (by rw [uf23, pk_un (show 2 ≠ Int32.toNatClampNeg v19 from by (have q : Int32.toNatClampNeg v19 = v19.toInt.toNat := rfl); omega)])
  have kk27 : (f23 3).toInt = (f8 3).toInt := congrArg Int32.toInt (by rw [uf23, pk_un (show 3 ≠ Int32.toNatClampNeg v19 from by (have q : Int32.toNatClampNeg v19 = v19.toInt.toNat := rfl); omega)])
  have fb28 : BS f23 200 := (bs_upd fb13 uf23 (show Int32.toNatClampNeg v19 ≠ 0 ∧ Int32.toNatClampNeg v19 ≠ 1 ∧ Int32.toNatClampNeg v19 ≠ 2 ∧ Int32.toNatClampNeg v19 ≠ 3 ∧ Int32.toNatClampNeg v19 ≠ 4 ∧ Int32.toNatClampNeg v19 ≠ 71 ∧ Int32.toNatClampNeg v19 ≠ 75 ∧ Int32.toNatClampNeg v19 ≠ 79 ∧ Int32.toNatClampNeg v19 ≠ 83 from by (have q : Int32.toNatClampNeg v19 = v19.toInt.toNat := rfl); omega))
  have fb29 : TR f23 := tr_upd fb14 uf23 (show Int32.toNatClampNeg v19 < 86 from by (have q : Int32.toNatClampNeg v19 = v19.toInt.toNat := rfl); omega)
  refine W.widen (k := 0) (n := 0) (Nat.le_of_ble_eq_true rfl) (Nat.le_of_ble_eq_true rfl) ?_
  have g30 : (f23 3).toInt = (a_said_c 3).toInt := (by omega)
  have g31 : (f23 0).toInt = (a_said_c 0).toInt := (by omega)
  have g32 : (f23 1).toInt = (a_said_c 1).toInt := (by omega)
  have g33 : (f23 2).toInt = (a_said_c 2).toInt := (by omega)
  have g34 : MW f23 + (if (a_said_c (13 + 5 * p1.toInt.toNat)).toInt < 100 then 1 else 0) = MW a_said_c := (MW_buy uf8 (show 70 ≤ v3.toInt.toNat by omega) uf23 (show v19.toInt.toNat = 13 + 5 * p1.toInt.toNat by omega) (by omega) (by omega))
  exact W.vret hx hb hr (fun t ht hW => ⟨⟨(fun k => match k with | 0 => 0 | _ => 0, fun k => match k with | 0 => f23 | _ => fun _ => 0), rfl, (⟨fb28, fb29, g30, g31, g32, g33, g34⟩), by rw [ht]; exact hP.sub [0, 1] rfl, hD.sub [0, 1] (by decide) rfl⟩, hS.F ht⟩) hS.2.2 dX12_buys_36
theorem dX12_buy_0 : decode cX12_buy 0 = .ok (.aload_n 0, 1) := by decide +kernel
theorem dX12_buy_1 : decode cX12_buy 1 = .ok (.iload_n 1, 1) := by decide +kernel
theorem dX12_buy_2 : decode cX12_buy 2 = .ok (.invokevirtual 343, 3) := by decide +kernel
theorem dX12_buy_5 : decode cX12_buy 5 = .ok (.ifCond .eq 20, 3) := by decide +kernel
theorem dX12_buy_8 : decode cX12_buy 8 = .ok (.aload_n 0, 1) := by decide +kernel
theorem dX12_buy_9 : decode cX12_buy 9 = .ok (.iload_n 2, 1) := by decide +kernel
theorem dX12_buy_10 : decode cX12_buy 10 = .ok (.invokevirtual 335, 3) := by decide +kernel
theorem dX12_buy_13 : decode cX12_buy 13 = .ok (.ifCond .eq 12, 3) := by decide +kernel
theorem dX12_buy_16 : decode cX12_buy 16 = .ok (.aload_n 0, 1) := by decide +kernel
theorem dX12_buy_17 : decode cX12_buy 17 = .ok (.iload_n 1, 1) := by decide +kernel
theorem dX12_buy_18 : decode cX12_buy 18 = .ok (.iload_n 2, 1) := by decide +kernel
theorem dX12_buy_19 : decode cX12_buy 19 = .ok (.invokevirtual 365, 3) := by decide +kernel
theorem dX12_buy_22 : decode cX12_buy 22 = .ok (.ifCond .ne 5, 3) := by decide +kernel
theorem dX12_buy_25 : decode cX12_buy 25 = .ok (.iconst (-1), 1) := by decide +kernel
theorem dX12_buy_26 : decode cX12_buy 26 = .ok (.ireturn, 1) := by decide +kernel
theorem dX12_buy_27 : decode cX12_buy 27 = .ok (.aload_n 0, 1) := by decide +kernel
theorem dX12_buy_28 : decode cX12_buy 28 = .ok (.invokevirtual 356, 3) := by decide +kernel
theorem dX12_buy_31 : decode cX12_buy 31 = .ok (.aload_n 0, 1) := by decide +kernel
theorem dX12_buy_32 : decode cX12_buy 32 = .ok (.iload_n 1, 1) := by decide +kernel
theorem dX12_buy_33 : decode cX12_buy 33 = .ok (.iload_n 2, 1) := by decide +kernel
theorem dX12_buy_34 : decode cX12_buy 34 = .ok (.invokevirtual 368, 3) := by decide +kernel
theorem dX12_buy_37 : decode cX12_buy 37 = .ok (.aload_n 0, 1) := by decide +kernel
theorem dX12_buy_38 : decode cX12_buy 38 = .ok (.iload_n 1, 1) := by decide +kernel
theorem dX12_buy_39 : decode cX12_buy 39 = .ok (.iconst 0, 1) := by decide +kernel
theorem dX12_buy_40 : decode cX12_buy 40 = .ok (.invokevirtual 314, 3) := by decide +kernel
theorem dX12_buy_43 : decode cX12_buy 43 = .ok (.ireturn, 1) := by decide +kernel
set_option maxHeartbeats 4000000 in
set_option maxRecDepth 100000 in
theorem c_X12_buy (l : Launch) (D : va_G) (cs : Nat → ClassId) (kK kV : Nat → Nat) (a : Nat) (p0 : Int32) (p1 : Int32) (a_said : Nat) (a_said_c : Nat → Int32) (a_wasSaid : Nat) (a_wasSaid_c : Nat → Int32) (a_tape : Nat) (a__taped : Int32) (a__rules : Int32) (a_sign : Nat) (a_length : Nat) (a_clause : Nat) (a_clauses : Nat) (a_read : Nat) (a__next : Int32) (a__wrong : Int32) (a__number : Int32) (a__text : Int32) (a__made : Int32) (a__deep : Int32) (a__lines : Int32) (a_open : Nat) (a__opened : Int32) (a_stack : Nat) (a__top : Int32) (a_word : Nat) (a__x : Int32) (a_worth : Nat) (a_mate : Nat) (a__undone : Int32) (a__boughtNow : Int32) (a_wayBy : Nat) (a_wayThen : Nat) (a__walkMost : Int32) (a__walkGoing : Int32) (a__walkSet : Int32) (a_kept : Nat) (a__drawX : Int64) (a_images : Nat) (a_imageX : Nat) (a_isMade : Nat) (h_a__taped : IV 0 400 a__taped) (h_a__rules : IV 0 6 a__rules) (h_a__next : IV 0 400 a__next) (h_a__text : IV 0 6 a__text) (h_a__made : IV 0 60 a__made) (h_a__lines : IV 0 40 a__lines) (h_a__opened : IV 0 400 a__opened) (h_a__top : IV 0 64 a__top) (h_a__x : IV 0 2147483647 a__x) (h_a__undone : IV 0 20 a__undone) (hf0 : BS a_said_c 200) (hf1 : TR a_said_c) (hf2 : (a_said_c 3).toInt ≤ 99) (hf3 : WSN a_wasSaid_c a__undone.toInt) (sz : Nat) : Met l yX12_buy (hz_w yX12_buy cX12_buy 3 (some .int)) ({ frames := 3, cells := 0, slots := 0, locals := 67 }) (va_Pc [.ref a, .int p0, .int p1] (hz_C D cs kK kV sz [(a_said, .inl (cs 0, 123, .inl a_said_c)), (a_wasSaid, .inl (cs 0, 1720, .inl a_wasSaid_c)), (a, .inr (12, [.ref a_tape, .int a__taped, .int a__rules, .ref a_sign, .ref a_length, .ref a_clause, .ref a_clauses, .ref a_read, .int a__next, .int a__wrong, .int a__number, .int a__text, .int a__made, .int a__deep, .int a__lines, .ref a_open, .int a__opened, .ref a_stack, .int a__top, .ref a_word, .ref a_said, .int a__x, .ref a_worth, .ref a_mate, .ref a_wasSaid, .int a__undone, .int a__boughtNow, .ref a_wayBy, .ref a_wayThen, .int a__walkMost, .int a__walkGoing, .int a__walkSet, .ref a_kept, .long a__drawX, .ref a_images, .ref a_imageX, .ref a_isMade]))])) (va_Qi (fun (r : Int32) (u : (Nat → Int32) × (Nat → Nat → Int32)) => (r = (-1) ∧ IV (-2147483648) 2147483647 p0 ∧ IV 0 20 (u.1 1) ∧ (BS (u.2 0) 200) ∧ (TR (u.2 0)) ∧ (((u.2 0) 3).toInt ≤ 99) ∧ (WSN (u.2 1) (u.1 1).toInt)) ∨ (IV 0 3 p0 ∧ IV 0 11 p1 ∧ IV 1 20 (u.1 1) ∧ (BS (u.2 0) 200) ∧ (TR (u.2 0)) ∧ (((u.2 0) 3).toInt ≤ 99) ∧ (WSN (u.2 1) (u.1 1).toInt))) (fun u t => va_P D classes [(a_said, .inl (cs 0, 123, .inl (u.2 0))), (a_wasSaid, .inl (cs 0, 1720, .inl (u.2 1))), (a, .inr (12, [.ref a_tape, .int a__taped, .int a__rules, .ref a_sign, .ref a_length, .ref a_clause, .ref a_clauses, .ref a_read, .int a__next, .int a__wrong, .int a__number, .int a__text, .int a__made, .int a__deep, .int a__lines, .ref a_open, .int a__opened, .ref a_stack, .int a__top, .ref a_word, .ref a_said, .int a__x, .ref a_worth, .ref a_mate, .ref a_wasSaid, .int (u.1 1), .int a__boughtNow, .ref a_wayBy, .ref a_wayThen, .int a__walkMost, .int a__walkGoing, .int a__walkSet, .ref a_kept, .long a__drawX, .ref a_images, .ref a_imageX, .ref a_isMade]))] t.heap ∧ va_D (va_A [(a_said, .inl (cs 0, 123, .inl a_said_c)), (a_wasSaid, .inl (cs 0, 1720, .inl a_wasSaid_c)), (a, .inr (12, [.ref a_tape, .int a__taped, .int a__rules, .ref a_sign, .ref a_length, .ref a_clause, .ref a_clauses, .ref a_read, .int a__next, .int a__wrong, .int a__number, .int a__text, .int a__made, .int a__deep, .int a__lines, .ref a_open, .int a__opened, .ref a_stack, .int a__top, .ref a_word, .ref a_said, .int a__x, .ref a_worth, .ref a_mate, .ref a_wasSaid, .int a__undone, .int a__boughtNow, .ref a_wayBy, .ref a_wayThen, .int a__walkMost, .int a__walkGoing, .int a__walkSet, .ref a_kept, .long a__drawX, .ref a_images, .ref a_imageX, .ref a_isMade]))] sz) [(a_said, .inl (cs 0, 123, .inl (u.2 0))), (a_wasSaid, .inl (cs 0, 1720, .inl (u.2 1))), (a, .inr (12, [.ref a_tape, .int a__taped, .int a__rules, .ref a_sign, .ref a_length, .ref a_clause, .ref a_clauses, .ref a_read, .int a__next, .int a__wrong, .int a__number, .int a__text, .int a__made, .int a__deep, .int a__lines, .ref a_open, .int a__opened, .ref a_stack, .int a__top, .ref a_word, .ref a_said, .int a__x, .ref a_worth, .ref a_mate, .ref a_wasSaid, .int (u.1 1), .int a__boughtNow, .ref a_wayBy, .ref a_wayThen, .int a__walkMost, .int a__walkGoing, .int a__walkSet, .ref a_kept, .long a__drawX, .ref a_images, .ref a_imageX, .ref a_isMade]))]) (va_A [(a_said, .inl (cs 0, 123, .inl a_said_c)), (a_wasSaid, .inl (cs 0, 1720, .inl a_wasSaid_c)), (a, .inr (12, [.ref a_tape, .int a__taped, .int a__rules, .ref a_sign, .ref a_length, .ref a_clause, .ref a_clauses, .ref a_read, .int a__next, .int a__wrong, .int a__number, .int a__text, .int a__made, .int a__deep, .int a__lines, .ref a_open, .int a__opened, .ref a_stack, .int a__top, .ref a_word, .ref a_said, .int a__x, .ref a_worth, .ref a_mate, .ref a_wasSaid, .int a__undone, .int a__boughtNow, .ref a_wayBy, .ref a_wayThen, .int a__walkMost, .int a__walkGoing, .int a__walkSet, .ref a_kept, .long a__drawX, .ref a_images, .ref a_imageX, .ref a_isMade]))] sz)) 0 0 (va_A [(a_said, .inl (cs 0, 123, .inl a_said_c)), (a_wasSaid, .inl (cs 0, 1720, .inl a_wasSaid_c)), (a, .inr (12, [.ref a_tape, .int a__taped, .int a__rules, .ref a_sign, .ref a_length, .ref a_clause, .ref a_clauses, .ref a_read, .int a__next, .int a__wrong, .int a__number, .int a__text, .int a__made, .int a__deep, .int a__lines, .ref a_open, .int a__opened, .ref a_stack, .int a__top, .ref a_word, .ref a_said, .int a__x, .ref a_worth, .ref a_mate, .ref a_wasSaid, .int a__undone, .int a__boughtNow, .ref a_wayBy, .ref a_wayThen, .int a__walkMost, .int a__walkGoing, .int a__walkSet, .ref a_kept, .long a__drawX, .ref a_images, .ref a_imageX, .ref a_isMade]))] sz) := by
  refine Met.ofW (cc := cX12_buy) (maxL := 3) (ret := (some .int)) (by decide) rfl ?_
  intro p e s m args below meth c s₁ B hml hv
  obtain ⟨rfl, hsz, hP, hD0, hE⟩ := hv
  have hx := B.exec
  have hb := B.bytes
  have hr := B.returns
  have hT : ∀ w ∈ TB, w.before _ s = true := fun w h => atoms_spec (ws := hz_w yX12_buy cX12_buy 3 (some .int)) B.pre w (List.mem_cons_of_mem _ h)
  have hown : s.vm.findClass RX12 = some m.cls := findClass_of_methodNamed B.named
  have hlocks := B.notSynchronized
  clear B
  subst hsz
  have hD := hD0.self (sz := s.heap.size)
  generalize hAe : va_A [(a_said, .inl (cs 0, 123, .inl a_said_c)), (a_wasSaid, .inl (cs 0, 1720, .inl a_wasSaid_c)), (a, .inr (12, [.ref a_tape, .int a__taped, .int a__rules, .ref a_sign, .ref a_length, .ref a_clause, .ref a_clauses, .ref a_read, .int a__next, .int a__wrong, .int a__number, .int a__text, .int a__made, .int a__deep, .int a__lines, .ref a_open, .int a__opened, .ref a_stack, .int a__top, .ref a_word, .ref a_said, .int a__x, .ref a_worth, .ref a_mate, .ref a_wasSaid, .int a__undone, .int a__boughtNow, .ref a_wayBy, .ref a_wayThen, .int a__walkMost, .int a__walkGoing, .int a__walkSet, .ref a_kept, .long a__drawX, .ref a_images, .ref a_imageX, .ref a_isMade]))] s.heap.size = A at hD hE ⊢
  have hA : ∀ q : Nat, s.heap.size ≤ q → A q := fun q h => by rw [← hAe]; exact Or.inr h
  clear hAe hD0
  have hS : va_S A s.heap s.heap [] := va_S.rf
  have hK := hE.1
  have hl := lv_entry ([.ref a, .int p0, .int p1]) (n := 3) (Nat.le_of_ble_eq_true rfl)
  rw [lg_entry_eq]
  generalize (lg_sl ([.ref a, .int p0, .int p1]) ++ List.replicate (3 - (lg_sl ([.ref a, .int p0, .int p1])).length) Slot.unset).toArray = ls at hl ⊢
  have hl : lv_has ls 3 [(0, .ref a), (1, .int p0), (2, .int p1)] := hl
  obtain ⟨H, eH⟩ : ∃ z, z = s.heap := ⟨_, rfl⟩
  have hP : va_P D classes [(a_said, .inl (cs 0, 123, .inl a_said_c)), (a_wasSaid, .inl (cs 0, 1720, .inl a_wasSaid_c)), (a, .inr (12, [.ref a_tape, .int a__taped, .int a__rules, .ref a_sign, .ref a_length, .ref a_clause, .ref a_clauses, .ref a_read, .int a__next, .int a__wrong, .int a__number, .int a__text, .int a__made, .int a__deep, .int a__lines, .ref a_open, .int a__opened, .ref a_stack, .int a__top, .ref a_word, .ref a_said, .int a__x, .ref a_worth, .ref a_mate, .ref a_wasSaid, .int a__undone, .int a__boughtNow, .ref a_wayBy, .ref a_wayThen, .int a__walkMost, .int a__walkGoing, .int a__walkSet, .ref a_kept, .long a__drawX, .ref a_images, .ref a_imageX, .ref a_isMade]))] H := by rw [eH]; exact hP
  have hS : va_S A s.heap H [] := by rw [eH]; exact hS
  rw [← eH]
  clear eH
  obtain ⟨locs, el⟩ : ∃ z : List Loc, z = [] := ⟨_, rfl⟩
  rw [← el] at hS ⊢
  clear el
  have z0 : (0 : Int32).toInt = 0 := by decide
  have z1 : (1 : Int32).toInt = 1 := by decide
  have zm1 : (-1 : Int32).toInt = -1 := by decide
  have i_a__lines : 0 ≤ a__lines.toInt ∧ a__lines.toInt ≤ 40 := h_a__lines
  have i_a__made : 0 ≤ a__made.toInt ∧ a__made.toInt ≤ 60 := h_a__made
  have i_a__next : 0 ≤ a__next.toInt ∧ a__next.toInt ≤ 400 := h_a__next
  have i_a__opened : 0 ≤ a__opened.toInt ∧ a__opened.toInt ≤ 400 := h_a__opened
  have i_a__rules : 0 ≤ a__rules.toInt ∧ a__rules.toInt ≤ 6 := h_a__rules
  have i_a__taped : 0 ≤ a__taped.toInt ∧ a__taped.toInt ≤ 400 := h_a__taped
  have i_a__text : 0 ≤ a__text.toInt ∧ a__text.toInt ≤ 6 := h_a__text
  have i_a__top : 0 ≤ a__top.toInt ∧ a__top.toInt ≤ 64 := h_a__top
  have i_a__undone : 0 ≤ a__undone.toInt ∧ a__undone.toInt ≤ 20 := h_a__undone
  have i_a__x : 0 ≤ a__x.toInt ∧ a__x.toInt ≤ 2147483647 := h_a__x
  refine lv_aload_n hx hb dX12_buy_0 rfl (lv_at hl 0 rfl) ?_
  refine lv_iload_n hx hb dX12_buy_1 rfl (lv_at hl 1 rfl) ?_
  refine va_calli (va_runV (As := [.int p0]) (rest := []) ⟨hx, hb, hml, hown, hT⟩ (c_X12_isBuyer l D cs kK kV a p0 a_said a_said_c a_tape a__taped a__rules a_sign a_length a_clause a_clauses a_read a__next a__wrong a__number a__text a__made a__deep a__lines a_open a__opened a_stack a__top a_word a__x a_worth a_mate a_wasSaid a__undone a__boughtNow a_wayBy a_wayThen a__walkMost a__walkGoing a__walkSet a_kept a__drawX a_images a_imageX a_isMade h_a__taped h_a__rules h_a__next h_a__text h_a__made h_a__lines h_a__opened h_a__top h_a__x h_a__undone hf0) (cwV 1 hT (hz_gV q_1156 q_1157 q_1158 q_701 q_1159) rfl rfl rfl (by decide +kernel) ⟨(Nat.le_of_ble_eq_true rfl), (Nat.le_of_ble_eq_true rfl)⟩) ⟨hz_P.blind, va_recv hK hP (ci := 12) (q0 := 2) rfl rfl, hz_P.mk (hP.sub (ws' := [(a_said, .inl (cs 0, 123, .inl a_said_c)), (a, .inr (12, [.ref a_tape, .int a__taped, .int a__rules, .ref a_sign, .ref a_length, .ref a_clause, .ref a_clauses, .ref a_read, .int a__next, .int a__wrong, .int a__number, .int a__text, .int a__made, .int a__deep, .int a__lines, .ref a_open, .int a__opened, .ref a_stack, .int a__top, .ref a_word, .ref a_said, .int a__x, .ref a_worth, .ref a_mate, .ref a_wasSaid, .int a__undone, .int a__boughtNow, .ref a_wayBy, .ref a_wayThen, .int a__walkMost, .int a__walkGoing, .int a__walkSet, .ref a_kept, .long a__drawX, .ref a_images, .ref a_imageX, .ref a_isMade]))]) [0,2] rfl) hE hS⟩ rfl rfl hl.1 rfl (lv_room (Nat.le_of_ble_eq_true rfl)) dX12_buy_2 ⟨(Nat.le_of_ble_eq_true rfl), (Nat.le_of_ble_eq_true rfl)⟩) hS (fun _ _ h => h.elim) (fun _ h => h.elim) (fun r1 u t H1 locs ht hvm hw hB hz1 hk1 hS => ?_)
  have hP := hz_keep hP hk1
  clear hk1 hB hz1
  generalize H1 = H at hP hS ⊢
  rcases hw with ⟨rfl, h2⟩ | ⟨rfl, h3, x4, x5⟩
  · have ii6 : (-2147483648) ≤ p0.toInt ∧ p0.toInt ≤ 2147483647 := h2
    refine lv_if_eq (tgt := 25) hx hb dX12_buy_5 (by decide) (fun _ => ?_) (fun z => absurd (by decide) z)
    refine lv_iconst (v := (-1)) hx hb dX12_buy_25 (by decide) ?_
    refine W.widen (k := 0) (n := 0) (Nat.le_of_ble_eq_true rfl) (Nat.le_of_ble_eq_true rfl) ?_
    exact W.iret (v := (-1)) hx hb hr (fun t ht hW => ⟨⟨(-1), (fun k => match k with | 0 => 0 | 1 => a__undone | _ => 0, fun k => match k with | 0 => a_said_c | 1 => a_wasSaid_c | _ => fun _ => 0), rfl, (Or.inl (⟨rfl, h2, h_a__undone, hf0, hf1, hf2, hf3⟩)), by rw [ht]; exact hP.sub [0, 1, 2] rfl, hD.sub [0, 1, 2] (by decide) rfl⟩, hS.F ht⟩) hS.2.2 dX12_buy_26
  · have ii7 : 0 ≤ p0.toInt ∧ p0.toInt ≤ 3 := h3
    refine lv_if_eq (tgt := 25) hx hb dX12_buy_5 (by decide) (fun z => absurd z (by decide)) (fun _ => ?_)
    refine lv_aload_n hx hb dX12_buy_8 rfl (lv_at hl 0 rfl) ?_
    refine lv_iload_n hx hb dX12_buy_9 rfl (lv_at hl 2 rfl) ?_
    refine va_calli (va_runV (As := [.int p1]) (rest := []) ⟨hx, hb, hml, hown, hT⟩ (c_X12_isHalf l D cs kK kV a p1 a_said a_said_c a_tape a__taped a__rules a_sign a_length a_clause a_clauses a_read a__next a__wrong a__number a__text a__made a__deep a__lines a_open a__opened a_stack a__top a_word a__x a_worth a_mate a_wasSaid a__undone a__boughtNow a_wayBy a_wayThen a__walkMost a__walkGoing a__walkSet a_kept a__drawX a_images a_imageX a_isMade h_a__taped h_a__rules h_a__next h_a__text h_a__made h_a__lines h_a__opened h_a__top h_a__x h_a__undone hf0) (cwV 1 hT (hz_gV q_1148 q_1149 q_1150 q_701 q_1151) rfl rfl rfl (by decide +kernel) ⟨(Nat.le_of_ble_eq_true rfl), (Nat.le_of_ble_eq_true rfl)⟩) ⟨hz_P.blind, va_recv hK hP (ci := 12) (q0 := 2) rfl rfl, hz_P.mk (hP.sub (ws' := [(a_said, .inl (cs 0, 123, .inl a_said_c)), (a, .inr (12, [.ref a_tape, .int a__taped, .int a__rules, .ref a_sign, .ref a_length, .ref a_clause, .ref a_clauses, .ref a_read, .int a__next, .int a__wrong, .int a__number, .int a__text, .int a__made, .int a__deep, .int a__lines, .ref a_open, .int a__opened, .ref a_stack, .int a__top, .ref a_word, .ref a_said, .int a__x, .ref a_worth, .ref a_mate, .ref a_wasSaid, .int a__undone, .int a__boughtNow, .ref a_wayBy, .ref a_wayThen, .int a__walkMost, .int a__walkGoing, .int a__walkSet, .ref a_kept, .long a__drawX, .ref a_images, .ref a_imageX, .ref a_isMade]))]) [0,2] rfl) hE hS⟩ rfl rfl hl.1 rfl (lv_room (Nat.le_of_ble_eq_true rfl)) dX12_buy_10 ⟨(Nat.le_of_ble_eq_true rfl), (Nat.le_of_ble_eq_true rfl)⟩) hS (fun _ _ h => h.elim) (fun _ h => h.elim) (fun r8 u t H1 locs ht hvm hw hB hz1 hk1 hS => ?_)
    have hP := hz_keep hP hk1
    clear hk1 hB hz1
    generalize H1 = H at hP hS ⊢
    rcases hw with ⟨rfl, h9⟩ | ⟨rfl, h10, x11, x12⟩
    · have ii13 : (-2147483648) ≤ p1.toInt ∧ p1.toInt ≤ 2147483647 := h9
      refine lv_if_eq (tgt := 25) hx hb dX12_buy_13 (by decide) (fun _ => ?_) (fun z => absurd (by decide) z)
      refine lv_iconst (v := (-1)) hx hb dX12_buy_25 (by decide) ?_
      refine W.widen (k := 0) (n := 0) (Nat.le_of_ble_eq_true rfl) (Nat.le_of_ble_eq_true rfl) ?_
      exact W.iret (v := (-1)) hx hb hr (fun t ht hW => ⟨⟨(-1), (fun k => match k with | 0 => 0 | 1 => a__undone | _ => 0, fun k => match k with | 0 => a_said_c | 1 => a_wasSaid_c | _ => fun _ => 0), rfl, (Or.inl (⟨rfl, (iv_w h3 (by decide) (by decide)), h_a__undone, hf0, hf1, hf2, hf3⟩)), by rw [ht]; exact hP.sub [0, 1, 2] rfl, hD.sub [0, 1, 2] (by decide) rfl⟩, hS.F ht⟩) hS.2.2 dX12_buy_26
    · have ii14 : 0 ≤ p1.toInt ∧ p1.toInt ≤ 11 := h10
      refine lv_if_eq (tgt := 25) hx hb dX12_buy_13 (by decide) (fun z => absurd z (by decide)) (fun _ => ?_)
      refine lv_aload_n hx hb dX12_buy_16 rfl (lv_at hl 0 rfl) ?_
      refine lv_iload_n hx hb dX12_buy_17 rfl (lv_at hl 1 rfl) ?_
      refine lv_iload_n hx hb dX12_buy_18 rfl (lv_at hl 2 rfl) ?_
      refine va_calli (va_runV (As := [.int p0, .int p1]) (rest := []) ⟨hx, hb, hml, hown, hT⟩ (c_X12_canBuy l D cs kK kV a p0 p1 a_said a_said_c a_tape a__taped a__rules a_sign a_length a_clause a_clauses a_read a__next a__wrong a__number a__text a__made a__deep a__lines a_open a__opened a_stack a__top a_word a__x a_worth a_mate a_wasSaid a__undone a__boughtNow a_wayBy a_wayThen a__walkMost a__walkGoing a__walkSet a_kept a__drawX a_images a_imageX a_isMade h3 h10 h_a__taped h_a__rules h_a__next h_a__text h_a__made h_a__lines h_a__opened h_a__top h_a__x h_a__undone hf0 x5) (cwV 2 hT (hz_gV q_1180 q_1181 q_1182 q_701 q_1183) rfl rfl rfl (by decide +kernel) ⟨(Nat.le_of_ble_eq_true rfl), (Nat.le_of_ble_eq_true rfl)⟩) ⟨hz_P.blind, va_recv hK hP (ci := 12) (q0 := 2) rfl rfl, hz_P.mk (hP.sub (ws' := [(a_said, .inl (cs 0, 123, .inl a_said_c)), (a, .inr (12, [.ref a_tape, .int a__taped, .int a__rules, .ref a_sign, .ref a_length, .ref a_clause, .ref a_clauses, .ref a_read, .int a__next, .int a__wrong, .int a__number, .int a__text, .int a__made, .int a__deep, .int a__lines, .ref a_open, .int a__opened, .ref a_stack, .int a__top, .ref a_word, .ref a_said, .int a__x, .ref a_worth, .ref a_mate, .ref a_wasSaid, .int a__undone, .int a__boughtNow, .ref a_wayBy, .ref a_wayThen, .int a__walkMost, .int a__walkGoing, .int a__walkSet, .ref a_kept, .long a__drawX, .ref a_images, .ref a_imageX, .ref a_isMade]))]) [0,2] rfl) hE hS⟩ rfl rfl hl.1 rfl (lv_room (Nat.le_of_ble_eq_true rfl)) dX12_buy_19 ⟨(Nat.le_of_ble_eq_true rfl), (Nat.le_of_ble_eq_true rfl)⟩) hS (fun _ _ h => h.elim) (fun _ h => h.elim) (fun r15 u t H1 locs ht hvm hw hB hz1 hk1 hS => ?_)
      have hP := hz_keep hP hk1
      clear hk1 hB hz1
      generalize H1 = H at hP hS ⊢
      rcases hw with rfl | ⟨rfl, x16⟩
      · refine lv_if_ne (tgt := 27) hx hb dX12_buy_22 (by decide) (fun z => absurd (by decide) z) (fun _ => ?_)
        refine lv_iconst (v := (-1)) hx hb dX12_buy_25 (by decide) ?_
        refine W.widen (k := 0) (n := 0) (Nat.le_of_ble_eq_true rfl) (Nat.le_of_ble_eq_true rfl) ?_
        exact W.iret (v := (-1)) hx hb hr (fun t ht hW => ⟨⟨(-1), (fun k => match k with | 0 => 0 | 1 => a__undone | _ => 0, fun k => match k with | 0 => a_said_c | 1 => a_wasSaid_c | _ => fun _ => 0), rfl, (Or.inl (⟨rfl, (iv_w h3 (by decide) (by decide)), h_a__undone, hf0, hf1, hf2, hf3⟩)), by rw [ht]; exact hP.sub [0, 1, 2] rfl, hD.sub [0, 1, 2] (by decide) rfl⟩, hS.F ht⟩) hS.2.2 dX12_buy_26
      · refine lv_if_ne (tgt := 27) hx hb dX12_buy_22 (by decide) (fun _ => ?_) (fun z => absurd z (by decide))
        refine lv_aload_n hx hb dX12_buy_27 rfl (lv_at hl 0 rfl) ?_
        have hFc := va_free (wc := [(a_said, .inl (cs 0, 123, .inl a_said_c)), (a_wasSaid, .inl (cs 0, 1720, .inl a_wasSaid_c)), (a, .inr (12, [.ref a_tape, .int a__taped, .int a__rules, .ref a_sign, .ref a_length, .ref a_clause, .ref a_clauses, .ref a_read, .int a__next, .int a__wrong, .int a__number, .int a__text, .int a__made, .int a__deep, .int a__lines, .ref a_open, .int a__opened, .ref a_stack, .int a__top, .ref a_word, .ref a_said, .int a__x, .ref a_worth, .ref a_mate, .ref a_wasSaid, .int a__undone, .int a__boughtNow, .ref a_wayBy, .ref a_wayThen, .int a__walkMost, .int a__walkGoing, .int a__walkSet, .ref a_kept, .long a__drawX, .ref a_images, .ref a_imageX, .ref a_isMade]))]) hD hS hA [0,1,2] rfl
        refine va_callv (va_runV (As := []) (rest := []) ⟨hx, hb, hml, hown, hT⟩ (c_X12_keepsAct l D cs kK kV a a_said a_said_c a_wasSaid a_wasSaid_c a_tape a__taped a__rules a_sign a_length a_clause a_clauses a_read a__next a__wrong a__number a__text a__made a__deep a__lines a_open a__opened a_stack a__top a_word a__x a_worth a_mate a__undone a__boughtNow a_wayBy a_wayThen a__walkMost a__walkGoing a__walkSet a_kept a__drawX a_images a_imageX a_isMade h_a__taped h_a__rules h_a__next h_a__text h_a__made h_a__lines h_a__opened h_a__top h_a__x h_a__undone ((bs_99 hf0 (by omega))) hf3 H.size) (cwV 0 hT (hz_gV q_1168 q_1169 q_1170 q_701 q_1171) rfl rfl rfl (by decide +kernel) ⟨(Nat.le_of_ble_eq_true rfl), (Nat.le_of_ble_eq_true rfl)⟩) ⟨hz_C.blind, va_recv hK hP (ci := 12) (q0 := 2) rfl rfl, hz_C.mk (hP.sub (ws' := [(a_said, .inl (cs 0, 123, .inl a_said_c)), (a_wasSaid, .inl (cs 0, 1720, .inl a_wasSaid_c)), (a, .inr (12, [.ref a_tape, .int a__taped, .int a__rules, .ref a_sign, .ref a_length, .ref a_clause, .ref a_clauses, .ref a_read, .int a__next, .int a__wrong, .int a__number, .int a__text, .int a__made, .int a__deep, .int a__lines, .ref a_open, .int a__opened, .ref a_stack, .int a__top, .ref a_word, .ref a_said, .int a__x, .ref a_worth, .ref a_mate, .ref a_wasSaid, .int a__undone, .int a__boughtNow, .ref a_wayBy, .ref a_wayThen, .int a__walkMost, .int a__walkGoing, .int a__walkSet, .ref a_kept, .long a__drawX, .ref a_images, .ref a_imageX, .ref a_isMade]))]) [0,1,2] rfl) (hD.sub (ws' := [(a_said, .inl (cs 0, 123, .inl a_said_c)), (a_wasSaid, .inl (cs 0, 1720, .inl a_wasSaid_c)), (a, .inr (12, [.ref a_tape, .int a__taped, .int a__rules, .ref a_sign, .ref a_length, .ref a_clause, .ref a_clauses, .ref a_read, .int a__next, .int a__wrong, .int a__number, .int a__text, .int a__made, .int a__deep, .int a__lines, .ref a_open, .int a__opened, .ref a_stack, .int a__top, .ref a_word, .ref a_said, .int a__x, .ref a_worth, .ref a_mate, .ref a_wasSaid, .int a__undone, .int a__boughtNow, .ref a_wayBy, .ref a_wayThen, .int a__walkMost, .int a__walkGoing, .int a__walkSet, .ref a_kept, .long a__drawX, .ref a_images, .ref a_imageX, .ref a_isMade]))]) [0,1,2] (by decide) rfl) hE hS hFc⟩ rfl rfl hl.1 rfl (lv_room (Nat.le_of_ble_eq_true rfl)) dX12_buy_28 ⟨(Nat.le_of_ble_eq_true rfl), (Nat.le_of_ble_eq_true rfl)⟩) hS (fun q _ h => hFc q h) hFc (fun o18 t H1 locs ht hvm hw hB hz1 hk1 hS => ?_)
        obtain ⟨hP1, hD1⟩ := hB
        rw [ht] at hP1
        obtain ⟨hP, hD⟩ := va_join (wr := []) (w1 := [(a_said, .inl (cs 0, 123, .inl a_said_c)), (a_wasSaid, .inl (cs 0, 1720, .inl (o18.2 0))), (a, .inr (12, [.ref a_tape, .int a__taped, .int a__rules, .ref a_sign, .ref a_length, .ref a_clause, .ref a_clauses, .ref a_read, .int a__next, .int a__wrong, .int a__number, .int a__text, .int a__made, .int a__deep, .int a__lines, .ref a_open, .int a__opened, .ref a_stack, .int a__top, .ref a_word, .ref a_said, .int a__x, .ref a_worth, .ref a_mate, .ref a_wasSaid, .int (o18.1 1), .int a__boughtNow, .ref a_wayBy, .ref a_wayThen, .int a__walkMost, .int a__walkGoing, .int a__walkSet, .ref a_kept, .long a__drawX, .ref a_images, .ref a_imageX, .ref a_isMade]))]) hP hD [0, 1, 2] [] rfl rfl (by decide) (by decide) hk1 hFc hP1 hD1
        generalize H1 = H at hP hS ⊢
        have hP : va_P D classes [(a_said, .inl (cs 0, 123, .inl a_said_c)), (a_wasSaid, .inl (cs 0, 1720, .inl (o18.2 0))), (a, .inr (12, [.ref a_tape, .int a__taped, .int a__rules, .ref a_sign, .ref a_length, .ref a_clause, .ref a_clauses, .ref a_read, .int a__next, .int a__wrong, .int a__number, .int a__text, .int a__made, .int a__deep, .int a__lines, .ref a_open, .int a__opened, .ref a_stack, .int a__top, .ref a_word, .ref a_said, .int a__x, .ref a_worth, .ref a_mate, .ref a_wasSaid, .int (o18.1 1), .int a__boughtNow, .ref a_wayBy, .ref a_wayThen, .int a__walkMost, .int a__walkGoing, .int a__walkSet, .ref a_kept, .long a__drawX, .ref a_images, .ref a_imageX, .ref a_isMade]))] H := hP
        have hD : va_D A [(a_said, .inl (cs 0, 123, .inl a_said_c)), (a_wasSaid, .inl (cs 0, 1720, .inl (o18.2 0))), (a, .inr (12, [.ref a_tape, .int a__taped, .int a__rules, .ref a_sign, .ref a_length, .ref a_clause, .ref a_clauses, .ref a_read, .int a__next, .int a__wrong, .int a__number, .int a__text, .int a__made, .int a__deep, .int a__lines, .ref a_open, .int a__opened, .ref a_stack, .int a__top, .ref a_word, .ref a_said, .int a__x, .ref a_worth, .ref a_mate, .ref a_wasSaid, .int (o18.1 1), .int a__boughtNow, .ref a_wayBy, .ref a_wayThen, .int a__walkMost, .int a__walkGoing, .int a__walkSet, .ref a_kept, .long a__drawX, .ref a_images, .ref a_imageX, .ref a_isMade]))] := hD
        clear hk1 hFc hP1 hD1 hz1
        rcases hw with ⟨h19, x20⟩
        have ii21 : 1 ≤ (o18.1 1).toInt ∧ (o18.1 1).toInt ≤ 20 := h19
        refine lv_aload_n hx hb dX12_buy_31 rfl (lv_at hl 0 rfl) ?_
        refine lv_iload_n hx hb dX12_buy_32 rfl (lv_at hl 1 rfl) ?_
        refine lv_iload_n hx hb dX12_buy_33 rfl (lv_at hl 2 rfl) ?_
        have hFc := va_free (wc := [(a_said, .inl (cs 0, 123, .inl a_said_c)), (a, .inr (12, [.ref a_tape, .int a__taped, .int a__rules, .ref a_sign, .ref a_length, .ref a_clause, .ref a_clauses, .ref a_read, .int a__next, .int a__wrong, .int a__number, .int a__text, .int a__made, .int a__deep, .int a__lines, .ref a_open, .int a__opened, .ref a_stack, .int a__top, .ref a_word, .ref a_said, .int a__x, .ref a_worth, .ref a_mate, .ref a_wasSaid, .int (o18.1 1), .int a__boughtNow, .ref a_wayBy, .ref a_wayThen, .int a__walkMost, .int a__walkGoing, .int a__walkSet, .ref a_kept, .long a__drawX, .ref a_images, .ref a_imageX, .ref a_isMade]))]) hD hS hA [0,2] rfl
        refine va_callv (va_runV (As := [.int p0, .int p1]) (rest := []) ⟨hx, hb, hml, hown, hT⟩ (c_X12_buys l D cs kK kV a p0 p1 a_said a_said_c a_tape a__taped a__rules a_sign a_length a_clause a_clauses a_read a__next a__wrong a__number a__text a__made a__deep a__lines a_open a__opened a_stack a__top a_word a__x a_worth a_mate a_wasSaid (o18.1 1) a__boughtNow a_wayBy a_wayThen a__walkMost a__walkGoing a__walkSet a_kept a__drawX a_images a_imageX a_isMade h3 h10 h_a__taped h_a__rules h_a__next h_a__text h_a__made h_a__lines h_a__opened h_a__top h_a__x ((iv_w h19 (by decide) (by decide))) hf0 hf1 H.size) (cwV 2 hT (hz_gV q_1184 q_1185 q_1186 q_701 q_1187) rfl rfl rfl (by decide +kernel) ⟨(Nat.le_of_ble_eq_true rfl), (Nat.le_of_ble_eq_true rfl)⟩) ⟨hz_C.blind, va_recv hK hP (ci := 12) (q0 := 2) rfl rfl, hz_C.mk (hP.sub (ws' := [(a_said, .inl (cs 0, 123, .inl a_said_c)), (a, .inr (12, [.ref a_tape, .int a__taped, .int a__rules, .ref a_sign, .ref a_length, .ref a_clause, .ref a_clauses, .ref a_read, .int a__next, .int a__wrong, .int a__number, .int a__text, .int a__made, .int a__deep, .int a__lines, .ref a_open, .int a__opened, .ref a_stack, .int a__top, .ref a_word, .ref a_said, .int a__x, .ref a_worth, .ref a_mate, .ref a_wasSaid, .int (o18.1 1), .int a__boughtNow, .ref a_wayBy, .ref a_wayThen, .int a__walkMost, .int a__walkGoing, .int a__walkSet, .ref a_kept, .long a__drawX, .ref a_images, .ref a_imageX, .ref a_isMade]))]) [0,2] rfl) (hD.sub (ws' := [(a_said, .inl (cs 0, 123, .inl a_said_c)), (a, .inr (12, [.ref a_tape, .int a__taped, .int a__rules, .ref a_sign, .ref a_length, .ref a_clause, .ref a_clauses, .ref a_read, .int a__next, .int a__wrong, .int a__number, .int a__text, .int a__made, .int a__deep, .int a__lines, .ref a_open, .int a__opened, .ref a_stack, .int a__top, .ref a_word, .ref a_said, .int a__x, .ref a_worth, .ref a_mate, .ref a_wasSaid, .int (o18.1 1), .int a__boughtNow, .ref a_wayBy, .ref a_wayThen, .int a__walkMost, .int a__walkGoing, .int a__walkSet, .ref a_kept, .long a__drawX, .ref a_images, .ref a_imageX, .ref a_isMade]))]) [0,2] (by decide) rfl) hE hS hFc⟩ rfl rfl hl.1 rfl (lv_room (Nat.le_of_ble_eq_true rfl)) dX12_buy_34 ⟨(Nat.le_of_ble_eq_true rfl), (Nat.le_of_ble_eq_true rfl)⟩) hS (fun q _ h => hFc q h) hFc (fun o23 t H1 locs ht hvm hw hB hz1 hk1 hS => ?_)
        obtain ⟨hP1, hD1⟩ := hB
        rw [ht] at hP1
        obtain ⟨hP, hD⟩ := va_join (wr := [(a_wasSaid, .inl (cs 0, 1720, .inl (o18.2 0)))]) (w1 := [(a_said, .inl (cs 0, 123, .inl (o23.2 0))), (a, .inr (12, [.ref a_tape, .int a__taped, .int a__rules, .ref a_sign, .ref a_length, .ref a_clause, .ref a_clauses, .ref a_read, .int a__next, .int a__wrong, .int a__number, .int a__text, .int a__made, .int a__deep, .int a__lines, .ref a_open, .int a__opened, .ref a_stack, .int a__top, .ref a_word, .ref a_said, .int a__x, .ref a_worth, .ref a_mate, .ref a_wasSaid, .int (o18.1 1), .int a__boughtNow, .ref a_wayBy, .ref a_wayThen, .int a__walkMost, .int a__walkGoing, .int a__walkSet, .ref a_kept, .long a__drawX, .ref a_images, .ref a_imageX, .ref a_isMade]))]) hP hD [0, 2] [1] rfl rfl (by decide) (by decide) hk1 hFc hP1 hD1
        generalize H1 = H at hP hS ⊢
        have hP : va_P D classes [(a_wasSaid, .inl (cs 0, 1720, .inl (o18.2 0))), (a_said, .inl (cs 0, 123, .inl (o23.2 0))), (a, .inr (12, [.ref a_tape, .int a__taped, .int a__rules, .ref a_sign, .ref a_length, .ref a_clause, .ref a_clauses, .ref a_read, .int a__next, .int a__wrong, .int a__number, .int a__text, .int a__made, .int a__deep, .int a__lines, .ref a_open, .int a__opened, .ref a_stack, .int a__top, .ref a_word, .ref a_said, .int a__x, .ref a_worth, .ref a_mate, .ref a_wasSaid, .int (o18.1 1), .int a__boughtNow, .ref a_wayBy, .ref a_wayThen, .int a__walkMost, .int a__walkGoing, .int a__walkSet, .ref a_kept, .long a__drawX, .ref a_images, .ref a_imageX, .ref a_isMade]))] H := hP
        have hD : va_D A [(a_wasSaid, .inl (cs 0, 1720, .inl (o18.2 0))), (a_said, .inl (cs 0, 123, .inl (o23.2 0))), (a, .inr (12, [.ref a_tape, .int a__taped, .int a__rules, .ref a_sign, .ref a_length, .ref a_clause, .ref a_clauses, .ref a_read, .int a__next, .int a__wrong, .int a__number, .int a__text, .int a__made, .int a__deep, .int a__lines, .ref a_open, .int a__opened, .ref a_stack, .int a__top, .ref a_word, .ref a_said, .int a__x, .ref a_worth, .ref a_mate, .ref a_wasSaid, .int (o18.1 1), .int a__boughtNow, .ref a_wayBy, .ref a_wayThen, .int a__walkMost, .int a__walkGoing, .int a__walkSet, .ref a_kept, .long a__drawX, .ref a_images, .ref a_imageX, .ref a_isMade]))] := hD
        clear hk1 hFc hP1 hD1 hz1
        rcases hw with ⟨x24, x25, x26, x27, x28, x29, x30⟩
        refine lv_aload_n hx hb dX12_buy_37 rfl (lv_at hl 0 rfl) ?_
        refine lv_iload_n hx hb dX12_buy_38 rfl (lv_at hl 1 rfl) ?_
        refine lv_iconst (v := 0) hx hb dX12_buy_39 (by decide) ?_
        refine va_calli (va_runV (As := [.int p0, .int 0]) (rest := []) ⟨hx, hb, hml, hown, hT⟩ (c_X12_buyerOf l D cs kK kV a p0 0 a_said (o23.2 0) a_tape a__taped a__rules a_sign a_length a_clause a_clauses a_read a__next a__wrong a__number a__text a__made a__deep a__lines a_open a__opened a_stack a__top a_word a__x a_worth a_mate a_wasSaid (o18.1 1) a__boughtNow a_wayBy a_wayThen a__walkMost a__walkGoing a__walkSet a_kept a__drawX a_images a_imageX a_isMade h3 ((iv_c (by decide))) h_a__taped h_a__rules h_a__next h_a__text h_a__made h_a__lines h_a__opened h_a__top h_a__x ((iv_w h19 (by decide) (by decide))) x24) (cwV 2 hT (hz_gV q_1120 q_1121 q_1122 q_701 q_1123) rfl rfl rfl (by decide +kernel) ⟨(Nat.le_of_ble_eq_true rfl), (Nat.le_of_ble_eq_true rfl)⟩) ⟨hz_P.blind, va_recv hK hP (ci := 12) (q0 := 2) rfl rfl, hz_P.mk (hP.sub (ws' := [(a_said, .inl (cs 0, 123, .inl (o23.2 0))), (a, .inr (12, [.ref a_tape, .int a__taped, .int a__rules, .ref a_sign, .ref a_length, .ref a_clause, .ref a_clauses, .ref a_read, .int a__next, .int a__wrong, .int a__number, .int a__text, .int a__made, .int a__deep, .int a__lines, .ref a_open, .int a__opened, .ref a_stack, .int a__top, .ref a_word, .ref a_said, .int a__x, .ref a_worth, .ref a_mate, .ref a_wasSaid, .int (o18.1 1), .int a__boughtNow, .ref a_wayBy, .ref a_wayThen, .int a__walkMost, .int a__walkGoing, .int a__walkSet, .ref a_kept, .long a__drawX, .ref a_images, .ref a_imageX, .ref a_isMade]))]) [1,2] rfl) hE hS⟩ rfl rfl hl.1 rfl (lv_room (Nat.le_of_ble_eq_true rfl)) dX12_buy_40 ⟨(Nat.le_of_ble_eq_true rfl), (Nat.le_of_ble_eq_true rfl)⟩) hS (fun _ _ h => h.elim) (fun _ h => h.elim) (fun r31 u t H1 locs ht hvm hw hB hz1 hk1 hS => ?_)
        have hP := hz_keep hP hk1
        clear hk1 hB hz1
        generalize H1 = H at hP hS ⊢
        rcases hw with ⟨x32, x33⟩
        refine W.widen (k := 0) (n := 0) (Nat.le_of_ble_eq_true rfl) (Nat.le_of_ble_eq_true rfl) ?_
        have g34 : ((o23.2 0) 3).toInt ≤ 99 := (by omega)
        exact W.iret (v := r31) hx hb hr (fun t ht hW => ⟨⟨r31, (fun k => match k with | 0 => 0 | 1 => o18.1 1 | _ => 0, fun k => match k with | 0 => o23.2 0 | 1 => o18.2 0 | _ => fun _ => 0), rfl, (Or.inr ((⟨h3, h10, h19, x24, x25, g34, x20⟩))), by rw [ht]; exact hP.sub [1, 0, 2] rfl, hD.sub [1, 0, 2] (by decide) rfl⟩, hS.F ht⟩) hS.2.2 dX12_buy_43
theorem dX12_shout_0 : decode cX12_shout 0 = .ok (.aload_n 0, 1) := by decide +kernel
theorem dX12_shout_1 : decode cX12_shout 1 = .ok (.iload_n 1, 1) := by decide +kernel
theorem dX12_shout_2 : decode cX12_shout 2 = .ok (.invokevirtual 343, 3) := by decide +kernel
theorem dX12_shout_5 : decode cX12_shout 5 = .ok (.ifCond .eq 24, 3) := by decide +kernel
theorem dX12_shout_8 : decode cX12_shout 8 = .ok (.iload_n 2, 1) := by decide +kernel
theorem dX12_shout_9 : decode cX12_shout 9 = .ok (.i2l, 1) := by decide +kernel
theorem dX12_shout_10 : decode cX12_shout 10 = .ok (.lconst 0, 1) := by decide +kernel
theorem dX12_shout_11 : decode cX12_shout 11 = .ok (.ldc2_w 352, 3) := by decide +kernel
theorem dX12_shout_14 : decode cX12_shout 14 = .ok (.invokestatic 109, 3) := by decide +kernel
theorem dX12_shout_17 : decode cX12_shout 17 = .ok (.ifCond .eq 12, 3) := by decide +kernel
theorem dX12_shout_20 : decode cX12_shout 20 = .ok (.aload_n 0, 1) := by decide +kernel
theorem dX12_shout_21 : decode cX12_shout 21 = .ok (.iload_n 1, 1) := by decide +kernel
theorem dX12_shout_22 : decode cX12_shout 22 = .ok (.iconst 0, 1) := by decide +kernel
theorem dX12_shout_23 : decode cX12_shout 23 = .ok (.invokevirtual 314, 3) := by decide +kernel
theorem dX12_shout_26 : decode cX12_shout 26 = .ok (.ifCond .ne 5, 3) := by decide +kernel
theorem dX12_shout_29 : decode cX12_shout 29 = .ok (.iconst (-1), 1) := by decide +kernel
theorem dX12_shout_30 : decode cX12_shout 30 = .ok (.ireturn, 1) := by decide +kernel
theorem dX12_shout_31 : decode cX12_shout 31 = .ok (.aload_n 0, 1) := by decide +kernel
theorem dX12_shout_32 : decode cX12_shout 32 = .ok (.invokevirtual 356, 3) := by decide +kernel
theorem dX12_shout_35 : decode cX12_shout 35 = .ok (.aload_n 0, 1) := by decide +kernel
theorem dX12_shout_36 : decode cX12_shout 36 = .ok (.iload_n 1, 1) := by decide +kernel
theorem dX12_shout_37 : decode cX12_shout 37 = .ok (.iconst 2, 1) := by decide +kernel
theorem dX12_shout_38 : decode cX12_shout 38 = .ok (.invokevirtual 314, 3) := by decide +kernel
theorem dX12_shout_41 : decode cX12_shout 41 = .ok (.istore_n 3, 1) := by decide +kernel
theorem dX12_shout_42 : decode cX12_shout 42 = .ok (.aload_n 0, 1) := by decide +kernel
theorem dX12_shout_43 : decode cX12_shout 43 = .ok (.getfield 39, 3) := by decide +kernel
theorem dX12_shout_46 : decode cX12_shout 46 = .ok (.bipush 70, 2) := by decide +kernel
theorem dX12_shout_48 : decode cX12_shout 48 = .ok (.iconst 4, 1) := by decide +kernel
theorem dX12_shout_49 : decode cX12_shout 49 = .ok (.iload_n 1, 1) := by decide +kernel
theorem dX12_shout_50 : decode cX12_shout 50 = .ok (.imul, 1) := by decide +kernel
theorem dX12_shout_51 : decode cX12_shout 51 = .ok (.iadd, 1) := by decide +kernel
theorem dX12_shout_52 : decode cX12_shout 52 = .ok (.dup2, 1) := by decide +kernel
theorem dX12_shout_53 : decode cX12_shout 53 = .ok (.iaload, 1) := by decide +kernel
theorem dX12_shout_54 : decode cX12_shout 54 = .ok (.iconst 1, 1) := by decide +kernel
theorem dX12_shout_55 : decode cX12_shout 55 = .ok (.isub, 1) := by decide +kernel
theorem dX12_shout_56 : decode cX12_shout 56 = .ok (.iastore, 1) := by decide +kernel
theorem dX12_shout_57 : decode cX12_shout 57 = .ok (.iconst 0, 1) := by decide +kernel
theorem dX12_shout_58 : decode cX12_shout 58 = .ok (.istore 4, 2) := by decide +kernel
theorem dX12_shout_60 : decode cX12_shout 60 = .ok (.iload 4, 2) := by decide +kernel
theorem dX12_shout_62 : decode cX12_shout 62 = .ok (.aload_n 0, 1) := by decide +kernel
theorem dX12_shout_63 : decode cX12_shout 63 = .ok (.getfield 39, 3) := by decide +kernel
theorem dX12_shout_66 : decode cX12_shout 66 = .ok (.iconst 1, 1) := by decide +kernel
theorem dX12_shout_67 : decode cX12_shout 67 = .ok (.iaload, 1) := by decide +kernel
theorem dX12_shout_68 : decode cX12_shout 68 = .ok (.if_icmp .ge 101, 3) := by decide +kernel
theorem dX12_shout_71 : decode cX12_shout 71 = .ok (.aload_n 0, 1) := by decide +kernel
theorem dX12_shout_72 : decode cX12_shout 72 = .ok (.iload 4, 2) := by decide +kernel
theorem dX12_shout_74 : decode cX12_shout 74 = .ok (.iconst 3, 1) := by decide +kernel
theorem dX12_shout_75 : decode cX12_shout 75 = .ok (.invokevirtual 301, 3) := by decide +kernel
theorem dX12_shout_78 : decode cX12_shout 78 = .ok (.istore 5, 2) := by decide +kernel
theorem dX12_shout_80 : decode cX12_shout 80 = .ok (.iload 5, 2) := by decide +kernel
theorem dX12_shout_82 : decode cX12_shout 82 = .ok (.bipush 100, 2) := by decide +kernel
theorem dX12_shout_84 : decode cX12_shout 84 = .ok (.if_icmp .ge 79, 3) := by decide +kernel
theorem dX12_shout_87 : decode cX12_shout 87 = .ok (.aload_n 0, 1) := by decide +kernel
theorem dX12_shout_88 : decode cX12_shout 88 = .ok (.aload_n 0, 1) := by decide +kernel
theorem dX12_shout_89 : decode cX12_shout 89 = .ok (.iload 5, 2) := by decide +kernel
theorem dX12_shout_91 : decode cX12_shout 91 = .ok (.aload_n 0, 1) := by decide +kernel
theorem dX12_shout_92 : decode cX12_shout 92 = .ok (.getfield 39, 3) := by decide +kernel
theorem dX12_shout_95 : decode cX12_shout 95 = .ok (.iconst 3, 1) := by decide +kernel
theorem dX12_shout_96 : decode cX12_shout 96 = .ok (.iaload, 1) := by decide +kernel
theorem dX12_shout_97 : decode cX12_shout 97 = .ok (.invokevirtual 305, 3) := by decide +kernel
theorem dX12_shout_100 : decode cX12_shout 100 = .ok (.aload_n 0, 1) := by decide +kernel
theorem dX12_shout_101 : decode cX12_shout 101 = .ok (.iload_n 1, 1) := by decide +kernel
theorem dX12_shout_102 : decode cX12_shout 102 = .ok (.iconst 1, 1) := by decide +kernel
theorem dX12_shout_103 : decode cX12_shout 103 = .ok (.invokevirtual 314, 3) := by decide +kernel
theorem dX12_shout_106 : decode cX12_shout 106 = .ok (.invokevirtual 371, 3) := by decide +kernel
theorem dX12_shout_109 : decode cX12_shout 109 = .ok (.aload_n 0, 1) := by decide +kernel
theorem dX12_shout_110 : decode cX12_shout 110 = .ok (.getfield 39, 3) := by decide +kernel
theorem dX12_shout_113 : decode cX12_shout 113 = .ok (.bipush 8, 2) := by decide +kernel
theorem dX12_shout_115 : decode cX12_shout 115 = .ok (.iaload, 1) := by decide +kernel
theorem dX12_shout_116 : decode cX12_shout 116 = .ok (.if_icmp .gt 47, 3) := by decide +kernel
theorem dX12_shout_119 : decode cX12_shout 119 = .ok (.aload_n 0, 1) := by decide +kernel
theorem dX12_shout_120 : decode cX12_shout 120 = .ok (.aload_n 0, 1) := by decide +kernel
theorem dX12_shout_121 : decode cX12_shout 121 = .ok (.iload 4, 2) := by decide +kernel
theorem dX12_shout_123 : decode cX12_shout 123 = .ok (.iconst 0, 1) := by decide +kernel
theorem dX12_shout_124 : decode cX12_shout 124 = .ok (.invokevirtual 301, 3) := by decide +kernel
theorem dX12_shout_127 : decode cX12_shout 127 = .ok (.iload_n 2, 1) := by decide +kernel
theorem dX12_shout_128 : decode cX12_shout 128 = .ok (.invokevirtual 308, 3) := by decide +kernel
theorem dX12_shout_131 : decode cX12_shout 131 = .ok (.aload_n 0, 1) := by decide +kernel
theorem dX12_shout_132 : decode cX12_shout 132 = .ok (.getfield 39, 3) := by decide +kernel
theorem dX12_shout_135 : decode cX12_shout 135 = .ok (.iconst 5, 1) := by decide +kernel
theorem dX12_shout_136 : decode cX12_shout 136 = .ok (.iaload, 1) := by decide +kernel
theorem dX12_shout_137 : decode cX12_shout 137 = .ok (.if_icmp .le 6, 3) := by decide +kernel
theorem dX12_shout_140 : decode cX12_shout 140 = .ok (.goto 23, 3) := by decide +kernel
theorem dX12_shout_143 : decode cX12_shout 143 = .ok (.aload_n 0, 1) := by decide +kernel
theorem dX12_shout_144 : decode cX12_shout 144 = .ok (.getfield 39, 3) := by decide +kernel
theorem dX12_shout_147 : decode cX12_shout 147 = .ok (.bipush 70, 2) := by decide +kernel
theorem dX12_shout_149 : decode cX12_shout 149 = .ok (.iconst 4, 1) := by decide +kernel
theorem dX12_shout_150 : decode cX12_shout 150 = .ok (.iload_n 1, 1) := by decide +kernel
theorem dX12_shout_151 : decode cX12_shout 151 = .ok (.imul, 1) := by decide +kernel
theorem dX12_shout_152 : decode cX12_shout 152 = .ok (.iadd, 1) := by decide +kernel
theorem dX12_shout_153 : decode cX12_shout 153 = .ok (.iconst 2, 1) := by decide +kernel
theorem dX12_shout_154 : decode cX12_shout 154 = .ok (.iadd, 1) := by decide +kernel
theorem dX12_shout_155 : decode cX12_shout 155 = .ok (.dup2, 1) := by decide +kernel
theorem dX12_shout_156 : decode cX12_shout 156 = .ok (.iaload, 1) := by decide +kernel
theorem dX12_shout_157 : decode cX12_shout 157 = .ok (.iconst 1, 1) := by decide +kernel
theorem dX12_shout_158 : decode cX12_shout 158 = .ok (.iload 4, 2) := by decide +kernel
theorem dX12_shout_160 : decode cX12_shout 160 = .ok (.ishl, 1) := by decide +kernel
theorem dX12_shout_161 : decode cX12_shout 161 = .ok (.ior, 1) := by decide +kernel
theorem dX12_shout_162 : decode cX12_shout 162 = .ok (.iastore, 1) := by decide +kernel
theorem dX12_shout_163 : decode cX12_shout 163 = .ok (.iinc 4 1, 3) := by decide +kernel
theorem dX12_shout_166 : decode cX12_shout 166 = .ok (.goto (-106), 3) := by decide +kernel
theorem dX12_shout_169 : decode cX12_shout 169 = .ok (.aload_n 0, 1) := by decide +kernel
theorem dX12_shout_170 : decode cX12_shout 170 = .ok (.iload_n 1, 1) := by decide +kernel
theorem dX12_shout_171 : decode cX12_shout 171 = .ok (.iconst 2, 1) := by decide +kernel
theorem dX12_shout_172 : decode cX12_shout 172 = .ok (.invokevirtual 314, 3) := by decide +kernel
theorem dX12_shout_175 : decode cX12_shout 175 = .ok (.invokestatic 374, 3) := by decide +kernel
theorem dX12_shout_178 : decode cX12_shout 178 = .ok (.iload_n 3, 1) := by decide +kernel
theorem dX12_shout_179 : decode cX12_shout 179 = .ok (.invokestatic 374, 3) := by decide +kernel
theorem dX12_shout_182 : decode cX12_shout 182 = .ok (.isub, 1) := by decide +kernel
theorem dX12_shout_183 : decode cX12_shout 183 = .ok (.ireturn, 1) := by decide +kernel
set_option maxHeartbeats 4000000 in
set_option maxRecDepth 100000 in
theorem c_X12_shout (l : Launch) (D : va_G) (cs : Nat → ClassId) (kK kV : Nat → Nat) (a : Nat) (p0 : Int32) (p1 : Int32) (a_said : Nat) (a_said_c : Nat → Int32) (a_wasSaid : Nat) (a_wasSaid_c : Nat → Int32) (a_tape : Nat) (a__taped : Int32) (a__rules : Int32) (a_sign : Nat) (a_length : Nat) (a_clause : Nat) (a_clauses : Nat) (a_read : Nat) (a__next : Int32) (a__wrong : Int32) (a__number : Int32) (a__text : Int32) (a__made : Int32) (a__deep : Int32) (a__lines : Int32) (a_open : Nat) (a__opened : Int32) (a_stack : Nat) (a__top : Int32) (a_word : Nat) (a__x : Int32) (a_worth : Nat) (a_mate : Nat) (a__undone : Int32) (a__boughtNow : Int32) (a_wayBy : Nat) (a_wayThen : Nat) (a__walkMost : Int32) (a__walkGoing : Int32) (a__walkSet : Int32) (a_kept : Nat) (a__drawX : Int64) (a_images : Nat) (a_imageX : Nat) (a_isMade : Nat) (h_a__taped : IV 0 400 a__taped) (h_a__rules : IV 0 6 a__rules) (h_a__next : IV 0 400 a__next) (h_a__text : IV 0 6 a__text) (h_a__made : IV 0 60 a__made) (h_a__lines : IV 0 40 a__lines) (h_a__opened : IV 0 400 a__opened) (h_a__top : IV 0 64 a__top) (h_a__x : IV 0 2147483647 a__x) (h_a__undone : IV 0 20 a__undone) (hf0 : BS a_said_c 200) (hf1 : TR a_said_c) (hf2 : (a_said_c 3).toInt ≤ 99) (hf3 : WSN a_wasSaid_c a__undone.toInt) (sz : Nat) : Met l yX12_shout (hz_w yX12_shout cX12_shout 6 (some .int)) ({ frames := 1, cells := 0, slots := 0, locals := 25 }) (va_Pc [.ref a, .int p0, .int p1] (hz_C D cs kK kV sz [(a_said, .inl (cs 0, 123, .inl a_said_c)), (a_wasSaid, .inl (cs 0, 1720, .inl a_wasSaid_c)), (a, .inr (12, [.ref a_tape, .int a__taped, .int a__rules, .ref a_sign, .ref a_length, .ref a_clause, .ref a_clauses, .ref a_read, .int a__next, .int a__wrong, .int a__number, .int a__text, .int a__made, .int a__deep, .int a__lines, .ref a_open, .int a__opened, .ref a_stack, .int a__top, .ref a_word, .ref a_said, .int a__x, .ref a_worth, .ref a_mate, .ref a_wasSaid, .int a__undone, .int a__boughtNow, .ref a_wayBy, .ref a_wayThen, .int a__walkMost, .int a__walkGoing, .int a__walkSet, .ref a_kept, .long a__drawX, .ref a_images, .ref a_imageX, .ref a_isMade]))])) (va_Qi (fun (r : Int32) (u : (Nat → Int32) × (Nat → Nat → Int32)) => (r = (-1) ∧ IV (-2147483648) 2147483647 p0 ∧ IV 0 20 (u.1 1) ∧ (BS (u.2 0) 200) ∧ (TR (u.2 0)) ∧ (((u.2 0) 3).toInt ≤ 99) ∧ (WSN (u.2 1) (u.1 1).toInt)) ∨ (IV 0 3 p0 ∧ IV 0 99 p1 ∧ IV 1 20 (u.1 1) ∧ (BS (u.2 0) 200) ∧ (TR (u.2 0)) ∧ (((u.2 0) 3).toInt ≤ 99) ∧ (WSN (u.2 1) (u.1 1).toInt))) (fun u t => va_P D classes [(a_said, .inl (cs 0, 123, .inl (u.2 0))), (a_wasSaid, .inl (cs 0, 1720, .inl (u.2 1))), (a, .inr (12, [.ref a_tape, .int a__taped, .int a__rules, .ref a_sign, .ref a_length, .ref a_clause, .ref a_clauses, .ref a_read, .int a__next, .int a__wrong, .int a__number, .int a__text, .int a__made, .int a__deep, .int a__lines, .ref a_open, .int a__opened, .ref a_stack, .int a__top, .ref a_word, .ref a_said, .int a__x, .ref a_worth, .ref a_mate, .ref a_wasSaid, .int (u.1 1), .int a__boughtNow, .ref a_wayBy, .ref a_wayThen, .int a__walkMost, .int a__walkGoing, .int a__walkSet, .ref a_kept, .long a__drawX, .ref a_images, .ref a_imageX, .ref a_isMade]))] t.heap ∧ va_D (va_A [(a_said, .inl (cs 0, 123, .inl a_said_c)), (a_wasSaid, .inl (cs 0, 1720, .inl a_wasSaid_c)), (a, .inr (12, [.ref a_tape, .int a__taped, .int a__rules, .ref a_sign, .ref a_length, .ref a_clause, .ref a_clauses, .ref a_read, .int a__next, .int a__wrong, .int a__number, .int a__text, .int a__made, .int a__deep, .int a__lines, .ref a_open, .int a__opened, .ref a_stack, .int a__top, .ref a_word, .ref a_said, .int a__x, .ref a_worth, .ref a_mate, .ref a_wasSaid, .int a__undone, .int a__boughtNow, .ref a_wayBy, .ref a_wayThen, .int a__walkMost, .int a__walkGoing, .int a__walkSet, .ref a_kept, .long a__drawX, .ref a_images, .ref a_imageX, .ref a_isMade]))] sz) [(a_said, .inl (cs 0, 123, .inl (u.2 0))), (a_wasSaid, .inl (cs 0, 1720, .inl (u.2 1))), (a, .inr (12, [.ref a_tape, .int a__taped, .int a__rules, .ref a_sign, .ref a_length, .ref a_clause, .ref a_clauses, .ref a_read, .int a__next, .int a__wrong, .int a__number, .int a__text, .int a__made, .int a__deep, .int a__lines, .ref a_open, .int a__opened, .ref a_stack, .int a__top, .ref a_word, .ref a_said, .int a__x, .ref a_worth, .ref a_mate, .ref a_wasSaid, .int (u.1 1), .int a__boughtNow, .ref a_wayBy, .ref a_wayThen, .int a__walkMost, .int a__walkGoing, .int a__walkSet, .ref a_kept, .long a__drawX, .ref a_images, .ref a_imageX, .ref a_isMade]))]) (va_A [(a_said, .inl (cs 0, 123, .inl a_said_c)), (a_wasSaid, .inl (cs 0, 1720, .inl a_wasSaid_c)), (a, .inr (12, [.ref a_tape, .int a__taped, .int a__rules, .ref a_sign, .ref a_length, .ref a_clause, .ref a_clauses, .ref a_read, .int a__next, .int a__wrong, .int a__number, .int a__text, .int a__made, .int a__deep, .int a__lines, .ref a_open, .int a__opened, .ref a_stack, .int a__top, .ref a_word, .ref a_said, .int a__x, .ref a_worth, .ref a_mate, .ref a_wasSaid, .int a__undone, .int a__boughtNow, .ref a_wayBy, .ref a_wayThen, .int a__walkMost, .int a__walkGoing, .int a__walkSet, .ref a_kept, .long a__drawX, .ref a_images, .ref a_imageX, .ref a_isMade]))] sz)) 0 0 (va_A [(a_said, .inl (cs 0, 123, .inl a_said_c)), (a_wasSaid, .inl (cs 0, 1720, .inl a_wasSaid_c)), (a, .inr (12, [.ref a_tape, .int a__taped, .int a__rules, .ref a_sign, .ref a_length, .ref a_clause, .ref a_clauses, .ref a_read, .int a__next, .int a__wrong, .int a__number, .int a__text, .int a__made, .int a__deep, .int a__lines, .ref a_open, .int a__opened, .ref a_stack, .int a__top, .ref a_word, .ref a_said, .int a__x, .ref a_worth, .ref a_mate, .ref a_wasSaid, .int a__undone, .int a__boughtNow, .ref a_wayBy, .ref a_wayThen, .int a__walkMost, .int a__walkGoing, .int a__walkSet, .ref a_kept, .long a__drawX, .ref a_images, .ref a_imageX, .ref a_isMade]))] sz) := by
  refine Met.ofW (cc := cX12_shout) (maxL := 6) (ret := (some .int)) (by decide) rfl ?_
  intro p e s m args below meth c s₁ B hml hv
  obtain ⟨rfl, hsz, hP, hD0, hE⟩ := hv
  have hx := B.exec
  have hb := B.bytes
  have hr := B.returns
  have hT : ∀ w ∈ TB, w.before _ s = true := fun w h => atoms_spec (ws := hz_w yX12_shout cX12_shout 6 (some .int)) B.pre w (List.mem_cons_of_mem _ h)
  have hown : s.vm.findClass RX12 = some m.cls := findClass_of_methodNamed B.named
  have hlocks := B.notSynchronized
  clear B
  subst hsz
  have hD := hD0.self (sz := s.heap.size)
  generalize hAe : va_A [(a_said, .inl (cs 0, 123, .inl a_said_c)), (a_wasSaid, .inl (cs 0, 1720, .inl a_wasSaid_c)), (a, .inr (12, [.ref a_tape, .int a__taped, .int a__rules, .ref a_sign, .ref a_length, .ref a_clause, .ref a_clauses, .ref a_read, .int a__next, .int a__wrong, .int a__number, .int a__text, .int a__made, .int a__deep, .int a__lines, .ref a_open, .int a__opened, .ref a_stack, .int a__top, .ref a_word, .ref a_said, .int a__x, .ref a_worth, .ref a_mate, .ref a_wasSaid, .int a__undone, .int a__boughtNow, .ref a_wayBy, .ref a_wayThen, .int a__walkMost, .int a__walkGoing, .int a__walkSet, .ref a_kept, .long a__drawX, .ref a_images, .ref a_imageX, .ref a_isMade]))] s.heap.size = A at hD hE ⊢
  have hA : ∀ q : Nat, s.heap.size ≤ q → A q := fun q h => by rw [← hAe]; exact Or.inr h
  clear hAe hD0
  have hS : va_S A s.heap s.heap [] := va_S.rf
  have hK := hE.1
  have hl := lv_entry ([.ref a, .int p0, .int p1]) (n := 6) (Nat.le_of_ble_eq_true rfl)
  rw [lg_entry_eq]
  generalize (lg_sl ([.ref a, .int p0, .int p1]) ++ List.replicate (6 - (lg_sl ([.ref a, .int p0, .int p1])).length) Slot.unset).toArray = ls at hl ⊢
  have hl : lv_has ls 6 [(0, .ref a), (1, .int p0), (2, .int p1)] := hl
  obtain ⟨H, eH⟩ : ∃ z, z = s.heap := ⟨_, rfl⟩
  have hP : va_P D classes [(a_said, .inl (cs 0, 123, .inl a_said_c)), (a_wasSaid, .inl (cs 0, 1720, .inl a_wasSaid_c)), (a, .inr (12, [.ref a_tape, .int a__taped, .int a__rules, .ref a_sign, .ref a_length, .ref a_clause, .ref a_clauses, .ref a_read, .int a__next, .int a__wrong, .int a__number, .int a__text, .int a__made, .int a__deep, .int a__lines, .ref a_open, .int a__opened, .ref a_stack, .int a__top, .ref a_word, .ref a_said, .int a__x, .ref a_worth, .ref a_mate, .ref a_wasSaid, .int a__undone, .int a__boughtNow, .ref a_wayBy, .ref a_wayThen, .int a__walkMost, .int a__walkGoing, .int a__walkSet, .ref a_kept, .long a__drawX, .ref a_images, .ref a_imageX, .ref a_isMade]))] H := by rw [eH]; exact hP
  have hS : va_S A s.heap H [] := by rw [eH]; exact hS
  rw [← eH]
  clear eH
  obtain ⟨locs, el⟩ : ∃ z : List Loc, z = [] := ⟨_, rfl⟩
  rw [← el] at hS ⊢
  clear el
  have z0 : (0 : Int32).toInt = 0 := by decide
  have z1 : (1 : Int32).toInt = 1 := by decide
  have zm1 : (-1 : Int32).toInt = -1 := by decide
  have i_a__lines : 0 ≤ a__lines.toInt ∧ a__lines.toInt ≤ 40 := h_a__lines
  have i_a__made : 0 ≤ a__made.toInt ∧ a__made.toInt ≤ 60 := h_a__made
  have i_a__next : 0 ≤ a__next.toInt ∧ a__next.toInt ≤ 400 := h_a__next
  have i_a__opened : 0 ≤ a__opened.toInt ∧ a__opened.toInt ≤ 400 := h_a__opened
  have i_a__rules : 0 ≤ a__rules.toInt ∧ a__rules.toInt ≤ 6 := h_a__rules
  have i_a__taped : 0 ≤ a__taped.toInt ∧ a__taped.toInt ≤ 400 := h_a__taped
  have i_a__text : 0 ≤ a__text.toInt ∧ a__text.toInt ≤ 6 := h_a__text
  have i_a__top : 0 ≤ a__top.toInt ∧ a__top.toInt ≤ 64 := h_a__top
  have i_a__undone : 0 ≤ a__undone.toInt ∧ a__undone.toInt ≤ 20 := h_a__undone
  have i_a__x : 0 ≤ a__x.toInt ∧ a__x.toInt ≤ 2147483647 := h_a__x
  have K60 : ∀ (n : Nat) (k60_L_4 : Int32) (k60_L_3 : Int32) (k60_C_a_said : Nat → Int32) (k60_C_a_wasSaid : Nat → Int32) (k60_F_a_25 : Int32), (12 - k60_L_4.toInt + 1).toNat ≤ n → IV 1 20 k60_F_a_25 → IV 0 12 k60_L_4 → IV 0 3 p0 → IV 0 99 p1 → (BS k60_C_a_said 200) → (TR k60_C_a_said) → ((k60_C_a_said 3).toInt ≤ 99) → (p0.toInt < (k60_C_a_said 2).toInt) → (WSN k60_C_a_wasSaid k60_F_a_25.toInt) → ∀ (H : Heap) (locs : List Loc), va_P D classes [(a_said, .inl (cs 0, 123, .inl k60_C_a_said)), (a_wasSaid, .inl (cs 0, 1720, .inl k60_C_a_wasSaid)), (a, .inr (12, [.ref a_tape, .int a__taped, .int a__rules, .ref a_sign, .ref a_length, .ref a_clause, .ref a_clauses, .ref a_read, .int a__next, .int a__wrong, .int a__number, .int a__text, .int a__made, .int a__deep, .int a__lines, .ref a_open, .int a__opened, .ref a_stack, .int a__top, .ref a_word, .ref a_said, .int a__x, .ref a_worth, .ref a_mate, .ref a_wasSaid, .int k60_F_a_25, .int a__boughtNow, .ref a_wayBy, .ref a_wayThen, .int a__walkMost, .int a__walkGoing, .int a__walkSet, .ref a_kept, .long a__drawX, .ref a_images, .ref a_imageX, .ref a_isMade]))] H → va_D A [(a_said, .inl (cs 0, 123, .inl k60_C_a_said)), (a_wasSaid, .inl (cs 0, 1720, .inl k60_C_a_wasSaid)), (a, .inr (12, [.ref a_tape, .int a__taped, .int a__rules, .ref a_sign, .ref a_length, .ref a_clause, .ref a_clauses, .ref a_read, .int a__next, .int a__wrong, .int a__number, .int a__text, .int a__made, .int a__deep, .int a__lines, .ref a_open, .int a__opened, .ref a_stack, .int a__top, .ref a_word, .ref a_said, .int a__x, .ref a_worth, .ref a_mate, .ref a_wasSaid, .int k60_F_a_25, .int a__boughtNow, .ref a_wayBy, .ref a_wayThen, .int a__walkMost, .int a__walkGoing, .int a__walkSet, .ref a_kept, .long a__drawX, .ref a_images, .ref a_imageX, .ref a_isMade]))] → va_S A s.heap H locs → ∀ ls : Array Slot, lv_has ls 6 [(4, .int k60_L_4), (3, .int k60_L_3), (0, .ref a), (1, .int p0), (2, .int p1)] → W p l e (headSpec (hz_w yX12_shout cX12_shout 6 (some .int)) ({ frames := 1, cells := 0, slots := 0, locals := 25 })).room s m [.ref a, .int p0, .int p1].toArray below meth c H locs 0 0 (MQ below (va_Qi (fun (r : Int32) (u : (Nat → Int32) × (Nat → Nat → Int32)) => (r = (-1) ∧ IV (-2147483648) 2147483647 p0 ∧ IV 0 20 (u.1 1) ∧ (BS (u.2 0) 200) ∧ (TR (u.2 0)) ∧ (((u.2 0) 3).toInt ≤ 99) ∧ (WSN (u.2 1) (u.1 1).toInt)) ∨ (IV 0 3 p0 ∧ IV 0 99 p1 ∧ IV 1 20 (u.1 1) ∧ (BS (u.2 0) 200) ∧ (TR (u.2 0)) ∧ (((u.2 0) 3).toInt ≤ 99) ∧ (WSN (u.2 1) (u.1 1).toInt))) (fun u t => va_P D classes [(a_said, .inl (cs 0, 123, .inl (u.2 0))), (a_wasSaid, .inl (cs 0, 1720, .inl (u.2 1))), (a, .inr (12, [.ref a_tape, .int a__taped, .int a__rules, .ref a_sign, .ref a_length, .ref a_clause, .ref a_clauses, .ref a_read, .int a__next, .int a__wrong, .int a__number, .int a__text, .int a__made, .int a__deep, .int a__lines, .ref a_open, .int a__opened, .ref a_stack, .int a__top, .ref a_word, .ref a_said, .int a__x, .ref a_worth, .ref a_mate, .ref a_wasSaid, .int (u.1 1), .int a__boughtNow, .ref a_wayBy, .ref a_wayThen, .int a__walkMost, .int a__walkGoing, .int a__walkSet, .ref a_kept, .long a__drawX, .ref a_images, .ref a_imageX, .ref a_isMade]))] t.heap ∧ va_D A [(a_said, .inl (cs 0, 123, .inl (u.2 0))), (a_wasSaid, .inl (cs 0, 1720, .inl (u.2 1))), (a, .inr (12, [.ref a_tape, .int a__taped, .int a__rules, .ref a_sign, .ref a_length, .ref a_clause, .ref a_clauses, .ref a_read, .int a__next, .int a__wrong, .int a__number, .int a__text, .int a__made, .int a__deep, .int a__lines, .ref a_open, .int a__opened, .ref a_stack, .int a__top, .ref a_word, .ref a_said, .int a__x, .ref a_worth, .ref a_mate, .ref a_wasSaid, .int (u.1 1), .int a__boughtNow, .ref a_wayBy, .ref a_wayThen, .int a__walkMost, .int a__walkGoing, .int a__walkSet, .ref a_kept, .long a__drawX, .ref a_images, .ref a_imageX, .ref a_isMade]))]) A) [.ref a, .int p0, .int p1].toArray s 0 0 A) (F0 m 60 ls []) := by
    intro n
    induction n with
    | zero =>
      intro k60_L_4 k60_L_3 k60_C_a_said k60_C_a_wasSaid k60_F_a_25 hn q60_9 q60_10 q60_11 q60_12 x60_0 x60_1 x60_2 x60_3 x60_4 H locs hP hD hS ls hl
      exact absurd hn (by unfold IV at q60_10; omega)
    | succ n ih60 =>
      intro k60_L_4 k60_L_3 k60_C_a_said k60_C_a_wasSaid k60_F_a_25 hn q60_9 q60_10 q60_11 q60_12 x60_0 x60_1 x60_2 x60_3 x60_4 H locs hP hD hS ls hl
      have i_a__lines : 0 ≤ a__lines.toInt ∧ a__lines.toInt ≤ 40 := h_a__lines
      have i_a__made : 0 ≤ a__made.toInt ∧ a__made.toInt ≤ 60 := h_a__made
      have i_a__next : 0 ≤ a__next.toInt ∧ a__next.toInt ≤ 400 := h_a__next
      have i_a__opened : 0 ≤ a__opened.toInt ∧ a__opened.toInt ≤ 400 := h_a__opened
      have i_a__rules : 0 ≤ a__rules.toInt ∧ a__rules.toInt ≤ 6 := h_a__rules
      have i_a__taped : 0 ≤ a__taped.toInt ∧ a__taped.toInt ≤ 400 := h_a__taped
      have i_a__text : 0 ≤ a__text.toInt ∧ a__text.toInt ≤ 6 := h_a__text
      have i_a__top : 0 ≤ a__top.toInt ∧ a__top.toInt ≤ 64 := h_a__top
      have i_a__x : 0 ≤ a__x.toInt ∧ a__x.toInt ≤ 2147483647 := h_a__x
      have i_k60_F_a_25 : 1 ≤ k60_F_a_25.toInt ∧ k60_F_a_25.toInt ≤ 20 := q60_9
      have i_k60_L_4 : 0 ≤ k60_L_4.toInt ∧ k60_L_4.toInt ≤ 12 := q60_10
      have i_p0 : 0 ≤ p0.toInt ∧ p0.toInt ≤ 3 := q60_11
      have i_p1 : 0 ≤ p1.toInt ∧ p1.toInt ≤ 99 := q60_12
      refine lv_iload hx hb dX12_shout_60 (lv_at hl 0 rfl) ?_
      refine lv_aload_n hx hb dX12_shout_62 rfl (lv_at hl 2 rfl) ?_
      refine va_get (D := D) (ci := 12) (v := .ref a_said) (C := RX12) (T := TX12) (N := 37) hx hb hT i_X12 hown hK hP 2 rfl rfl 20 (by decide) (hT _ q_185) (fun _ h9 => h9) rfl dX12_shout_63 ?_
      refine lv_iconst (v := 1) hx hb dX12_shout_66 (by decide) ?_
      refine va_iald hx hb hK hP 0 0 rfl rfl (iv_vc (by decide)) dX12_shout_67 ?_
      refine lv_topi (fun v1 ev1 => ?_)
      have h2 : IV 0 12 v1 := (by rw [ev1]; exact bs_i1 x60_0)
      have ii3 : 0 ≤ v1.toInt ∧ v1.toInt ≤ 12 := h2
      have lv1 : v1.toInt = (k60_C_a_said 1).toInt := by rw [ev1]; rfl
      refine lv_icmp_ge (tgt := 169) hx hb dX12_shout_68 (by decide) (fun c4 => ?_) (fun c4 => ?_)
      · have t5 : k60_L_4.toInt ≥ v1.toInt := lin_ge c4 rfl rfl
        refine lv_aload_n hx hb dX12_shout_169 rfl (lv_at hl 2 rfl) ?_
        refine lv_iload_n hx hb dX12_shout_170 rfl (lv_at hl 3 rfl) ?_
        refine lv_iconst (v := 2) hx hb dX12_shout_171 (by decide) ?_
        refine va_calli (va_runV (As := [.int p0, .int 2]) (rest := []) ⟨hx, hb, hml, hown, hT⟩ (c_X12_buyerOf l D cs kK kV a p0 2 a_said k60_C_a_said a_tape a__taped a__rules a_sign a_length a_clause a_clauses a_read a__next a__wrong a__number a__text a__made a__deep a__lines a_open a__opened a_stack a__top a_word a__x a_worth a_mate a_wasSaid k60_F_a_25 a__boughtNow a_wayBy a_wayThen a__walkMost a__walkGoing a__walkSet a_kept a__drawX a_images a_imageX a_isMade q60_11 ((iv_c (by decide))) h_a__taped h_a__rules h_a__next h_a__text h_a__made h_a__lines h_a__opened h_a__top h_a__x ((iv_w q60_9 (by decide) (by decide))) x60_0) (cwV 2 hT (hz_gV q_1120 q_1121 q_1122 q_701 q_1123) rfl rfl rfl (by decide +kernel) ⟨(Nat.le_of_ble_eq_true rfl), (Nat.le_of_ble_eq_true rfl)⟩) ⟨hz_P.blind, va_recv hK hP (ci := 12) (q0 := 2) rfl rfl, hz_P.mk (hP.sub (ws' := [(a_said, .inl (cs 0, 123, .inl k60_C_a_said)), (a, .inr (12, [.ref a_tape, .int a__taped, .int a__rules, .ref a_sign, .ref a_length, .ref a_clause, .ref a_clauses, .ref a_read, .int a__next, .int a__wrong, .int a__number, .int a__text, .int a__made, .int a__deep, .int a__lines, .ref a_open, .int a__opened, .ref a_stack, .int a__top, .ref a_word, .ref a_said, .int a__x, .ref a_worth, .ref a_mate, .ref a_wasSaid, .int k60_F_a_25, .int a__boughtNow, .ref a_wayBy, .ref a_wayThen, .int a__walkMost, .int a__walkGoing, .int a__walkSet, .ref a_kept, .long a__drawX, .ref a_images, .ref a_imageX, .ref a_isMade]))]) [0,2] rfl) hE hS⟩ rfl rfl hl.1 rfl (lv_room (Nat.le_of_ble_eq_true rfl)) dX12_shout_172 ⟨(Nat.le_of_ble_eq_true rfl), (Nat.le_of_ble_eq_true rfl)⟩) hS (fun _ _ h => h.elim) (fun _ h => h.elim) (fun r6 u t H1 locs ht hvm hw hB hz1 hk1 hS => ?_)
        have hP := hz_keep hP hk1
        clear hk1 hB hz1
        generalize H1 = H at hP hS ⊢
        rcases hw with ⟨x7, x8⟩
        have z2 : (2 : Int32).toInt = 2 := by decide
        refine va_calli (va_runS (As := [.int r6]) (rest := []) ⟨hx, hb, hml, hown, hT⟩ (c_X12_bits l D cs kK kV r6) (va_cwS 1 hT (hz_gS q_1192 q_1193 q_701 q_1194) rfl rfl rfl (by decide +kernel) ⟨(Nat.le_of_ble_eq_true rfl), (Nat.le_of_ble_eq_true rfl)⟩) ⟨hz_P.blind, hz_P.mk (hP.sub (ws' := []) [] rfl) hE hS⟩ rfl rfl hl.1 rfl (lv_room (Nat.le_of_ble_eq_true rfl)) dX12_shout_175 ⟨(Nat.le_of_ble_eq_true rfl), (Nat.le_of_ble_eq_true rfl)⟩) hS (fun _ _ h => h.elim) (fun _ h => h.elim) (fun r9 u t H1 locs ht hvm hw hB hz1 hk1 hS => ?_)
        have hP := hz_keep hP hk1
        clear hk1 hB hz1
        generalize H1 = H at hP hS ⊢
        refine lv_iload_n hx hb dX12_shout_178 rfl (lv_at hl 1 rfl) ?_
        refine va_calli (va_runS (As := [.int k60_L_3]) (rest := [.int r9]) ⟨hx, hb, hml, hown, hT⟩ (c_X12_bits l D cs kK kV k60_L_3) (va_cwS 1 hT (hz_gS q_1192 q_1193 q_701 q_1194) rfl rfl rfl (by decide +kernel) ⟨(Nat.le_of_ble_eq_true rfl), (Nat.le_of_ble_eq_true rfl)⟩) ⟨hz_P.blind, hz_P.mk (hP.sub (ws' := []) [] rfl) hE hS⟩ rfl rfl hl.1 rfl (lv_room (Nat.le_of_ble_eq_true rfl)) dX12_shout_179 ⟨(Nat.le_of_ble_eq_true rfl), (Nat.le_of_ble_eq_true rfl)⟩) hS (fun _ _ h => h.elim) (fun _ h => h.elim) (fun r10 u t H1 locs ht hvm hw hB hz1 hk1 hS => ?_)
        have hP := hz_keep hP hk1
        clear hk1 hB hz1
        generalize H1 = H at hP hS ⊢
        refine lv_isub hx hb dX12_shout_182 ?_
        refine lv_topi (fun v11 ev11 => ?_)
        refine W.widen (k := 0) (n := 0) (Nat.le_of_ble_eq_true rfl) (Nat.le_of_ble_eq_true rfl) ?_
        exact W.iret (v := v11) hx hb hr (fun t ht hW => ⟨⟨v11, (fun k => match k with | 0 => 0 | 1 => k60_F_a_25 | _ => 0, fun k => match k with | 0 => k60_C_a_said | 1 => k60_C_a_wasSaid | _ => fun _ => 0), rfl, (Or.inr ((⟨q60_11, q60_12, q60_9, x60_0, x60_1, x60_2, x60_4⟩))), by rw [ht]; exact hP.sub [0, 1, 2] rfl, hD.sub [0, 1, 2] (by decide) rfl⟩, hS.F ht⟩) hS.2.2 dX12_shout_183
      · have t12 : k60_L_4.toInt < v1.toInt := lin_geN c4 rfl rfl
        have h13 : IV 0 11 k60_L_4 := iv_lt1 (Int32.not_le.mp c4) q60_10 h2 (by decide)
        have ii14 : 0 ≤ k60_L_4.toInt ∧ k60_L_4.toInt ≤ 11 := h13
        have h15 : IV 1 12 v1 := iv_lt2 (Int32.not_le.mp c4) q60_10 h2 (by decide)
        have ii16 : 1 ≤ v1.toInt ∧ v1.toInt ≤ 12 := h15
        refine lv_aload_n hx hb dX12_shout_71 rfl (lv_at hl 2 rfl) ?_
        refine lv_iload hx hb dX12_shout_72 (lv_at hl 0 rfl) ?_
        refine lv_iconst (v := 3) hx hb dX12_shout_74 (by decide) ?_
        refine va_calli (va_runV (As := [.int k60_L_4, .int 3]) (rest := []) ⟨hx, hb, hml, hown, hT⟩ (c_X12_halfOf l D cs kK kV a k60_L_4 3 a_tape a__taped a__rules a_sign a_length a_clause a_clauses a_read a__next a__wrong a__number a__text a__made a__deep a__lines a_open a__opened a_stack a__top a_word a_said a__x a_worth a_mate a_wasSaid k60_F_a_25 a__boughtNow a_wayBy a_wayThen a__walkMost a__walkGoing a__walkSet a_kept a__drawX a_images a_imageX a_isMade k60_C_a_said h13 ((iv_c (by decide))) h_a__taped h_a__rules h_a__next h_a__text h_a__made h_a__lines h_a__opened h_a__top h_a__x ((iv_w q60_9 (by decide) (by decide)))) (cwV 2 hT (hz_gV q_1104 q_1105 q_1106 q_701 q_1107) rfl rfl rfl (by decide +kernel) ⟨(Nat.le_of_ble_eq_true rfl), (Nat.le_of_ble_eq_true rfl)⟩) ⟨hz_P.blind, va_recv hK hP (ci := 12) (q0 := 2) rfl rfl, hz_P.mk (hP.sub (ws' := [(a, .inr (12, [.ref a_tape, .int a__taped, .int a__rules, .ref a_sign, .ref a_length, .ref a_clause, .ref a_clauses, .ref a_read, .int a__next, .int a__wrong, .int a__number, .int a__text, .int a__made, .int a__deep, .int a__lines, .ref a_open, .int a__opened, .ref a_stack, .int a__top, .ref a_word, .ref a_said, .int a__x, .ref a_worth, .ref a_mate, .ref a_wasSaid, .int k60_F_a_25, .int a__boughtNow, .ref a_wayBy, .ref a_wayThen, .int a__walkMost, .int a__walkGoing, .int a__walkSet, .ref a_kept, .long a__drawX, .ref a_images, .ref a_imageX, .ref a_isMade])), (a_said, .inl (cs 0, 123, .inl k60_C_a_said))]) [2,0] rfl) hE hS⟩ rfl rfl hl.1 rfl (lv_room (Nat.le_of_ble_eq_true rfl)) dX12_shout_75 ⟨(Nat.le_of_ble_eq_true rfl), (Nat.le_of_ble_eq_true rfl)⟩) hS (fun _ _ h => h.elim) (fun _ h => h.elim) (fun r17 u t H1 locs ht hvm hw hB hz1 hk1 hS => ?_)
        have hP := hz_keep hP hk1
        clear hk1 hB hz1
        generalize H1 = H at hP hS ⊢
        have x18 := hw
        have z3 : (3 : Int32).toInt = 3 := by decide
        refine lv_istore (lv' := [(5, .int r17), (4, .int k60_L_4), (3, .int k60_L_3), (0, .ref a), (1, .int p0), (2, .int p1)]) hx hb dX12_shout_78 hl (by decide) rfl (fun ls hl => ?_)
        refine lv_iload hx hb dX12_shout_80 (lv_at hl 0 rfl) ?_
        refine lv_bipush (v := 100) hx hb dX12_shout_82 (by decide) ?_
        refine lv_icmp_ge (tgt := 163) hx hb dX12_shout_84 (by decide) (fun c19 => ?_) (fun c19 => ?_)
        · have t20 : r17.toInt ≥ 100 := lin_ge c19 rfl (by decide)
          have h21 : IV 100 2147483647 r17 := iv_le2 c19 (iv_c (a := 100) (b := 100) (by decide)) iv_top (by decide)
          have ii22 : 100 ≤ r17.toInt ∧ r17.toInt ≤ 2147483647 := h21
          obtain ⟨v23, ev23⟩ : ∃ z : Int32, z = k60_L_4 + 1 := ⟨_, rfl⟩
          have hv23 : IV 1 12 v23 := iv_add ev23 h13 (iv_c (a := 1) (b := 1) (by decide)) (by decide) (by decide)
          have dv23 : v23.toInt = k60_L_4.toInt + 1 := iv_addE ev23 h13 (iv_c (a := 1) (b := 1) (by decide)) (by decide) (by decide) (by decide)
          refine lv_iinc (v := v23) (lv' := [(4, .int v23), (5, .int r17), (3, .int k60_L_3), (0, .ref a), (1, .int p0), (2, .int p1)]) hx hb dX12_shout_163 hl (k := 1) rfl (by rw [ev23]; rfl) (by decide) rfl (fun ls hl => ?_)
          refine lv_goto (tgt := 60) hx hb dX12_shout_166 (by decide) ?_
          exact ih60 v23 k60_L_3 k60_C_a_said k60_C_a_wasSaid k60_F_a_25 (by have h9 := h13; unfold IV at h9; have := dv23; omega) q60_9 (iv_w hv23 (by decide) (by decide)) q60_11 q60_12 x60_0 x60_1 x60_2 x60_3 x60_4 H locs (hP.sub (ws' := [(a_said, .inl (cs 0, 123, .inl k60_C_a_said)), (a_wasSaid, .inl (cs 0, 1720, .inl k60_C_a_wasSaid)), (a, .inr (12, [.ref a_tape, .int a__taped, .int a__rules, .ref a_sign, .ref a_length, .ref a_clause, .ref a_clauses, .ref a_read, .int a__next, .int a__wrong, .int a__number, .int a__text, .int a__made, .int a__deep, .int a__lines, .ref a_open, .int a__opened, .ref a_stack, .int a__top, .ref a_word, .ref a_said, .int a__x, .ref a_worth, .ref a_mate, .ref a_wasSaid, .int k60_F_a_25, .int a__boughtNow, .ref a_wayBy, .ref a_wayThen, .int a__walkMost, .int a__walkGoing, .int a__walkSet, .ref a_kept, .long a__drawX, .ref a_images, .ref a_imageX, .ref a_isMade]))]) [0, 1, 2] rfl) (hD.sub (ws' := [(a_said, .inl (cs 0, 123, .inl k60_C_a_said)), (a_wasSaid, .inl (cs 0, 1720, .inl k60_C_a_wasSaid)), (a, .inr (12, [.ref a_tape, .int a__taped, .int a__rules, .ref a_sign, .ref a_length, .ref a_clause, .ref a_clauses, .ref a_read, .int a__next, .int a__wrong, .int a__number, .int a__text, .int a__made, .int a__deep, .int a__lines, .ref a_open, .int a__opened, .ref a_stack, .int a__top, .ref a_word, .ref a_said, .int a__x, .ref a_worth, .ref a_mate, .ref a_wasSaid, .int k60_F_a_25, .int a__boughtNow, .ref a_wayBy, .ref a_wayThen, .int a__walkMost, .int a__walkGoing, .int a__walkSet, .ref a_kept, .long a__drawX, .ref a_images, .ref a_imageX, .ref a_isMade]))]) [0, 1, 2] (by decide) rfl) hS ls (lv_sub hl [0, 2, 3, 4, 5] rfl)
        · have t24 : r17.toInt < 100 := lin_geN c19 rfl (by decide)
          have h25 : IV (-2147483648) 99 r17 := iv_lt1 (Int32.not_le.mp c19) iv_top (iv_c (a := 100) (b := 100) (by decide)) (by decide)
          have ii26 : (-2147483648) ≤ r17.toInt ∧ r17.toInt ≤ 99 := h25
          have q9 := bs_b x60_0 (by omega)
          refine lv_aload_n hx hb dX12_shout_87 rfl (lv_at hl 3 rfl) ?_
          refine lv_aload_n hx hb dX12_shout_88 rfl (lv_at hl 3 rfl) ?_
          refine lv_iload hx hb dX12_shout_89 (lv_at hl 0 rfl) ?_
          refine lv_aload_n hx hb dX12_shout_91 rfl (lv_at hl 3 rfl) ?_
          refine va_get (D := D) (ci := 12) (v := .ref a_said) (C := RX12) (T := TX12) (N := 37) hx hb hT i_X12 hown hK hP 2 rfl rfl 20 (by decide) (hT _ q_185) (fun _ h9 => h9) rfl dX12_shout_92 ?_
          refine lv_iconst (v := 3) hx hb dX12_shout_95 (by decide) ?_
          refine va_iald hx hb hK hP 0 0 rfl rfl (iv_vc (by decide)) dX12_shout_96 ?_
          refine lv_topi (fun v27 ev27 => ?_)
          have h28 : IV 0 200 v27 := (by rw [ev27]; exact bs_i3 x60_0)
          have ii29 : 0 ≤ v27.toInt ∧ v27.toInt ≤ 200 := h28
          have lv27 : v27.toInt = (k60_C_a_said 3).toInt := by rw [ev27]; rfl
          refine va_calli (va_runV (As := [.int r17, .int v27]) (rest := [.ref a]) ⟨hx, hb, hml, hown, hT⟩ (c_X12_spotAt l D cs kK kV a r17 v27 a_said k60_C_a_said a_tape a__taped a__rules a_sign a_length a_clause a_clauses a_read a__next a__wrong a__number a__text a__made a__deep a__lines a_open a__opened a_stack a__top a_word a__x a_worth a_mate a_wasSaid k60_F_a_25 a__boughtNow a_wayBy a_wayThen a__walkMost a__walkGoing a__walkSet a_kept a__drawX a_images a_imageX a_isMade ((iv_w h28 (by decide) (by decide))) h_a__taped h_a__rules h_a__next h_a__text h_a__made h_a__lines h_a__opened h_a__top h_a__x ((iv_w q60_9 (by decide) (by decide))) x60_0 ((by omega))) (cwV 2 hT (hz_gV q_1108 q_1109 q_1110 q_701 q_1111) rfl rfl rfl (by decide +kernel) ⟨(Nat.le_of_ble_eq_true rfl), (Nat.le_of_ble_eq_true rfl)⟩) ⟨hz_P.blind, va_recv hK hP (ci := 12) (q0 := 2) rfl rfl, hz_P.mk (hP.sub (ws' := [(a_said, .inl (cs 0, 123, .inl k60_C_a_said)), (a, .inr (12, [.ref a_tape, .int a__taped, .int a__rules, .ref a_sign, .ref a_length, .ref a_clause, .ref a_clauses, .ref a_read, .int a__next, .int a__wrong, .int a__number, .int a__text, .int a__made, .int a__deep, .int a__lines, .ref a_open, .int a__opened, .ref a_stack, .int a__top, .ref a_word, .ref a_said, .int a__x, .ref a_worth, .ref a_mate, .ref a_wasSaid, .int k60_F_a_25, .int a__boughtNow, .ref a_wayBy, .ref a_wayThen, .int a__walkMost, .int a__walkGoing, .int a__walkSet, .ref a_kept, .long a__drawX, .ref a_images, .ref a_imageX, .ref a_isMade]))]) [0,2] rfl) hE hS⟩ rfl rfl hl.1 rfl (lv_room (Nat.le_of_ble_eq_true rfl)) dX12_shout_97 ⟨(Nat.le_of_ble_eq_true rfl), (Nat.le_of_ble_eq_true rfl)⟩) hS (fun _ _ h => h.elim) (fun _ h => h.elim) (fun r30 u t H1 locs ht hvm hw hB hz1 hk1 hS => ?_)
          have hP := hz_keep hP hk1
          clear hk1 hB hz1
          generalize H1 = H at hP hS ⊢
          rcases hw with ⟨h31, x32⟩
          have ii33 : (-7) ≤ r30.toInt ∧ r30.toInt ≤ 7 := h31
          refine lv_aload_n hx hb dX12_shout_100 rfl (lv_at hl 3 rfl) ?_
          refine lv_iload_n hx hb dX12_shout_101 rfl (lv_at hl 4 rfl) ?_
          refine lv_iconst (v := 1) hx hb dX12_shout_102 (by decide) ?_
          refine va_calli (va_runV (As := [.int p0, .int 1]) (rest := [.int r30, .ref a]) ⟨hx, hb, hml, hown, hT⟩ (c_X12_buyerOf l D cs kK kV a p0 1 a_said k60_C_a_said a_tape a__taped a__rules a_sign a_length a_clause a_clauses a_read a__next a__wrong a__number a__text a__made a__deep a__lines a_open a__opened a_stack a__top a_word a__x a_worth a_mate a_wasSaid k60_F_a_25 a__boughtNow a_wayBy a_wayThen a__walkMost a__walkGoing a__walkSet a_kept a__drawX a_images a_imageX a_isMade q60_11 ((iv_c (by decide))) h_a__taped h_a__rules h_a__next h_a__text h_a__made h_a__lines h_a__opened h_a__top h_a__x ((iv_w q60_9 (by decide) (by decide))) x60_0) (cwV 2 hT (hz_gV q_1120 q_1121 q_1122 q_701 q_1123) rfl rfl rfl (by decide +kernel) ⟨(Nat.le_of_ble_eq_true rfl), (Nat.le_of_ble_eq_true rfl)⟩) ⟨hz_P.blind, va_recv hK hP (ci := 12) (q0 := 2) rfl rfl, hz_P.mk (hP.sub (ws' := [(a_said, .inl (cs 0, 123, .inl k60_C_a_said)), (a, .inr (12, [.ref a_tape, .int a__taped, .int a__rules, .ref a_sign, .ref a_length, .ref a_clause, .ref a_clauses, .ref a_read, .int a__next, .int a__wrong, .int a__number, .int a__text, .int a__made, .int a__deep, .int a__lines, .ref a_open, .int a__opened, .ref a_stack, .int a__top, .ref a_word, .ref a_said, .int a__x, .ref a_worth, .ref a_mate, .ref a_wasSaid, .int k60_F_a_25, .int a__boughtNow, .ref a_wayBy, .ref a_wayThen, .int a__walkMost, .int a__walkGoing, .int a__walkSet, .ref a_kept, .long a__drawX, .ref a_images, .ref a_imageX, .ref a_isMade]))]) [0,2] rfl) hE hS⟩ rfl rfl hl.1 rfl (lv_room (Nat.le_of_ble_eq_true rfl)) dX12_shout_103 ⟨(Nat.le_of_ble_eq_true rfl), (Nat.le_of_ble_eq_true rfl)⟩) hS (fun _ _ h => h.elim) (fun _ h => h.elim) (fun r34 u t H1 locs ht hvm hw hB hz1 hk1 hS => ?_)
          have hP := hz_keep hP hk1
          clear hk1 hB hz1
          generalize H1 = H at hP hS ⊢
          rcases hw with ⟨x35, x36⟩
          refine va_calli (va_runV (As := [.int r30, .int r34]) (rest := []) ⟨hx, hb, hml, hown, hT⟩ (c_X12_far l D cs kK kV a r30 r34 a_tape a__taped a__rules a_sign a_length a_clause a_clauses a_read a__next a__wrong a__number a__text a__made a__deep a__lines a_open a__opened a_stack a__top a_word a_said a__x a_worth a_mate a_wasSaid k60_F_a_25 a__boughtNow a_wayBy a_wayThen a__walkMost a__walkGoing a__walkSet a_kept a__drawX a_images a_imageX a_isMade k60_C_a_said h_a__taped h_a__rules h_a__next h_a__text h_a__made h_a__lines h_a__opened h_a__top h_a__x ((iv_w q60_9 (by decide) (by decide)))) (cwV 2 hT (hz_gV q_1188 q_1189 q_1190 q_701 q_1191) rfl rfl rfl (by decide +kernel) ⟨(Nat.le_of_ble_eq_true rfl), (Nat.le_of_ble_eq_true rfl)⟩) ⟨hz_P.blind, va_recv hK hP (ci := 12) (q0 := 2) rfl rfl, hz_P.mk (hP.sub (ws' := [(a, .inr (12, [.ref a_tape, .int a__taped, .int a__rules, .ref a_sign, .ref a_length, .ref a_clause, .ref a_clauses, .ref a_read, .int a__next, .int a__wrong, .int a__number, .int a__text, .int a__made, .int a__deep, .int a__lines, .ref a_open, .int a__opened, .ref a_stack, .int a__top, .ref a_word, .ref a_said, .int a__x, .ref a_worth, .ref a_mate, .ref a_wasSaid, .int k60_F_a_25, .int a__boughtNow, .ref a_wayBy, .ref a_wayThen, .int a__walkMost, .int a__walkGoing, .int a__walkSet, .ref a_kept, .long a__drawX, .ref a_images, .ref a_imageX, .ref a_isMade])), (a_said, .inl (cs 0, 123, .inl k60_C_a_said))]) [2,0] rfl) hE hS⟩ rfl rfl hl.1 rfl (lv_room (Nat.le_of_ble_eq_true rfl)) dX12_shout_106 ⟨(Nat.le_of_ble_eq_true rfl), (Nat.le_of_ble_eq_true rfl)⟩) hS (fun _ _ h => h.elim) (fun _ h => h.elim) (fun r37 u t H1 locs ht hvm hw hB hz1 hk1 hS => ?_)
          have hP := hz_keep hP hk1
          clear hk1 hB hz1
          generalize H1 = H at hP hS ⊢
          refine lv_aload_n hx hb dX12_shout_109 rfl (lv_at hl 3 rfl) ?_
          refine va_get (D := D) (ci := 12) (v := .ref a_said) (C := RX12) (T := TX12) (N := 37) hx hb hT i_X12 hown hK hP 2 rfl rfl 20 (by decide) (hT _ q_185) (fun _ h9 => h9) rfl dX12_shout_110 ?_
          refine lv_bipush (v := 8) hx hb dX12_shout_113 (by decide) ?_
          refine va_iald hx hb hK hP 0 0 rfl rfl (iv_vc (by decide)) dX12_shout_115 ?_
          refine lv_topi (fun v38 ev38 => ?_)
          have lv38 : v38.toInt = (k60_C_a_said 8).toInt := by rw [ev38]; rfl
          refine lv_icmp_gt (tgt := 163) hx hb dX12_shout_116 (by decide) (fun c39 => ?_) (fun c39 => ?_)
          · have t40 : r37.toInt > v38.toInt := lin_gt c39 rfl rfl
            have h41 : IV (-2147483648) 2147483646 v38 := iv_lt1 c39 iv_top iv_top (by decide)
            have ii42 : (-2147483648) ≤ v38.toInt ∧ v38.toInt ≤ 2147483646 := h41
            have h43 : IV (-2147483647) 2147483647 r37 := iv_lt2 c39 iv_top iv_top (by decide)
            have ii44 : (-2147483647) ≤ r37.toInt ∧ r37.toInt ≤ 2147483647 := h43
            obtain ⟨v45, ev45⟩ : ∃ z : Int32, z = k60_L_4 + 1 := ⟨_, rfl⟩
            have hv45 : IV 1 12 v45 := iv_add ev45 h13 (iv_c (a := 1) (b := 1) (by decide)) (by decide) (by decide)
            have dv45 : v45.toInt = k60_L_4.toInt + 1 := iv_addE ev45 h13 (iv_c (a := 1) (b := 1) (by decide)) (by decide) (by decide) (by decide)
            refine lv_iinc (v := v45) (lv' := [(4, .int v45), (5, .int r17), (3, .int k60_L_3), (0, .ref a), (1, .int p0), (2, .int p1)]) hx hb dX12_shout_163 hl (k := 1) rfl (by rw [ev45]; rfl) (by decide) rfl (fun ls hl => ?_)
            refine lv_goto (tgt := 60) hx hb dX12_shout_166 (by decide) ?_
            exact ih60 v45 k60_L_3 k60_C_a_said k60_C_a_wasSaid k60_F_a_25 (by have h9 := h13; unfold IV at h9; have := dv45; omega) q60_9 (iv_w hv45 (by decide) (by decide)) q60_11 q60_12 x60_0 x60_1 x60_2 x60_3 x60_4 H locs (hP.sub (ws' := [(a_said, .inl (cs 0, 123, .inl k60_C_a_said)), (a_wasSaid, .inl (cs 0, 1720, .inl k60_C_a_wasSaid)), (a, .inr (12, [.ref a_tape, .int a__taped, .int a__rules, .ref a_sign, .ref a_length, .ref a_clause, .ref a_clauses, .ref a_read, .int a__next, .int a__wrong, .int a__number, .int a__text, .int a__made, .int a__deep, .int a__lines, .ref a_open, .int a__opened, .ref a_stack, .int a__top, .ref a_word, .ref a_said, .int a__x, .ref a_worth, .ref a_mate, .ref a_wasSaid, .int k60_F_a_25, .int a__boughtNow, .ref a_wayBy, .ref a_wayThen, .int a__walkMost, .int a__walkGoing, .int a__walkSet, .ref a_kept, .long a__drawX, .ref a_images, .ref a_imageX, .ref a_isMade]))]) [0, 1, 2] rfl) (hD.sub (ws' := [(a_said, .inl (cs 0, 123, .inl k60_C_a_said)), (a_wasSaid, .inl (cs 0, 1720, .inl k60_C_a_wasSaid)), (a, .inr (12, [.ref a_tape, .int a__taped, .int a__rules, .ref a_sign, .ref a_length, .ref a_clause, .ref a_clauses, .ref a_read, .int a__next, .int a__wrong, .int a__number, .int a__text, .int a__made, .int a__deep, .int a__lines, .ref a_open, .int a__opened, .ref a_stack, .int a__top, .ref a_word, .ref a_said, .int a__x, .ref a_worth, .ref a_mate, .ref a_wasSaid, .int k60_F_a_25, .int a__boughtNow, .ref a_wayBy, .ref a_wayThen, .int a__walkMost, .int a__walkGoing, .int a__walkSet, .ref a_kept, .long a__drawX, .ref a_images, .ref a_imageX, .ref a_isMade]))]) [0, 1, 2] (by decide) rfl) hS ls (lv_sub hl [0, 2, 3, 4, 5] rfl)
          · have t46 : r37.toInt ≤ v38.toInt := lin_gtN c39 rfl rfl
            refine lv_aload_n hx hb dX12_shout_119 rfl (lv_at hl 3 rfl) ?_
            refine lv_aload_n hx hb dX12_shout_120 rfl (lv_at hl 3 rfl) ?_
            refine lv_iload hx hb dX12_shout_121 (lv_at hl 1 rfl) ?_
            refine lv_iconst (v := 0) hx hb dX12_shout_123 (by decide) ?_
            refine va_calli (va_runV (As := [.int k60_L_4, .int 0]) (rest := [.ref a]) ⟨hx, hb, hml, hown, hT⟩ (c_X12_halfOf l D cs kK kV a k60_L_4 0 a_tape a__taped a__rules a_sign a_length a_clause a_clauses a_read a__next a__wrong a__number a__text a__made a__deep a__lines a_open a__opened a_stack a__top a_word a_said a__x a_worth a_mate a_wasSaid k60_F_a_25 a__boughtNow a_wayBy a_wayThen a__walkMost a__walkGoing a__walkSet a_kept a__drawX a_images a_imageX a_isMade k60_C_a_said h13 ((iv_c (by decide))) h_a__taped h_a__rules h_a__next h_a__text h_a__made h_a__lines h_a__opened h_a__top h_a__x ((iv_w q60_9 (by decide) (by decide)))) (cwV 2 hT (hz_gV q_1104 q_1105 q_1106 q_701 q_1107) rfl rfl rfl (by decide +kernel) ⟨(Nat.le_of_ble_eq_true rfl), (Nat.le_of_ble_eq_true rfl)⟩) ⟨hz_P.blind, va_recv hK hP (ci := 12) (q0 := 2) rfl rfl, hz_P.mk (hP.sub (ws' := [(a, .inr (12, [.ref a_tape, .int a__taped, .int a__rules, .ref a_sign, .ref a_length, .ref a_clause, .ref a_clauses, .ref a_read, .int a__next, .int a__wrong, .int a__number, .int a__text, .int a__made, .int a__deep, .int a__lines, .ref a_open, .int a__opened, .ref a_stack, .int a__top, .ref a_word, .ref a_said, .int a__x, .ref a_worth, .ref a_mate, .ref a_wasSaid, .int k60_F_a_25, .int a__boughtNow, .ref a_wayBy, .ref a_wayThen, .int a__walkMost, .int a__walkGoing, .int a__walkSet, .ref a_kept, .long a__drawX, .ref a_images, .ref a_imageX, .ref a_isMade])), (a_said, .inl (cs 0, 123, .inl k60_C_a_said))]) [2,0] rfl) hE hS⟩ rfl rfl hl.1 rfl (lv_room (Nat.le_of_ble_eq_true rfl)) dX12_shout_124 ⟨(Nat.le_of_ble_eq_true rfl), (Nat.le_of_ble_eq_true rfl)⟩) hS (fun _ _ h => h.elim) (fun _ h => h.elim) (fun r47 u t H1 locs ht hvm hw hB hz1 hk1 hS => ?_)
            have hP := hz_keep hP hk1
            clear hk1 hB hz1
            generalize H1 = H at hP hS ⊢
            have x48 := hw
            refine lv_iload_n hx hb dX12_shout_127 rfl (lv_at hl 5 rfl) ?_
            refine va_calli (va_runV (As := [.int r47, .int p1]) (rest := []) ⟨hx, hb, hml, hown, hT⟩ (c_X12_apart l D cs kK kV a r47 p1) (cwV 2 hT (hz_gV q_1112 q_1113 q_1114 q_701 q_1115) rfl rfl rfl (by decide +kernel) ⟨(Nat.le_of_ble_eq_true rfl), (Nat.le_of_ble_eq_true rfl)⟩) ⟨hz_P.blind, va_recv hK hP (ci := 12) (q0 := 2) rfl rfl, hz_P.mk (hP.sub (ws' := []) [] rfl) hE hS⟩ rfl rfl hl.1 rfl (lv_room (Nat.le_of_ble_eq_true rfl)) dX12_shout_128 ⟨(Nat.le_of_ble_eq_true rfl), (Nat.le_of_ble_eq_true rfl)⟩) hS (fun _ _ h => h.elim) (fun _ h => h.elim) (fun r49 u t H1 locs ht hvm hw hB hz1 hk1 hS => ?_)
            have hP := hz_keep hP hk1
            clear hk1 hB hz1
            generalize H1 = H at hP hS ⊢
            refine lv_aload_n hx hb dX12_shout_131 rfl (lv_at hl 3 rfl) ?_
            refine va_get (D := D) (ci := 12) (v := .ref a_said) (C := RX12) (T := TX12) (N := 37) hx hb hT i_X12 hown hK hP 2 rfl rfl 20 (by decide) (hT _ q_185) (fun _ h9 => h9) rfl dX12_shout_132 ?_
            refine lv_iconst (v := 5) hx hb dX12_shout_135 (by decide) ?_
            refine va_iald hx hb hK hP 0 0 rfl rfl (iv_vc (by decide)) dX12_shout_136 ?_
            refine lv_topi (fun v50 ev50 => ?_)
            have lv50 : v50.toInt = (k60_C_a_said 5).toInt := by rw [ev50]; rfl
            refine lv_icmp_le (tgt := 143) hx hb dX12_shout_137 (by decide) (fun c51 => ?_) (fun c51 => ?_)
            · have t52 : r49.toInt ≤ v50.toInt := lin_le c51 rfl rfl
              refine lv_aload_n hx hb dX12_shout_143 rfl (lv_at hl 3 rfl) ?_
              refine va_get (D := D) (ci := 12) (v := .ref a_said) (C := RX12) (T := TX12) (N := 37) hx hb hT i_X12 hown hK hP 2 rfl rfl 20 (by decide) (hT _ q_185) (fun _ h9 => h9) rfl dX12_shout_144 ?_
              refine lv_bipush (v := 70) hx hb dX12_shout_147 (by decide) ?_
              refine lv_iconst (v := 4) hx hb dX12_shout_149 (by decide) ?_
              refine lv_iload_n hx hb dX12_shout_150 rfl (lv_at hl 4 rfl) ?_
              refine lv_imul hx hb dX12_shout_151 ?_
              refine lv_topi (fun v53 ev53 => ?_)
              have hv53 : IV 0 12 v53 := iv_mul ev53 (iv_c (a := 4) (b := 4) (by decide)) q60_11 (by decide) (by decide) (by decide) (by decide)
              have ii54 : 0 ≤ v53.toInt ∧ v53.toInt ≤ 12 := hv53
              have lv53 : v53.toInt = 4 * p0.toInt := lin_mul ev53 (iv_c (a := 4) (b := 4) (by decide)) q60_11 (by decide) rfl (by decide) (by decide) (by decide) (by decide)
              refine lv_iadd hx hb dX12_shout_152 ?_
              refine lv_topi (fun v55 ev55 => ?_)
              have hv55 : IV 70 82 v55 := iv_add ev55 (iv_c (a := 70) (b := 70) (by decide)) hv53 (by decide) (by decide)
              have ii56 : 70 ≤ v55.toInt ∧ v55.toInt ≤ 82 := hv55
              have lv55 : v55.toInt = 70 + v53.toInt := lin_add ev55 (iv_c (a := 70) (b := 70) (by decide)) hv53 (by decide) rfl (by decide) (by decide)
              refine lv_iconst (v := 2) hx hb dX12_shout_153 (by decide) ?_
              refine lv_iadd hx hb dX12_shout_154 ?_
              refine lv_topi (fun v57 ev57 => ?_)
              have hv57 : IV 72 84 v57 := iv_add ev57 hv55 (iv_c (a := 2) (b := 2) (by decide)) (by decide) (by decide)
              have ii58 : 72 ≤ v57.toInt ∧ v57.toInt ≤ 84 := hv57
              have dv57 : v57.toInt = v55.toInt + 2 := iv_addE ev57 hv55 (iv_c (a := 2) (b := 2) (by decide)) (by decide) (by decide) (by decide)
              have lv57 : v57.toInt = v55.toInt + 2 := lin_add ev57 hv55 (iv_c (a := 2) (b := 2) (by decide)) rfl (by decide) (by decide) (by decide)
              refine lv_dup2_11 hx hb dX12_shout_155 rfl rfl ?_
              refine va_iald hx hb hK hP 0 0 rfl rfl (iv_v hv57 (by decide) (by decide)) dX12_shout_156 ?_
              refine lv_topi (fun v59 ev59 => ?_)
              have lv59 : v59.toInt = (k60_C_a_said (Int32.toNatClampNeg v57)).toInt := by rw [ev59]
              refine lv_iconst (v := 1) hx hb dX12_shout_157 (by decide) ?_
              refine lv_iload hx hb dX12_shout_158 (lv_at hl 1 rfl) ?_
              refine lv_ishl hx hb dX12_shout_160 ?_
              refine lv_topi (fun v60 ev60 => ?_)
              have hv60 : IV 1 2048 v60 := iv_shl1 ev60 h13 (by decide) (by decide) (by decide)
              have ii61 : 1 ≤ v60.toInt ∧ v60.toInt ≤ 2048 := hv60
              refine lv_ior hx hb dX12_shout_161 ?_
              refine lv_topi (fun v62 ev62 => ?_)
              refine va_iast hx hb hK hP hD hS 0 0 rfl rfl (iv_v hv57 (by decide) (by decide)) dX12_shout_162 (fun H locs hP hD hS => ?_)
              have hP : va_P D classes [(a_said, .inl (cs 0, 123, .inl (upd k60_C_a_said (Int32.toNatClampNeg v57) v62))), (a_wasSaid, .inl (cs 0, 1720, .inl k60_C_a_wasSaid)), (a, .inr (12, [.ref a_tape, .int a__taped, .int a__rules, .ref a_sign, .ref a_length, .ref a_clause, .ref a_clauses, .ref a_read, .int a__next, .int a__wrong, .int a__number, .int a__text, .int a__made, .int a__deep, .int a__lines, .ref a_open, .int a__opened, .ref a_stack, .int a__top, .ref a_word, .ref a_said, .int a__x, .ref a_worth, .ref a_mate, .ref a_wasSaid, .int k60_F_a_25, .int a__boughtNow, .ref a_wayBy, .ref a_wayThen, .int a__walkMost, .int a__walkGoing, .int a__walkSet, .ref a_kept, .long a__drawX, .ref a_images, .ref a_imageX, .ref a_isMade]))] H := hP
              have hD : va_D A [(a_said, .inl (cs 0, 123, .inl (upd k60_C_a_said (Int32.toNatClampNeg v57) v62))), (a_wasSaid, .inl (cs 0, 1720, .inl k60_C_a_wasSaid)), (a, .inr (12, [.ref a_tape, .int a__taped, .int a__rules, .ref a_sign, .ref a_length, .ref a_clause, .ref a_clauses, .ref a_read, .int a__next, .int a__wrong, .int a__number, .int a__text, .int a__made, .int a__deep, .int a__lines, .ref a_open, .int a__opened, .ref a_stack, .int a__top, .ref a_word, .ref a_said, .int a__x, .ref a_worth, .ref a_mate, .ref a_wasSaid, .int k60_F_a_25, .int a__boughtNow, .ref a_wayBy, .ref a_wayThen, .int a__walkMost, .int a__walkGoing, .int a__walkSet, .ref a_kept, .long a__drawX, .ref a_images, .ref a_imageX, .ref a_isMade]))] := hD
              obtain ⟨f63, uf63⟩ : ∃ z, z = upd k60_C_a_said (Int32.toNatClampNeg v57) v62 := ⟨_, rfl⟩
              rw [← uf63] at hP hD
              have wf63 : (f63 (Int32.toNatClampNeg v57)).toInt = v62.toInt := lin_us uf63 rfl
              have kk64 : (f63 0).toInt = (k60_C_a_said 0).toInt := congrArg Int32.toInt (by rw [uf63, pk_un (show 0 ≠ Int32.toNatClampNeg v57 from by (have q : Int32.toNatClampNeg v57 = v57.toInt.toNat := rfl); omega)])
              have kk65 : (f63 1).toInt = (k60_C_a_said 1).toInt := congrArg Int32.toInt (by rw [uf63, pk_un (show 1 ≠ Int32.toNatClampNeg v57 from by (have q : Int32.toNatClampNeg v57 = v57.toInt.toNat := rfl); omega)])
              have kk66 : (f63 2).toInt = (k60_C_a_said 2).toInt := congrArg Int32.toInt (by rw [uf63, pk_un (show 2 ≠ Int32.toNatClampNeg v57 from by (have q : Int32.toNatClampNeg v57 = v57.toInt.toNat := rfl); omega)])
              have kk67 : (f63 3).toInt = (k60_C_a_said 3).toInt := congrArg Int32.toInt (by rw [uf63, pk_un (show 3 ≠ Int32.toNatClampNeg v57 from by (have q : Int32.toNatClampNeg v57 = v57.toInt.toNat := rfl); omega)])
              have fb68 : BS f63 200 := (bs_upd x60_0 uf63 (show Int32.toNatClampNeg v57 ≠ 0 ∧ Int32.toNatClampNeg v57 ≠ 1 ∧ Int32.toNatClampNeg v57 ≠ 2 ∧ Int32.toNatClampNeg v57 ≠ 3 ∧ Int32.toNatClampNeg v57 ≠ 4 ∧ Int32.toNatClampNeg v57 ≠ 71 ∧ Int32.toNatClampNeg v57 ≠ 75 ∧ Int32.toNatClampNeg v57 ≠ 79 ∧ Int32.toNatClampNeg v57 ≠ 83 from by (have q : Int32.toNatClampNeg v57 = v57.toInt.toNat := rfl); omega))
              have fb69 : TR f63 := tr_upd x60_1 uf63 (show Int32.toNatClampNeg v57 < 86 from by (have q : Int32.toNatClampNeg v57 = v57.toInt.toNat := rfl); omega)
              obtain ⟨v70, ev70⟩ : ∃ z : Int32, z = k60_L_4 + 1 := ⟨_, rfl⟩
              have hv70 : IV 1 12 v70 := iv_add ev70 h13 (iv_c (a := 1) (b := 1) (by decide)) (by decide) (by decide)
              have dv70 : v70.toInt = k60_L_4.toInt + 1 := iv_addE ev70 h13 (iv_c (a := 1) (b := 1) (by decide)) (by decide) (by decide) (by decide)
              refine lv_iinc (v := v70) (lv' := [(4, .int v70), (5, .int r17), (3, .int k60_L_3), (0, .ref a), (1, .int p0), (2, .int p1)]) hx hb dX12_shout_163 hl (k := 1) rfl (by rw [ev70]; rfl) (by decide) rfl (fun ls hl => ?_)
              refine lv_goto (tgt := 60) hx hb dX12_shout_166 (by decide) ?_
              exact ih60 v70 k60_L_3 f63 k60_C_a_wasSaid k60_F_a_25 (by have h9 := h13; unfold IV at h9; have := dv70; omega) q60_9 (iv_w hv70 (by decide) (by decide)) q60_11 q60_12 fb68 fb69 (by omega) (by omega) x60_4 H locs (hP.sub (ws' := [(a_said, .inl (cs 0, 123, .inl f63)), (a_wasSaid, .inl (cs 0, 1720, .inl k60_C_a_wasSaid)), (a, .inr (12, [.ref a_tape, .int a__taped, .int a__rules, .ref a_sign, .ref a_length, .ref a_clause, .ref a_clauses, .ref a_read, .int a__next, .int a__wrong, .int a__number, .int a__text, .int a__made, .int a__deep, .int a__lines, .ref a_open, .int a__opened, .ref a_stack, .int a__top, .ref a_word, .ref a_said, .int a__x, .ref a_worth, .ref a_mate, .ref a_wasSaid, .int k60_F_a_25, .int a__boughtNow, .ref a_wayBy, .ref a_wayThen, .int a__walkMost, .int a__walkGoing, .int a__walkSet, .ref a_kept, .long a__drawX, .ref a_images, .ref a_imageX, .ref a_isMade]))]) [0, 1, 2] rfl) (hD.sub (ws' := [(a_said, .inl (cs 0, 123, .inl f63)), (a_wasSaid, .inl (cs 0, 1720, .inl k60_C_a_wasSaid)), (a, .inr (12, [.ref a_tape, .int a__taped, .int a__rules, .ref a_sign, .ref a_length, .ref a_clause, .ref a_clauses, .ref a_read, .int a__next, .int a__wrong, .int a__number, .int a__text, .int a__made, .int a__deep, .int a__lines, .ref a_open, .int a__opened, .ref a_stack, .int a__top, .ref a_word, .ref a_said, .int a__x, .ref a_worth, .ref a_mate, .ref a_wasSaid, .int k60_F_a_25, .int a__boughtNow, .ref a_wayBy, .ref a_wayThen, .int a__walkMost, .int a__walkGoing, .int a__walkSet, .ref a_kept, .long a__drawX, .ref a_images, .ref a_imageX, .ref a_isMade]))]) [0, 1, 2] (by decide) rfl) hS ls (lv_sub hl [0, 2, 3, 4, 5] rfl)
            · have t71 : r49.toInt > v50.toInt := lin_leN c51 rfl rfl
              have h72 : IV (-2147483648) 2147483646 v50 := iv_lt1 (Int32.not_le.mp c51) iv_top iv_top (by decide)
              have ii73 : (-2147483648) ≤ v50.toInt ∧ v50.toInt ≤ 2147483646 := h72
              have h74 : IV (-2147483647) 2147483647 r49 := iv_lt2 (Int32.not_le.mp c51) iv_top iv_top (by decide)
              have ii75 : (-2147483647) ≤ r49.toInt ∧ r49.toInt ≤ 2147483647 := h74
              refine lv_goto (tgt := 163) hx hb dX12_shout_140 (by decide) ?_
              obtain ⟨v76, ev76⟩ : ∃ z : Int32, z = k60_L_4 + 1 := ⟨_, rfl⟩
              have hv76 : IV 1 12 v76 := iv_add ev76 h13 (iv_c (a := 1) (b := 1) (by decide)) (by decide) (by decide)
              have dv76 : v76.toInt = k60_L_4.toInt + 1 := iv_addE ev76 h13 (iv_c (a := 1) (b := 1) (by decide)) (by decide) (by decide) (by decide)
              refine lv_iinc (v := v76) (lv' := [(4, .int v76), (5, .int r17), (3, .int k60_L_3), (0, .ref a), (1, .int p0), (2, .int p1)]) hx hb dX12_shout_163 hl (k := 1) rfl (by rw [ev76]; rfl) (by decide) rfl (fun ls hl => ?_)
              refine lv_goto (tgt := 60) hx hb dX12_shout_166 (by decide) ?_
              exact ih60 v76 k60_L_3 k60_C_a_said k60_C_a_wasSaid k60_F_a_25 (by have h9 := h13; unfold IV at h9; have := dv76; omega) q60_9 (iv_w hv76 (by decide) (by decide)) q60_11 q60_12 x60_0 x60_1 x60_2 x60_3 x60_4 H locs (hP.sub (ws' := [(a_said, .inl (cs 0, 123, .inl k60_C_a_said)), (a_wasSaid, .inl (cs 0, 1720, .inl k60_C_a_wasSaid)), (a, .inr (12, [.ref a_tape, .int a__taped, .int a__rules, .ref a_sign, .ref a_length, .ref a_clause, .ref a_clauses, .ref a_read, .int a__next, .int a__wrong, .int a__number, .int a__text, .int a__made, .int a__deep, .int a__lines, .ref a_open, .int a__opened, .ref a_stack, .int a__top, .ref a_word, .ref a_said, .int a__x, .ref a_worth, .ref a_mate, .ref a_wasSaid, .int k60_F_a_25, .int a__boughtNow, .ref a_wayBy, .ref a_wayThen, .int a__walkMost, .int a__walkGoing, .int a__walkSet, .ref a_kept, .long a__drawX, .ref a_images, .ref a_imageX, .ref a_isMade]))]) [0, 1, 2] rfl) (hD.sub (ws' := [(a_said, .inl (cs 0, 123, .inl k60_C_a_said)), (a_wasSaid, .inl (cs 0, 1720, .inl k60_C_a_wasSaid)), (a, .inr (12, [.ref a_tape, .int a__taped, .int a__rules, .ref a_sign, .ref a_length, .ref a_clause, .ref a_clauses, .ref a_read, .int a__next, .int a__wrong, .int a__number, .int a__text, .int a__made, .int a__deep, .int a__lines, .ref a_open, .int a__opened, .ref a_stack, .int a__top, .ref a_word, .ref a_said, .int a__x, .ref a_worth, .ref a_mate, .ref a_wasSaid, .int k60_F_a_25, .int a__boughtNow, .ref a_wayBy, .ref a_wayThen, .int a__walkMost, .int a__walkGoing, .int a__walkSet, .ref a_kept, .long a__drawX, .ref a_images, .ref a_imageX, .ref a_isMade]))]) [0, 1, 2] (by decide) rfl) hS ls (lv_sub hl [0, 2, 3, 4, 5] rfl)
  refine lv_aload_n hx hb dX12_shout_0 rfl (lv_at hl 0 rfl) ?_
  refine lv_iload_n hx hb dX12_shout_1 rfl (lv_at hl 1 rfl) ?_
  refine va_calli (va_runV (As := [.int p0]) (rest := []) ⟨hx, hb, hml, hown, hT⟩ (c_X12_isBuyer l D cs kK kV a p0 a_said a_said_c a_tape a__taped a__rules a_sign a_length a_clause a_clauses a_read a__next a__wrong a__number a__text a__made a__deep a__lines a_open a__opened a_stack a__top a_word a__x a_worth a_mate a_wasSaid a__undone a__boughtNow a_wayBy a_wayThen a__walkMost a__walkGoing a__walkSet a_kept a__drawX a_images a_imageX a_isMade h_a__taped h_a__rules h_a__next h_a__text h_a__made h_a__lines h_a__opened h_a__top h_a__x h_a__undone hf0) (cwV 1 hT (hz_gV q_1156 q_1157 q_1158 q_701 q_1159) rfl rfl rfl (by decide +kernel) ⟨(Nat.le_of_ble_eq_true rfl), (Nat.le_of_ble_eq_true rfl)⟩) ⟨hz_P.blind, va_recv hK hP (ci := 12) (q0 := 2) rfl rfl, hz_P.mk (hP.sub (ws' := [(a_said, .inl (cs 0, 123, .inl a_said_c)), (a, .inr (12, [.ref a_tape, .int a__taped, .int a__rules, .ref a_sign, .ref a_length, .ref a_clause, .ref a_clauses, .ref a_read, .int a__next, .int a__wrong, .int a__number, .int a__text, .int a__made, .int a__deep, .int a__lines, .ref a_open, .int a__opened, .ref a_stack, .int a__top, .ref a_word, .ref a_said, .int a__x, .ref a_worth, .ref a_mate, .ref a_wasSaid, .int a__undone, .int a__boughtNow, .ref a_wayBy, .ref a_wayThen, .int a__walkMost, .int a__walkGoing, .int a__walkSet, .ref a_kept, .long a__drawX, .ref a_images, .ref a_imageX, .ref a_isMade]))]) [0,2] rfl) hE hS⟩ rfl rfl hl.1 rfl (lv_room (Nat.le_of_ble_eq_true rfl)) dX12_shout_2 ⟨(Nat.le_of_ble_eq_true rfl), (Nat.le_of_ble_eq_true rfl)⟩) hS (fun _ _ h => h.elim) (fun _ h => h.elim) (fun r77 u t H1 locs ht hvm hw hB hz1 hk1 hS => ?_)
  have hP := hz_keep hP hk1
  clear hk1 hB hz1
  generalize H1 = H at hP hS ⊢
  rcases hw with ⟨rfl, h78⟩ | ⟨rfl, h79, x80, x81⟩
  · have ii82 : (-2147483648) ≤ p0.toInt ∧ p0.toInt ≤ 2147483647 := h78
    refine lv_if_eq (tgt := 29) hx hb dX12_shout_5 (by decide) (fun _ => ?_) (fun z => absurd (by decide) z)
    refine lv_iconst (v := (-1)) hx hb dX12_shout_29 (by decide) ?_
    refine W.widen (k := 0) (n := 0) (Nat.le_of_ble_eq_true rfl) (Nat.le_of_ble_eq_true rfl) ?_
    exact W.iret (v := (-1)) hx hb hr (fun t ht hW => ⟨⟨(-1), (fun k => match k with | 0 => 0 | 1 => a__undone | _ => 0, fun k => match k with | 0 => a_said_c | 1 => a_wasSaid_c | _ => fun _ => 0), rfl, (Or.inl (⟨rfl, h78, h_a__undone, hf0, hf1, hf2, hf3⟩)), by rw [ht]; exact hP.sub [0, 1, 2] rfl, hD.sub [0, 1, 2] (by decide) rfl⟩, hS.F ht⟩) hS.2.2 dX12_shout_30
  · have ii83 : 0 ≤ p0.toInt ∧ p0.toInt ≤ 3 := h79
    refine lv_if_eq (tgt := 29) hx hb dX12_shout_5 (by decide) (fun z => absurd z (by decide)) (fun _ => ?_)
    refine lv_iload_n hx hb dX12_shout_8 rfl (lv_at hl 2 rfl) ?_
    refine lv_i2l (v := p1.toInt64) hx hb dX12_shout_9 rfl ?_
    refine lv_lconst (v := 0) hx hb dX12_shout_10 (by decide) ?_
    refine lv_ldc2 hx hb hown (hT _ q_1418) dX12_shout_11 ?_
    refine va_calli (va_runS (As := [.long p1.toInt64, .long 0, .long 99]) (rest := []) ⟨hx, hb, hml, hown, hT⟩ (c_X12_in l D cs kK kV p1.toInt64 0 99) (va_cwS 3 hT (hz_gS q_964 q_965 q_701 q_966) rfl rfl rfl (by decide +kernel) ⟨(Nat.le_of_ble_eq_true rfl), (Nat.le_of_ble_eq_true rfl)⟩) ⟨hz_P.blind, hz_P.mk (hP.sub (ws' := []) [] rfl) hE hS⟩ rfl rfl hl.1 rfl (lv_room (Nat.le_of_ble_eq_true rfl)) dX12_shout_14 ⟨(Nat.le_of_ble_eq_true rfl), (Nat.le_of_ble_eq_true rfl)⟩) hS (fun _ _ h => h.elim) (fun _ h => h.elim) (fun r84 u t H1 locs ht hvm hw hB hz1 hk1 hS => ?_)
    have hP := hz_keep hP hk1
    clear hk1 hB hz1
    generalize H1 = H at hP hS ⊢
    rcases hw with ⟨rfl, x85⟩ | ⟨rfl, x86, x87⟩
    · have t88 : ¬ (0 ≤ p1.toInt ∧ p1.toInt ≤ 99) := fun z => x85 ⟨l64_clI z.1 (by decide), l64_lcI z.2 (by decide)⟩
      refine lv_if_eq (tgt := 29) hx hb dX12_shout_17 (by decide) (fun _ => ?_) (fun z => absurd (by decide) z)
      refine lv_iconst (v := (-1)) hx hb dX12_shout_29 (by decide) ?_
      refine W.widen (k := 0) (n := 0) (Nat.le_of_ble_eq_true rfl) (Nat.le_of_ble_eq_true rfl) ?_
      exact W.iret (v := (-1)) hx hb hr (fun t ht hW => ⟨⟨(-1), (fun k => match k with | 0 => 0 | 1 => a__undone | _ => 0, fun k => match k with | 0 => a_said_c | 1 => a_wasSaid_c | _ => fun _ => 0), rfl, (Or.inl (⟨rfl, (iv_w h79 (by decide) (by decide)), h_a__undone, hf0, hf1, hf2, hf3⟩)), by rw [ht]; exact hP.sub [0, 1, 2] rfl, hD.sub [0, 1, 2] (by decide) rfl⟩, hS.F ht⟩) hS.2.2 dX12_shout_30
    · have h89 : IV 0 2147483647 p1 := ⟨l64_cle x86 (by decide), iv_top.2⟩
      have ii90 : 0 ≤ p1.toInt ∧ p1.toInt ≤ 2147483647 := h89
      have h91 : IV 0 99 p1 := ⟨(h89).1, l64_lec x87 (by decide)⟩
      have ii92 : 0 ≤ p1.toInt ∧ p1.toInt ≤ 99 := h91
      refine lv_if_eq (tgt := 29) hx hb dX12_shout_17 (by decide) (fun z => absurd z (by decide)) (fun _ => ?_)
      refine lv_aload_n hx hb dX12_shout_20 rfl (lv_at hl 0 rfl) ?_
      refine lv_iload_n hx hb dX12_shout_21 rfl (lv_at hl 1 rfl) ?_
      refine lv_iconst (v := 0) hx hb dX12_shout_22 (by decide) ?_
      refine va_calli (va_runV (As := [.int p0, .int 0]) (rest := []) ⟨hx, hb, hml, hown, hT⟩ (c_X12_buyerOf l D cs kK kV a p0 0 a_said a_said_c a_tape a__taped a__rules a_sign a_length a_clause a_clauses a_read a__next a__wrong a__number a__text a__made a__deep a__lines a_open a__opened a_stack a__top a_word a__x a_worth a_mate a_wasSaid a__undone a__boughtNow a_wayBy a_wayThen a__walkMost a__walkGoing a__walkSet a_kept a__drawX a_images a_imageX a_isMade h79 ((iv_c (by decide))) h_a__taped h_a__rules h_a__next h_a__text h_a__made h_a__lines h_a__opened h_a__top h_a__x h_a__undone hf0) (cwV 2 hT (hz_gV q_1120 q_1121 q_1122 q_701 q_1123) rfl rfl rfl (by decide +kernel) ⟨(Nat.le_of_ble_eq_true rfl), (Nat.le_of_ble_eq_true rfl)⟩) ⟨hz_P.blind, va_recv hK hP (ci := 12) (q0 := 2) rfl rfl, hz_P.mk (hP.sub (ws' := [(a_said, .inl (cs 0, 123, .inl a_said_c)), (a, .inr (12, [.ref a_tape, .int a__taped, .int a__rules, .ref a_sign, .ref a_length, .ref a_clause, .ref a_clauses, .ref a_read, .int a__next, .int a__wrong, .int a__number, .int a__text, .int a__made, .int a__deep, .int a__lines, .ref a_open, .int a__opened, .ref a_stack, .int a__top, .ref a_word, .ref a_said, .int a__x, .ref a_worth, .ref a_mate, .ref a_wasSaid, .int a__undone, .int a__boughtNow, .ref a_wayBy, .ref a_wayThen, .int a__walkMost, .int a__walkGoing, .int a__walkSet, .ref a_kept, .long a__drawX, .ref a_images, .ref a_imageX, .ref a_isMade]))]) [0,2] rfl) hE hS⟩ rfl rfl hl.1 rfl (lv_room (Nat.le_of_ble_eq_true rfl)) dX12_shout_23 ⟨(Nat.le_of_ble_eq_true rfl), (Nat.le_of_ble_eq_true rfl)⟩) hS (fun _ _ h => h.elim) (fun _ h => h.elim) (fun r93 u t H1 locs ht hvm hw hB hz1 hk1 hS => ?_)
      have hP := hz_keep hP hk1
      clear hk1 hB hz1
      generalize H1 = H at hP hS ⊢
      rcases hw with ⟨x94, x95⟩
      refine lv_if_ne (tgt := 31) hx hb dX12_shout_26 (by decide) (fun c96 => ?_) (fun c96 => ?_)
      · have t97 : r93.toInt ≠ 0 := lin_ne c96 rfl (by decide)
        refine lv_aload_n hx hb dX12_shout_31 rfl (lv_at hl 0 rfl) ?_
        have hFc := va_free (wc := [(a_said, .inl (cs 0, 123, .inl a_said_c)), (a_wasSaid, .inl (cs 0, 1720, .inl a_wasSaid_c)), (a, .inr (12, [.ref a_tape, .int a__taped, .int a__rules, .ref a_sign, .ref a_length, .ref a_clause, .ref a_clauses, .ref a_read, .int a__next, .int a__wrong, .int a__number, .int a__text, .int a__made, .int a__deep, .int a__lines, .ref a_open, .int a__opened, .ref a_stack, .int a__top, .ref a_word, .ref a_said, .int a__x, .ref a_worth, .ref a_mate, .ref a_wasSaid, .int a__undone, .int a__boughtNow, .ref a_wayBy, .ref a_wayThen, .int a__walkMost, .int a__walkGoing, .int a__walkSet, .ref a_kept, .long a__drawX, .ref a_images, .ref a_imageX, .ref a_isMade]))]) hD hS hA [0,1,2] rfl
        refine va_callv (va_runV (As := []) (rest := []) ⟨hx, hb, hml, hown, hT⟩ (c_X12_keepsAct l D cs kK kV a a_said a_said_c a_wasSaid a_wasSaid_c a_tape a__taped a__rules a_sign a_length a_clause a_clauses a_read a__next a__wrong a__number a__text a__made a__deep a__lines a_open a__opened a_stack a__top a_word a__x a_worth a_mate a__undone a__boughtNow a_wayBy a_wayThen a__walkMost a__walkGoing a__walkSet a_kept a__drawX a_images a_imageX a_isMade h_a__taped h_a__rules h_a__next h_a__text h_a__made h_a__lines h_a__opened h_a__top h_a__x h_a__undone ((bs_99 hf0 (by omega))) hf3 H.size) (cwV 0 hT (hz_gV q_1168 q_1169 q_1170 q_701 q_1171) rfl rfl rfl (by decide +kernel) ⟨(Nat.le_of_ble_eq_true rfl), (Nat.le_of_ble_eq_true rfl)⟩) ⟨hz_C.blind, va_recv hK hP (ci := 12) (q0 := 2) rfl rfl, hz_C.mk (hP.sub (ws' := [(a_said, .inl (cs 0, 123, .inl a_said_c)), (a_wasSaid, .inl (cs 0, 1720, .inl a_wasSaid_c)), (a, .inr (12, [.ref a_tape, .int a__taped, .int a__rules, .ref a_sign, .ref a_length, .ref a_clause, .ref a_clauses, .ref a_read, .int a__next, .int a__wrong, .int a__number, .int a__text, .int a__made, .int a__deep, .int a__lines, .ref a_open, .int a__opened, .ref a_stack, .int a__top, .ref a_word, .ref a_said, .int a__x, .ref a_worth, .ref a_mate, .ref a_wasSaid, .int a__undone, .int a__boughtNow, .ref a_wayBy, .ref a_wayThen, .int a__walkMost, .int a__walkGoing, .int a__walkSet, .ref a_kept, .long a__drawX, .ref a_images, .ref a_imageX, .ref a_isMade]))]) [0,1,2] rfl) (hD.sub (ws' := [(a_said, .inl (cs 0, 123, .inl a_said_c)), (a_wasSaid, .inl (cs 0, 1720, .inl a_wasSaid_c)), (a, .inr (12, [.ref a_tape, .int a__taped, .int a__rules, .ref a_sign, .ref a_length, .ref a_clause, .ref a_clauses, .ref a_read, .int a__next, .int a__wrong, .int a__number, .int a__text, .int a__made, .int a__deep, .int a__lines, .ref a_open, .int a__opened, .ref a_stack, .int a__top, .ref a_word, .ref a_said, .int a__x, .ref a_worth, .ref a_mate, .ref a_wasSaid, .int a__undone, .int a__boughtNow, .ref a_wayBy, .ref a_wayThen, .int a__walkMost, .int a__walkGoing, .int a__walkSet, .ref a_kept, .long a__drawX, .ref a_images, .ref a_imageX, .ref a_isMade]))]) [0,1,2] (by decide) rfl) hE hS hFc⟩ rfl rfl hl.1 rfl (lv_room (Nat.le_of_ble_eq_true rfl)) dX12_shout_32 ⟨(Nat.le_of_ble_eq_true rfl), (Nat.le_of_ble_eq_true rfl)⟩) hS (fun q _ h => hFc q h) hFc (fun o99 t H1 locs ht hvm hw hB hz1 hk1 hS => ?_)
        obtain ⟨hP1, hD1⟩ := hB
        rw [ht] at hP1
        obtain ⟨hP, hD⟩ := va_join (wr := []) (w1 := [(a_said, .inl (cs 0, 123, .inl a_said_c)), (a_wasSaid, .inl (cs 0, 1720, .inl (o99.2 0))), (a, .inr (12, [.ref a_tape, .int a__taped, .int a__rules, .ref a_sign, .ref a_length, .ref a_clause, .ref a_clauses, .ref a_read, .int a__next, .int a__wrong, .int a__number, .int a__text, .int a__made, .int a__deep, .int a__lines, .ref a_open, .int a__opened, .ref a_stack, .int a__top, .ref a_word, .ref a_said, .int a__x, .ref a_worth, .ref a_mate, .ref a_wasSaid, .int (o99.1 1), .int a__boughtNow, .ref a_wayBy, .ref a_wayThen, .int a__walkMost, .int a__walkGoing, .int a__walkSet, .ref a_kept, .long a__drawX, .ref a_images, .ref a_imageX, .ref a_isMade]))]) hP hD [0, 1, 2] [] rfl rfl (by decide) (by decide) hk1 hFc hP1 hD1
        generalize H1 = H at hP hS ⊢
        have hP : va_P D classes [(a_said, .inl (cs 0, 123, .inl a_said_c)), (a_wasSaid, .inl (cs 0, 1720, .inl (o99.2 0))), (a, .inr (12, [.ref a_tape, .int a__taped, .int a__rules, .ref a_sign, .ref a_length, .ref a_clause, .ref a_clauses, .ref a_read, .int a__next, .int a__wrong, .int a__number, .int a__text, .int a__made, .int a__deep, .int a__lines, .ref a_open, .int a__opened, .ref a_stack, .int a__top, .ref a_word, .ref a_said, .int a__x, .ref a_worth, .ref a_mate, .ref a_wasSaid, .int (o99.1 1), .int a__boughtNow, .ref a_wayBy, .ref a_wayThen, .int a__walkMost, .int a__walkGoing, .int a__walkSet, .ref a_kept, .long a__drawX, .ref a_images, .ref a_imageX, .ref a_isMade]))] H := hP
        have hD : va_D A [(a_said, .inl (cs 0, 123, .inl a_said_c)), (a_wasSaid, .inl (cs 0, 1720, .inl (o99.2 0))), (a, .inr (12, [.ref a_tape, .int a__taped, .int a__rules, .ref a_sign, .ref a_length, .ref a_clause, .ref a_clauses, .ref a_read, .int a__next, .int a__wrong, .int a__number, .int a__text, .int a__made, .int a__deep, .int a__lines, .ref a_open, .int a__opened, .ref a_stack, .int a__top, .ref a_word, .ref a_said, .int a__x, .ref a_worth, .ref a_mate, .ref a_wasSaid, .int (o99.1 1), .int a__boughtNow, .ref a_wayBy, .ref a_wayThen, .int a__walkMost, .int a__walkGoing, .int a__walkSet, .ref a_kept, .long a__drawX, .ref a_images, .ref a_imageX, .ref a_isMade]))] := hD
        clear hk1 hFc hP1 hD1 hz1
        rcases hw with ⟨h100, x101⟩
        have ii102 : 1 ≤ (o99.1 1).toInt ∧ (o99.1 1).toInt ≤ 20 := h100
        refine lv_aload_n hx hb dX12_shout_35 rfl (lv_at hl 0 rfl) ?_
        refine lv_iload_n hx hb dX12_shout_36 rfl (lv_at hl 1 rfl) ?_
        refine lv_iconst (v := 2) hx hb dX12_shout_37 (by decide) ?_
        refine va_calli (va_runV (As := [.int p0, .int 2]) (rest := []) ⟨hx, hb, hml, hown, hT⟩ (c_X12_buyerOf l D cs kK kV a p0 2 a_said a_said_c a_tape a__taped a__rules a_sign a_length a_clause a_clauses a_read a__next a__wrong a__number a__text a__made a__deep a__lines a_open a__opened a_stack a__top a_word a__x a_worth a_mate a_wasSaid (o99.1 1) a__boughtNow a_wayBy a_wayThen a__walkMost a__walkGoing a__walkSet a_kept a__drawX a_images a_imageX a_isMade h79 ((iv_c (by decide))) h_a__taped h_a__rules h_a__next h_a__text h_a__made h_a__lines h_a__opened h_a__top h_a__x ((iv_w h100 (by decide) (by decide))) hf0) (cwV 2 hT (hz_gV q_1120 q_1121 q_1122 q_701 q_1123) rfl rfl rfl (by decide +kernel) ⟨(Nat.le_of_ble_eq_true rfl), (Nat.le_of_ble_eq_true rfl)⟩) ⟨hz_P.blind, va_recv hK hP (ci := 12) (q0 := 2) rfl rfl, hz_P.mk (hP.sub (ws' := [(a_said, .inl (cs 0, 123, .inl a_said_c)), (a, .inr (12, [.ref a_tape, .int a__taped, .int a__rules, .ref a_sign, .ref a_length, .ref a_clause, .ref a_clauses, .ref a_read, .int a__next, .int a__wrong, .int a__number, .int a__text, .int a__made, .int a__deep, .int a__lines, .ref a_open, .int a__opened, .ref a_stack, .int a__top, .ref a_word, .ref a_said, .int a__x, .ref a_worth, .ref a_mate, .ref a_wasSaid, .int (o99.1 1), .int a__boughtNow, .ref a_wayBy, .ref a_wayThen, .int a__walkMost, .int a__walkGoing, .int a__walkSet, .ref a_kept, .long a__drawX, .ref a_images, .ref a_imageX, .ref a_isMade]))]) [0,2] rfl) hE hS⟩ rfl rfl hl.1 rfl (lv_room (Nat.le_of_ble_eq_true rfl)) dX12_shout_38 ⟨(Nat.le_of_ble_eq_true rfl), (Nat.le_of_ble_eq_true rfl)⟩) hS (fun _ _ h => h.elim) (fun _ h => h.elim) (fun r103 u t H1 locs ht hvm hw hB hz1 hk1 hS => ?_)
        have hP := hz_keep hP hk1
        clear hk1 hB hz1
        generalize H1 = H at hP hS ⊢
        rcases hw with ⟨x104, x105⟩
        have z2 : (2 : Int32).toInt = 2 := by decide
        refine lv_istore_n (lv' := [(3, .int r103), (0, .ref a), (1, .int p0), (2, .int p1)]) hx hb dX12_shout_41 rfl hl (by decide) rfl (fun ls hl => ?_)
        refine lv_aload_n hx hb dX12_shout_42 rfl (lv_at hl 1 rfl) ?_
        refine va_get (D := D) (ci := 12) (v := .ref a_said) (C := RX12) (T := TX12) (N := 37) hx hb hT i_X12 hown hK hP 2 rfl rfl 20 (by decide) (hT _ q_185) (fun _ h9 => h9) rfl dX12_shout_43 ?_
        refine lv_bipush (v := 70) hx hb dX12_shout_46 (by decide) ?_
        refine lv_iconst (v := 4) hx hb dX12_shout_48 (by decide) ?_
        refine lv_iload_n hx hb dX12_shout_49 rfl (lv_at hl 2 rfl) ?_
        refine lv_imul hx hb dX12_shout_50 ?_
        refine lv_topi (fun v106 ev106 => ?_)
        have hv106 : IV 0 12 v106 := iv_mul ev106 (iv_c (a := 4) (b := 4) (by decide)) h79 (by decide) (by decide) (by decide) (by decide)
        have ii107 : 0 ≤ v106.toInt ∧ v106.toInt ≤ 12 := hv106
        have lv106 : v106.toInt = 4 * p0.toInt := lin_mul ev106 (iv_c (a := 4) (b := 4) (by decide)) h79 (by decide) rfl (by decide) (by decide) (by decide) (by decide)
        refine lv_iadd hx hb dX12_shout_51 ?_
        refine lv_topi (fun v108 ev108 => ?_)
        have hv108 : IV 70 82 v108 := iv_add ev108 (iv_c (a := 70) (b := 70) (by decide)) hv106 (by decide) (by decide)
        have ii109 : 70 ≤ v108.toInt ∧ v108.toInt ≤ 82 := hv108
        have lv108 : v108.toInt = 70 + v106.toInt := lin_add ev108 (iv_c (a := 70) (b := 70) (by decide)) hv106 (by decide) rfl (by decide) (by decide)
        refine lv_dup2_11 hx hb dX12_shout_52 rfl rfl ?_
        refine va_iald hx hb hK hP 0 0 rfl rfl (iv_v hv108 (by decide) (by decide)) dX12_shout_53 ?_
        refine lv_topi (fun v110 ev110 => ?_)
        have lv110 : v110.toInt = (a_said_c (Int32.toNatClampNeg v108)).toInt := by rw [ev110]
        refine lv_iconst (v := 1) hx hb dX12_shout_54 (by decide) ?_
        refine lv_isub hx hb dX12_shout_55 ?_
        refine lv_topi (fun v111 ev111 => ?_)
        refine va_iast hx hb hK hP hD hS 0 0 rfl rfl (iv_v hv108 (by decide) (by decide)) dX12_shout_56 (fun H locs hP hD hS => ?_)
        have hP : va_P D classes [(a_said, .inl (cs 0, 123, .inl (upd a_said_c (Int32.toNatClampNeg v108) v111))), (a_wasSaid, .inl (cs 0, 1720, .inl (o99.2 0))), (a, .inr (12, [.ref a_tape, .int a__taped, .int a__rules, .ref a_sign, .ref a_length, .ref a_clause, .ref a_clauses, .ref a_read, .int a__next, .int a__wrong, .int a__number, .int a__text, .int a__made, .int a__deep, .int a__lines, .ref a_open, .int a__opened, .ref a_stack, .int a__top, .ref a_word, .ref a_said, .int a__x, .ref a_worth, .ref a_mate, .ref a_wasSaid, .int (o99.1 1), .int a__boughtNow, .ref a_wayBy, .ref a_wayThen, .int a__walkMost, .int a__walkGoing, .int a__walkSet, .ref a_kept, .long a__drawX, .ref a_images, .ref a_imageX, .ref a_isMade]))] H := hP
        have hD : va_D A [(a_said, .inl (cs 0, 123, .inl (upd a_said_c (Int32.toNatClampNeg v108) v111))), (a_wasSaid, .inl (cs 0, 1720, .inl (o99.2 0))), (a, .inr (12, [.ref a_tape, .int a__taped, .int a__rules, .ref a_sign, .ref a_length, .ref a_clause, .ref a_clauses, .ref a_read, .int a__next, .int a__wrong, .int a__number, .int a__text, .int a__made, .int a__deep, .int a__lines, .ref a_open, .int a__opened, .ref a_stack, .int a__top, .ref a_word, .ref a_said, .int a__x, .ref a_worth, .ref a_mate, .ref a_wasSaid, .int (o99.1 1), .int a__boughtNow, .ref a_wayBy, .ref a_wayThen, .int a__walkMost, .int a__walkGoing, .int a__walkSet, .ref a_kept, .long a__drawX, .ref a_images, .ref a_imageX, .ref a_isMade]))] := hD
        obtain ⟨f112, uf112⟩ : ∃ z, z = upd a_said_c (Int32.toNatClampNeg v108) v111 := ⟨_, rfl⟩
        rw [← uf112] at hP hD
        have wf112 : (f112 (Int32.toNatClampNeg v108)).toInt = v111.toInt := lin_us uf112 rfl
        have kk113 : (f112 0).toInt = (a_said_c 0).toInt := congrArg Int32.toInt (by rw [uf112, pk_un (show 0 ≠ Int32.toNatClampNeg v108 from by (have q : Int32.toNatClampNeg v108 = v108.toInt.toNat := rfl); omega)])
        have kk114 : (f112 1).toInt = (a_said_c 1).toInt := congrArg Int32.toInt (by rw [uf112, pk_un (show 1 ≠ Int32.toNatClampNeg v108 from by (have q : Int32.toNatClampNeg v108 = v108.toInt.toNat := rfl); omega)])
        have kk115 : (f112 2).toInt = (a_said_c 2).toInt := congrArg Int32.toInt (by rw [uf112, pk_un (show 2 ≠ Int32.toNatClampNeg v108 from by (have q : Int32.toNatClampNeg v108 = v108.toInt.toNat := rfl); omega)])
        have kk116 : (f112 3).toInt = (a_said_c 3).toInt := congrArg Int32.toInt (by rw [uf112, pk_un (show 3 ≠ Int32.toNatClampNeg v108 from by (have q : Int32.toNatClampNeg v108 = v108.toInt.toNat := rfl); omega)])
        have fb117 : BS f112 200 := (bs_upd hf0 uf112 (show Int32.toNatClampNeg v108 ≠ 0 ∧ Int32.toNatClampNeg v108 ≠ 1 ∧ Int32.toNatClampNeg v108 ≠ 2 ∧ Int32.toNatClampNeg v108 ≠ 3 ∧ Int32.toNatClampNeg v108 ≠ 4 ∧ Int32.toNatClampNeg v108 ≠ 71 ∧ Int32.toNatClampNeg v108 ≠ 75 ∧ Int32.toNatClampNeg v108 ≠ 79 ∧ Int32.toNatClampNeg v108 ≠ 83 from by (have q : Int32.toNatClampNeg v108 = v108.toInt.toNat := rfl); omega))
        have fb118 : TR f112 := tr_upd hf1 uf112 (show Int32.toNatClampNeg v108 < 86 from by (have q : Int32.toNatClampNeg v108 = v108.toInt.toNat := rfl); omega)
        refine lv_iconst (v := 0) hx hb dX12_shout_57 (by decide) ?_
        refine lv_istore (lv' := [(4, .int 0), (3, .int r103), (0, .ref a), (1, .int p0), (2, .int p1)]) hx hb dX12_shout_58 hl (by decide) rfl (fun ls hl => ?_)
        exact K60 _ ((0 : Int32)) r103 f112 (o99.2 0) (o99.1 1) (Nat.le_refl _) h100 (iv_c (by decide)) h79 h91 fb117 fb118 (by omega) (by omega) x101 H locs (hP.sub (ws' := [(a_said, .inl (cs 0, 123, .inl f112)), (a_wasSaid, .inl (cs 0, 1720, .inl (o99.2 0))), (a, .inr (12, [.ref a_tape, .int a__taped, .int a__rules, .ref a_sign, .ref a_length, .ref a_clause, .ref a_clauses, .ref a_read, .int a__next, .int a__wrong, .int a__number, .int a__text, .int a__made, .int a__deep, .int a__lines, .ref a_open, .int a__opened, .ref a_stack, .int a__top, .ref a_word, .ref a_said, .int a__x, .ref a_worth, .ref a_mate, .ref a_wasSaid, .int (o99.1 1), .int a__boughtNow, .ref a_wayBy, .ref a_wayThen, .int a__walkMost, .int a__walkGoing, .int a__walkSet, .ref a_kept, .long a__drawX, .ref a_images, .ref a_imageX, .ref a_isMade]))]) [0, 1, 2] rfl) (hD.sub (ws' := [(a_said, .inl (cs 0, 123, .inl f112)), (a_wasSaid, .inl (cs 0, 1720, .inl (o99.2 0))), (a, .inr (12, [.ref a_tape, .int a__taped, .int a__rules, .ref a_sign, .ref a_length, .ref a_clause, .ref a_clauses, .ref a_read, .int a__next, .int a__wrong, .int a__number, .int a__text, .int a__made, .int a__deep, .int a__lines, .ref a_open, .int a__opened, .ref a_stack, .int a__top, .ref a_word, .ref a_said, .int a__x, .ref a_worth, .ref a_mate, .ref a_wasSaid, .int (o99.1 1), .int a__boughtNow, .ref a_wayBy, .ref a_wayThen, .int a__walkMost, .int a__walkGoing, .int a__walkSet, .ref a_kept, .long a__drawX, .ref a_images, .ref a_imageX, .ref a_isMade]))]) [0, 1, 2] (by decide) rfl) hS ls (lv_sub hl [0, 1, 2, 3, 4] rfl)
      · have t119 : r93.toInt = 0 := lin_eqN c96 rfl (by decide)
        have h120 : IV 0 0 r93 := iv_eq1 c96 iv_top (iv_c (a := 0) (b := 0) (by decide)) (by decide) (by decide)
        have ii121 : 0 ≤ r93.toInt ∧ r93.toInt ≤ 0 := h120
        refine lv_iconst (v := (-1)) hx hb dX12_shout_29 (by decide) ?_
        refine W.widen (k := 0) (n := 0) (Nat.le_of_ble_eq_true rfl) (Nat.le_of_ble_eq_true rfl) ?_
        exact W.iret (v := (-1)) hx hb hr (fun t ht hW => ⟨⟨(-1), (fun k => match k with | 0 => 0 | 1 => a__undone | _ => 0, fun k => match k with | 0 => a_said_c | 1 => a_wasSaid_c | _ => fun _ => 0), rfl, (Or.inl (⟨rfl, (iv_w h79 (by decide) (by decide)), h_a__undone, hf0, hf1, hf2, hf3⟩)), by rw [ht]; exact hP.sub [0, 1, 2] rfl, hD.sub [0, 1, 2] (by decide) rfl⟩, hS.F ht⟩) hS.2.2 dX12_shout_30
theorem dX12_areTheirs_0 : decode cX12_areTheirs 0 = .ok (.aload_n 0, 1) := by decide +kernel
theorem dX12_areTheirs_1 : decode cX12_areTheirs 1 = .ok (.iload_n 1, 1) := by decide +kernel
theorem dX12_areTheirs_2 : decode cX12_areTheirs 2 = .ok (.invokevirtual 343, 3) := by decide +kernel
theorem dX12_areTheirs_5 : decode cX12_areTheirs 5 = .ok (.ifCond .eq 64, 3) := by decide +kernel
theorem dX12_areTheirs_8 : decode cX12_areTheirs 8 = .ok (.aload_n 0, 1) := by decide +kernel
theorem dX12_areTheirs_9 : decode cX12_areTheirs 9 = .ok (.iload_n 3, 1) := by decide +kernel
theorem dX12_areTheirs_10 : decode cX12_areTheirs 10 = .ok (.invokevirtual 343, 3) := by decide +kernel
theorem dX12_areTheirs_13 : decode cX12_areTheirs 13 = .ok (.ifCond .eq 56, 3) := by decide +kernel
theorem dX12_areTheirs_16 : decode cX12_areTheirs 16 = .ok (.iload_n 1, 1) := by decide +kernel
theorem dX12_areTheirs_17 : decode cX12_areTheirs 17 = .ok (.iload_n 3, 1) := by decide +kernel
theorem dX12_areTheirs_18 : decode cX12_areTheirs 18 = .ok (.if_icmp .eq 51, 3) := by decide +kernel
theorem dX12_areTheirs_21 : decode cX12_areTheirs 21 = .ok (.aload_n 0, 1) := by decide +kernel
theorem dX12_areTheirs_22 : decode cX12_areTheirs 22 = .ok (.iload_n 2, 1) := by decide +kernel
theorem dX12_areTheirs_23 : decode cX12_areTheirs 23 = .ok (.invokevirtual 335, 3) := by decide +kernel
theorem dX12_areTheirs_26 : decode cX12_areTheirs 26 = .ok (.ifCond .eq 43, 3) := by decide +kernel
theorem dX12_areTheirs_29 : decode cX12_areTheirs 29 = .ok (.aload_n 0, 1) := by decide +kernel
theorem dX12_areTheirs_30 : decode cX12_areTheirs 30 = .ok (.iload 4, 2) := by decide +kernel
theorem dX12_areTheirs_32 : decode cX12_areTheirs 32 = .ok (.invokevirtual 335, 3) := by decide +kernel
theorem dX12_areTheirs_35 : decode cX12_areTheirs 35 = .ok (.ifCond .eq 34, 3) := by decide +kernel
theorem dX12_areTheirs_38 : decode cX12_areTheirs 38 = .ok (.aload_n 0, 1) := by decide +kernel
theorem dX12_areTheirs_39 : decode cX12_areTheirs 39 = .ok (.iload_n 2, 1) := by decide +kernel
theorem dX12_areTheirs_40 : decode cX12_areTheirs 40 = .ok (.iconst 3, 1) := by decide +kernel
theorem dX12_areTheirs_41 : decode cX12_areTheirs 41 = .ok (.invokevirtual 301, 3) := by decide +kernel
theorem dX12_areTheirs_44 : decode cX12_areTheirs 44 = .ok (.bipush 100, 2) := by decide +kernel
theorem dX12_areTheirs_46 : decode cX12_areTheirs 46 = .ok (.iload_n 1, 1) := by decide +kernel
theorem dX12_areTheirs_47 : decode cX12_areTheirs 47 = .ok (.iadd, 1) := by decide +kernel
theorem dX12_areTheirs_48 : decode cX12_areTheirs 48 = .ok (.if_icmp .ne 21, 3) := by decide +kernel
theorem dX12_areTheirs_51 : decode cX12_areTheirs 51 = .ok (.aload_n 0, 1) := by decide +kernel
theorem dX12_areTheirs_52 : decode cX12_areTheirs 52 = .ok (.iload 4, 2) := by decide +kernel
theorem dX12_areTheirs_54 : decode cX12_areTheirs 54 = .ok (.iconst 3, 1) := by decide +kernel
theorem dX12_areTheirs_55 : decode cX12_areTheirs 55 = .ok (.invokevirtual 301, 3) := by decide +kernel
theorem dX12_areTheirs_58 : decode cX12_areTheirs 58 = .ok (.bipush 100, 2) := by decide +kernel
theorem dX12_areTheirs_60 : decode cX12_areTheirs 60 = .ok (.iload_n 3, 1) := by decide +kernel
theorem dX12_areTheirs_61 : decode cX12_areTheirs 61 = .ok (.iadd, 1) := by decide +kernel
theorem dX12_areTheirs_62 : decode cX12_areTheirs 62 = .ok (.if_icmp .ne 7, 3) := by decide +kernel
theorem dX12_areTheirs_65 : decode cX12_areTheirs 65 = .ok (.iconst 1, 1) := by decide +kernel
theorem dX12_areTheirs_66 : decode cX12_areTheirs 66 = .ok (.goto 4, 3) := by decide +kernel
theorem dX12_areTheirs_69 : decode cX12_areTheirs 69 = .ok (.iconst 0, 1) := by decide +kernel
theorem dX12_areTheirs_70 : decode cX12_areTheirs 70 = .ok (.ireturn, 1) := by decide +kernel
set_option maxHeartbeats 4000000 in
set_option maxRecDepth 100000 in
theorem c_X12_areTheirs (l : Launch) (D : va_G) (cs : Nat → ClassId) (kK kV : Nat → Nat) (a : Nat) (p0 : Int32) (p1 : Int32) (p2 : Int32) (p3 : Int32) (a_said : Nat) (a_said_c : Nat → Int32) (a_tape : Nat) (a__taped : Int32) (a__rules : Int32) (a_sign : Nat) (a_length : Nat) (a_clause : Nat) (a_clauses : Nat) (a_read : Nat) (a__next : Int32) (a__wrong : Int32) (a__number : Int32) (a__text : Int32) (a__made : Int32) (a__deep : Int32) (a__lines : Int32) (a_open : Nat) (a__opened : Int32) (a_stack : Nat) (a__top : Int32) (a_word : Nat) (a__x : Int32) (a_worth : Nat) (a_mate : Nat) (a_wasSaid : Nat) (a__undone : Int32) (a__boughtNow : Int32) (a_wayBy : Nat) (a_wayThen : Nat) (a__walkMost : Int32) (a__walkGoing : Int32) (a__walkSet : Int32) (a_kept : Nat) (a__drawX : Int64) (a_images : Nat) (a_imageX : Nat) (a_isMade : Nat) (h_a__taped : IV 0 400 a__taped) (h_a__rules : IV 0 6 a__rules) (h_a__next : IV 0 400 a__next) (h_a__text : IV 0 6 a__text) (h_a__made : IV 0 60 a__made) (h_a__lines : IV 0 40 a__lines) (h_a__opened : IV 0 400 a__opened) (h_a__top : IV 0 64 a__top) (h_a__x : IV 0 2147483647 a__x) (h_a__undone : IV 0 20 a__undone) (hf0 : BS a_said_c 200) : Met l yX12_areTheirs (hz_w yX12_areTheirs cX12_areTheirs 5 (some .boolean)) ({ frames := 1, cells := 0, slots := 0, locals := 22 }) (va_Pc [.ref a, .int p0, .int p1, .int p2, .int p3] (hz_P D cs kK kV [(a_said, .inl (cs 0, 123, .inl a_said_c)), (a, .inr (12, [.ref a_tape, .int a__taped, .int a__rules, .ref a_sign, .ref a_length, .ref a_clause, .ref a_clauses, .ref a_read, .int a__next, .int a__wrong, .int a__number, .int a__text, .int a__made, .int a__deep, .int a__lines, .ref a_open, .int a__opened, .ref a_stack, .int a__top, .ref a_word, .ref a_said, .int a__x, .ref a_worth, .ref a_mate, .ref a_wasSaid, .int a__undone, .int a__boughtNow, .ref a_wayBy, .ref a_wayThen, .int a__walkMost, .int a__walkGoing, .int a__walkSet, .ref a_kept, .long a__drawX, .ref a_images, .ref a_imageX, .ref a_isMade]))])) (va_Qi (fun (r : Int32) (_ : Unit) => (r = 0 ∧ IV (-2147483648) 2147483647 p0) ∨ (r = 1 ∧ IV 0 3 p0 ∧ IV 0 11 p1 ∧ IV 0 3 p2 ∧ IV 0 11 p3 ∧ (p0.toInt < (a_said_c 2).toInt) ∧ (p2.toInt < (a_said_c 2).toInt))) (fun _ t => True) (fun _ => False)) 0 0 (fun _ => False) := by
  refine Met.ofW (cc := cX12_areTheirs) (maxL := 5) (ret := (some .boolean)) (by decide) rfl ?_
  intro p e s m args below meth c s₁ B hml hv
  obtain ⟨rfl, hP, hE⟩ := hv
  have hx := B.exec
  have hb := B.bytes
  have hr := B.returns
  have hT : ∀ w ∈ TB, w.before _ s = true := fun w h => atoms_spec (ws := hz_w yX12_areTheirs cX12_areTheirs 5 (some .boolean)) B.pre w (List.mem_cons_of_mem _ h)
  have hown : s.vm.findClass RX12 = some m.cls := findClass_of_methodNamed B.named
  have hlocks := B.notSynchronized
  clear B
  have hS : va_S (fun _ => False) s.heap s.heap [] := va_S.rf
  have hK := hE.1
  have hl := lv_entry ([.ref a, .int p0, .int p1, .int p2, .int p3]) (n := 5) (Nat.le_of_ble_eq_true rfl)
  rw [lg_entry_eq]
  generalize (lg_sl ([.ref a, .int p0, .int p1, .int p2, .int p3]) ++ List.replicate (5 - (lg_sl ([.ref a, .int p0, .int p1, .int p2, .int p3])).length) Slot.unset).toArray = ls at hl ⊢
  have hl : lv_has ls 5 [(0, .ref a), (1, .int p0), (2, .int p1), (3, .int p2), (4, .int p3)] := hl
  obtain ⟨H, eH⟩ : ∃ z, z = s.heap := ⟨_, rfl⟩
  have hP : va_P D classes [(a_said, .inl (cs 0, 123, .inl a_said_c)), (a, .inr (12, [.ref a_tape, .int a__taped, .int a__rules, .ref a_sign, .ref a_length, .ref a_clause, .ref a_clauses, .ref a_read, .int a__next, .int a__wrong, .int a__number, .int a__text, .int a__made, .int a__deep, .int a__lines, .ref a_open, .int a__opened, .ref a_stack, .int a__top, .ref a_word, .ref a_said, .int a__x, .ref a_worth, .ref a_mate, .ref a_wasSaid, .int a__undone, .int a__boughtNow, .ref a_wayBy, .ref a_wayThen, .int a__walkMost, .int a__walkGoing, .int a__walkSet, .ref a_kept, .long a__drawX, .ref a_images, .ref a_imageX, .ref a_isMade]))] H := by rw [eH]; exact hP
  have hS : va_S (fun _ => False) s.heap H [] := by rw [eH]; exact hS
  rw [← eH]
  clear eH
  obtain ⟨locs, el⟩ : ∃ z : List Loc, z = [] := ⟨_, rfl⟩
  rw [← el] at hS ⊢
  clear el
  have z0 : (0 : Int32).toInt = 0 := by decide
  have z1 : (1 : Int32).toInt = 1 := by decide
  have zm1 : (-1 : Int32).toInt = -1 := by decide
  have i_a__lines : 0 ≤ a__lines.toInt ∧ a__lines.toInt ≤ 40 := h_a__lines
  have i_a__made : 0 ≤ a__made.toInt ∧ a__made.toInt ≤ 60 := h_a__made
  have i_a__next : 0 ≤ a__next.toInt ∧ a__next.toInt ≤ 400 := h_a__next
  have i_a__opened : 0 ≤ a__opened.toInt ∧ a__opened.toInt ≤ 400 := h_a__opened
  have i_a__rules : 0 ≤ a__rules.toInt ∧ a__rules.toInt ≤ 6 := h_a__rules
  have i_a__taped : 0 ≤ a__taped.toInt ∧ a__taped.toInt ≤ 400 := h_a__taped
  have i_a__text : 0 ≤ a__text.toInt ∧ a__text.toInt ≤ 6 := h_a__text
  have i_a__top : 0 ≤ a__top.toInt ∧ a__top.toInt ≤ 64 := h_a__top
  have i_a__undone : 0 ≤ a__undone.toInt ∧ a__undone.toInt ≤ 20 := h_a__undone
  have i_a__x : 0 ≤ a__x.toInt ∧ a__x.toInt ≤ 2147483647 := h_a__x
  refine lv_aload_n hx hb dX12_areTheirs_0 rfl (lv_at hl 0 rfl) ?_
  refine lv_iload_n hx hb dX12_areTheirs_1 rfl (lv_at hl 1 rfl) ?_
  refine va_calli (va_runV (As := [.int p0]) (rest := []) ⟨hx, hb, hml, hown, hT⟩ (c_X12_isBuyer l D cs kK kV a p0 a_said a_said_c a_tape a__taped a__rules a_sign a_length a_clause a_clauses a_read a__next a__wrong a__number a__text a__made a__deep a__lines a_open a__opened a_stack a__top a_word a__x a_worth a_mate a_wasSaid a__undone a__boughtNow a_wayBy a_wayThen a__walkMost a__walkGoing a__walkSet a_kept a__drawX a_images a_imageX a_isMade h_a__taped h_a__rules h_a__next h_a__text h_a__made h_a__lines h_a__opened h_a__top h_a__x h_a__undone hf0) (cwV 1 hT (hz_gV q_1156 q_1157 q_1158 q_701 q_1159) rfl rfl rfl (by decide +kernel) ⟨(Nat.le_of_ble_eq_true rfl), (Nat.le_of_ble_eq_true rfl)⟩) ⟨hz_P.blind, va_recv hK hP (ci := 12) (q0 := 1) rfl rfl, hz_P.mk (hP.sub (ws' := [(a_said, .inl (cs 0, 123, .inl a_said_c)), (a, .inr (12, [.ref a_tape, .int a__taped, .int a__rules, .ref a_sign, .ref a_length, .ref a_clause, .ref a_clauses, .ref a_read, .int a__next, .int a__wrong, .int a__number, .int a__text, .int a__made, .int a__deep, .int a__lines, .ref a_open, .int a__opened, .ref a_stack, .int a__top, .ref a_word, .ref a_said, .int a__x, .ref a_worth, .ref a_mate, .ref a_wasSaid, .int a__undone, .int a__boughtNow, .ref a_wayBy, .ref a_wayThen, .int a__walkMost, .int a__walkGoing, .int a__walkSet, .ref a_kept, .long a__drawX, .ref a_images, .ref a_imageX, .ref a_isMade]))]) [0,1] rfl) hE hS⟩ rfl rfl hl.1 rfl (lv_room (Nat.le_of_ble_eq_true rfl)) dX12_areTheirs_2 ⟨(Nat.le_of_ble_eq_true rfl), (Nat.le_of_ble_eq_true rfl)⟩) hS (fun _ _ h => h.elim) (fun _ h => h.elim) (fun r1 u t H1 locs ht hvm hw hB hz1 hk1 hS => ?_)
  have hP := hz_keep hP hk1
  clear hk1 hB hz1
  generalize H1 = H at hP hS ⊢
  rcases hw with ⟨rfl, h2⟩ | ⟨rfl, h3, x4, x5⟩
  · have ii6 : (-2147483648) ≤ p0.toInt ∧ p0.toInt ≤ 2147483647 := h2
    refine lv_if_eq (tgt := 69) hx hb dX12_areTheirs_5 (by decide) (fun _ => ?_) (fun z => absurd (by decide) z)
    refine lv_iconst (v := 0) hx hb dX12_areTheirs_69 (by decide) ?_
    exact W.zret (v := 0) hx hb hr rfl (fun t ht hW => ⟨⟨0, (), rfl, (Or.inl (⟨rfl, h2⟩)), trivial⟩, hS.F ht⟩) hS.2.2 dX12_areTheirs_70
  · have ii7 : 0 ≤ p0.toInt ∧ p0.toInt ≤ 3 := h3
    refine lv_if_eq (tgt := 69) hx hb dX12_areTheirs_5 (by decide) (fun z => absurd z (by decide)) (fun _ => ?_)
    refine lv_aload_n hx hb dX12_areTheirs_8 rfl (lv_at hl 0 rfl) ?_
    refine lv_iload_n hx hb dX12_areTheirs_9 rfl (lv_at hl 3 rfl) ?_
    refine va_calli (va_runV (As := [.int p2]) (rest := []) ⟨hx, hb, hml, hown, hT⟩ (c_X12_isBuyer l D cs kK kV a p2 a_said a_said_c a_tape a__taped a__rules a_sign a_length a_clause a_clauses a_read a__next a__wrong a__number a__text a__made a__deep a__lines a_open a__opened a_stack a__top a_word a__x a_worth a_mate a_wasSaid a__undone a__boughtNow a_wayBy a_wayThen a__walkMost a__walkGoing a__walkSet a_kept a__drawX a_images a_imageX a_isMade h_a__taped h_a__rules h_a__next h_a__text h_a__made h_a__lines h_a__opened h_a__top h_a__x h_a__undone hf0) (cwV 1 hT (hz_gV q_1156 q_1157 q_1158 q_701 q_1159) rfl rfl rfl (by decide +kernel) ⟨(Nat.le_of_ble_eq_true rfl), (Nat.le_of_ble_eq_true rfl)⟩) ⟨hz_P.blind, va_recv hK hP (ci := 12) (q0 := 1) rfl rfl, hz_P.mk (hP.sub (ws' := [(a_said, .inl (cs 0, 123, .inl a_said_c)), (a, .inr (12, [.ref a_tape, .int a__taped, .int a__rules, .ref a_sign, .ref a_length, .ref a_clause, .ref a_clauses, .ref a_read, .int a__next, .int a__wrong, .int a__number, .int a__text, .int a__made, .int a__deep, .int a__lines, .ref a_open, .int a__opened, .ref a_stack, .int a__top, .ref a_word, .ref a_said, .int a__x, .ref a_worth, .ref a_mate, .ref a_wasSaid, .int a__undone, .int a__boughtNow, .ref a_wayBy, .ref a_wayThen, .int a__walkMost, .int a__walkGoing, .int a__walkSet, .ref a_kept, .long a__drawX, .ref a_images, .ref a_imageX, .ref a_isMade]))]) [0,1] rfl) hE hS⟩ rfl rfl hl.1 rfl (lv_room (Nat.le_of_ble_eq_true rfl)) dX12_areTheirs_10 ⟨(Nat.le_of_ble_eq_true rfl), (Nat.le_of_ble_eq_true rfl)⟩) hS (fun _ _ h => h.elim) (fun _ h => h.elim) (fun r8 u t H1 locs ht hvm hw hB hz1 hk1 hS => ?_)
    have hP := hz_keep hP hk1
    clear hk1 hB hz1
    generalize H1 = H at hP hS ⊢
    rcases hw with ⟨rfl, h9⟩ | ⟨rfl, h10, x11, x12⟩
    · have ii13 : (-2147483648) ≤ p2.toInt ∧ p2.toInt ≤ 2147483647 := h9
      refine lv_if_eq (tgt := 69) hx hb dX12_areTheirs_13 (by decide) (fun _ => ?_) (fun z => absurd (by decide) z)
      refine lv_iconst (v := 0) hx hb dX12_areTheirs_69 (by decide) ?_
      exact W.zret (v := 0) hx hb hr rfl (fun t ht hW => ⟨⟨0, (), rfl, (Or.inl (⟨rfl, (iv_w h3 (by decide) (by decide))⟩)), trivial⟩, hS.F ht⟩) hS.2.2 dX12_areTheirs_70
    · have ii14 : 0 ≤ p2.toInt ∧ p2.toInt ≤ 3 := h10
      refine lv_if_eq (tgt := 69) hx hb dX12_areTheirs_13 (by decide) (fun z => absurd z (by decide)) (fun _ => ?_)
      refine lv_iload_n hx hb dX12_areTheirs_16 rfl (lv_at hl 1 rfl) ?_
      refine lv_iload_n hx hb dX12_areTheirs_17 rfl (lv_at hl 3 rfl) ?_
      refine lv_icmp_eq (tgt := 69) hx hb dX12_areTheirs_18 (by decide) (fun c15 => ?_) (fun c15 => ?_)
      · have t16 : p0.toInt = p2.toInt := lin_eq c15 rfl rfl
        refine lv_iconst (v := 0) hx hb dX12_areTheirs_69 (by decide) ?_
        exact W.zret (v := 0) hx hb hr rfl (fun t ht hW => ⟨⟨0, (), rfl, (Or.inl (⟨rfl, (iv_w h3 (by decide) (by decide))⟩)), trivial⟩, hS.F ht⟩) hS.2.2 dX12_areTheirs_70
      · have t17 : p0.toInt ≠ p2.toInt := lin_ne c15 rfl rfl
        refine lv_aload_n hx hb dX12_areTheirs_21 rfl (lv_at hl 0 rfl) ?_
        refine lv_iload_n hx hb dX12_areTheirs_22 rfl (lv_at hl 2 rfl) ?_
        refine va_calli (va_runV (As := [.int p1]) (rest := []) ⟨hx, hb, hml, hown, hT⟩ (c_X12_isHalf l D cs kK kV a p1 a_said a_said_c a_tape a__taped a__rules a_sign a_length a_clause a_clauses a_read a__next a__wrong a__number a__text a__made a__deep a__lines a_open a__opened a_stack a__top a_word a__x a_worth a_mate a_wasSaid a__undone a__boughtNow a_wayBy a_wayThen a__walkMost a__walkGoing a__walkSet a_kept a__drawX a_images a_imageX a_isMade h_a__taped h_a__rules h_a__next h_a__text h_a__made h_a__lines h_a__opened h_a__top h_a__x h_a__undone hf0) (cwV 1 hT (hz_gV q_1148 q_1149 q_1150 q_701 q_1151) rfl rfl rfl (by decide +kernel) ⟨(Nat.le_of_ble_eq_true rfl), (Nat.le_of_ble_eq_true rfl)⟩) ⟨hz_P.blind, va_recv hK hP (ci := 12) (q0 := 1) rfl rfl, hz_P.mk (hP.sub (ws' := [(a_said, .inl (cs 0, 123, .inl a_said_c)), (a, .inr (12, [.ref a_tape, .int a__taped, .int a__rules, .ref a_sign, .ref a_length, .ref a_clause, .ref a_clauses, .ref a_read, .int a__next, .int a__wrong, .int a__number, .int a__text, .int a__made, .int a__deep, .int a__lines, .ref a_open, .int a__opened, .ref a_stack, .int a__top, .ref a_word, .ref a_said, .int a__x, .ref a_worth, .ref a_mate, .ref a_wasSaid, .int a__undone, .int a__boughtNow, .ref a_wayBy, .ref a_wayThen, .int a__walkMost, .int a__walkGoing, .int a__walkSet, .ref a_kept, .long a__drawX, .ref a_images, .ref a_imageX, .ref a_isMade]))]) [0,1] rfl) hE hS⟩ rfl rfl hl.1 rfl (lv_room (Nat.le_of_ble_eq_true rfl)) dX12_areTheirs_23 ⟨(Nat.le_of_ble_eq_true rfl), (Nat.le_of_ble_eq_true rfl)⟩) hS (fun _ _ h => h.elim) (fun _ h => h.elim) (fun r18 u t H1 locs ht hvm hw hB hz1 hk1 hS => ?_)
        have hP := hz_keep hP hk1
        clear hk1 hB hz1
        generalize H1 = H at hP hS ⊢
        rcases hw with ⟨rfl, h19⟩ | ⟨rfl, h20, x21, x22⟩
        · have ii23 : (-2147483648) ≤ p1.toInt ∧ p1.toInt ≤ 2147483647 := h19
          refine lv_if_eq (tgt := 69) hx hb dX12_areTheirs_26 (by decide) (fun _ => ?_) (fun z => absurd (by decide) z)
          refine lv_iconst (v := 0) hx hb dX12_areTheirs_69 (by decide) ?_
          exact W.zret (v := 0) hx hb hr rfl (fun t ht hW => ⟨⟨0, (), rfl, (Or.inl (⟨rfl, (iv_w h3 (by decide) (by decide))⟩)), trivial⟩, hS.F ht⟩) hS.2.2 dX12_areTheirs_70
        · have ii24 : 0 ≤ p1.toInt ∧ p1.toInt ≤ 11 := h20
          refine lv_if_eq (tgt := 69) hx hb dX12_areTheirs_26 (by decide) (fun z => absurd z (by decide)) (fun _ => ?_)
          refine lv_aload_n hx hb dX12_areTheirs_29 rfl (lv_at hl 0 rfl) ?_
          refine lv_iload hx hb dX12_areTheirs_30 (lv_at hl 4 rfl) ?_
          refine va_calli (va_runV (As := [.int p3]) (rest := []) ⟨hx, hb, hml, hown, hT⟩ (c_X12_isHalf l D cs kK kV a p3 a_said a_said_c a_tape a__taped a__rules a_sign a_length a_clause a_clauses a_read a__next a__wrong a__number a__text a__made a__deep a__lines a_open a__opened a_stack a__top a_word a__x a_worth a_mate a_wasSaid a__undone a__boughtNow a_wayBy a_wayThen a__walkMost a__walkGoing a__walkSet a_kept a__drawX a_images a_imageX a_isMade h_a__taped h_a__rules h_a__next h_a__text h_a__made h_a__lines h_a__opened h_a__top h_a__x h_a__undone hf0) (cwV 1 hT (hz_gV q_1148 q_1149 q_1150 q_701 q_1151) rfl rfl rfl (by decide +kernel) ⟨(Nat.le_of_ble_eq_true rfl), (Nat.le_of_ble_eq_true rfl)⟩) ⟨hz_P.blind, va_recv hK hP (ci := 12) (q0 := 1) rfl rfl, hz_P.mk (hP.sub (ws' := [(a_said, .inl (cs 0, 123, .inl a_said_c)), (a, .inr (12, [.ref a_tape, .int a__taped, .int a__rules, .ref a_sign, .ref a_length, .ref a_clause, .ref a_clauses, .ref a_read, .int a__next, .int a__wrong, .int a__number, .int a__text, .int a__made, .int a__deep, .int a__lines, .ref a_open, .int a__opened, .ref a_stack, .int a__top, .ref a_word, .ref a_said, .int a__x, .ref a_worth, .ref a_mate, .ref a_wasSaid, .int a__undone, .int a__boughtNow, .ref a_wayBy, .ref a_wayThen, .int a__walkMost, .int a__walkGoing, .int a__walkSet, .ref a_kept, .long a__drawX, .ref a_images, .ref a_imageX, .ref a_isMade]))]) [0,1] rfl) hE hS⟩ rfl rfl hl.1 rfl (lv_room (Nat.le_of_ble_eq_true rfl)) dX12_areTheirs_32 ⟨(Nat.le_of_ble_eq_true rfl), (Nat.le_of_ble_eq_true rfl)⟩) hS (fun _ _ h => h.elim) (fun _ h => h.elim) (fun r25 u t H1 locs ht hvm hw hB hz1 hk1 hS => ?_)
          have hP := hz_keep hP hk1
          clear hk1 hB hz1
          generalize H1 = H at hP hS ⊢
          rcases hw with ⟨rfl, h26⟩ | ⟨rfl, h27, x28, x29⟩
          · have ii30 : (-2147483648) ≤ p3.toInt ∧ p3.toInt ≤ 2147483647 := h26
            refine lv_if_eq (tgt := 69) hx hb dX12_areTheirs_35 (by decide) (fun _ => ?_) (fun z => absurd (by decide) z)
            refine lv_iconst (v := 0) hx hb dX12_areTheirs_69 (by decide) ?_
            exact W.zret (v := 0) hx hb hr rfl (fun t ht hW => ⟨⟨0, (), rfl, (Or.inl (⟨rfl, (iv_w h3 (by decide) (by decide))⟩)), trivial⟩, hS.F ht⟩) hS.2.2 dX12_areTheirs_70
          · have ii31 : 0 ≤ p3.toInt ∧ p3.toInt ≤ 11 := h27
            refine lv_if_eq (tgt := 69) hx hb dX12_areTheirs_35 (by decide) (fun z => absurd z (by decide)) (fun _ => ?_)
            refine lv_aload_n hx hb dX12_areTheirs_38 rfl (lv_at hl 0 rfl) ?_
            refine lv_iload_n hx hb dX12_areTheirs_39 rfl (lv_at hl 2 rfl) ?_
            refine lv_iconst (v := 3) hx hb dX12_areTheirs_40 (by decide) ?_
            refine va_calli (va_runV (As := [.int p1, .int 3]) (rest := []) ⟨hx, hb, hml, hown, hT⟩ (c_X12_halfOf l D cs kK kV a p1 3 a_tape a__taped a__rules a_sign a_length a_clause a_clauses a_read a__next a__wrong a__number a__text a__made a__deep a__lines a_open a__opened a_stack a__top a_word a_said a__x a_worth a_mate a_wasSaid a__undone a__boughtNow a_wayBy a_wayThen a__walkMost a__walkGoing a__walkSet a_kept a__drawX a_images a_imageX a_isMade a_said_c h20 ((iv_c (by decide))) h_a__taped h_a__rules h_a__next h_a__text h_a__made h_a__lines h_a__opened h_a__top h_a__x h_a__undone) (cwV 2 hT (hz_gV q_1104 q_1105 q_1106 q_701 q_1107) rfl rfl rfl (by decide +kernel) ⟨(Nat.le_of_ble_eq_true rfl), (Nat.le_of_ble_eq_true rfl)⟩) ⟨hz_P.blind, va_recv hK hP (ci := 12) (q0 := 1) rfl rfl, hz_P.mk (hP.sub (ws' := [(a, .inr (12, [.ref a_tape, .int a__taped, .int a__rules, .ref a_sign, .ref a_length, .ref a_clause, .ref a_clauses, .ref a_read, .int a__next, .int a__wrong, .int a__number, .int a__text, .int a__made, .int a__deep, .int a__lines, .ref a_open, .int a__opened, .ref a_stack, .int a__top, .ref a_word, .ref a_said, .int a__x, .ref a_worth, .ref a_mate, .ref a_wasSaid, .int a__undone, .int a__boughtNow, .ref a_wayBy, .ref a_wayThen, .int a__walkMost, .int a__walkGoing, .int a__walkSet, .ref a_kept, .long a__drawX, .ref a_images, .ref a_imageX, .ref a_isMade])), (a_said, .inl (cs 0, 123, .inl a_said_c))]) [1,0] rfl) hE hS⟩ rfl rfl hl.1 rfl (lv_room (Nat.le_of_ble_eq_true rfl)) dX12_areTheirs_41 ⟨(Nat.le_of_ble_eq_true rfl), (Nat.le_of_ble_eq_true rfl)⟩) hS (fun _ _ h => h.elim) (fun _ h => h.elim) (fun r32 u t H1 locs ht hvm hw hB hz1 hk1 hS => ?_)
            have hP := hz_keep hP hk1
            clear hk1 hB hz1
            generalize H1 = H at hP hS ⊢
            have x33 := hw
            have z3 : (3 : Int32).toInt = 3 := by decide
            refine lv_bipush (v := 100) hx hb dX12_areTheirs_44 (by decide) ?_
            refine lv_iload_n hx hb dX12_areTheirs_46 rfl (lv_at hl 1 rfl) ?_
            refine lv_iadd hx hb dX12_areTheirs_47 ?_
            refine lv_topi (fun v34 ev34 => ?_)
            have hv34 : IV 100 103 v34 := iv_add ev34 (iv_c (a := 100) (b := 100) (by decide)) h3 (by decide) (by decide)
            have ii35 : 100 ≤ v34.toInt ∧ v34.toInt ≤ 103 := hv34
            have lv34 : v34.toInt = 100 + p0.toInt := lin_add ev34 (iv_c (a := 100) (b := 100) (by decide)) h3 (by decide) rfl (by decide) (by decide)
            refine lv_icmp_ne (tgt := 69) hx hb dX12_areTheirs_48 (by decide) (fun c36 => ?_) (fun c36 => ?_)
            · have t37 : r32.toInt ≠ v34.toInt := lin_ne c36 rfl rfl
              refine lv_iconst (v := 0) hx hb dX12_areTheirs_69 (by decide) ?_
              exact W.zret (v := 0) hx hb hr rfl (fun t ht hW => ⟨⟨0, (), rfl, (Or.inl (⟨rfl, (iv_w h3 (by decide) (by decide))⟩)), trivial⟩, hS.F ht⟩) hS.2.2 dX12_areTheirs_70
            · have t38 : r32.toInt = v34.toInt := lin_eqN c36 rfl rfl
              have h39 : IV 100 103 r32 := iv_eq1 c36 iv_top hv34 (by decide) (by decide)
              have ii40 : 100 ≤ r32.toInt ∧ r32.toInt ≤ 103 := h39
              refine lv_aload_n hx hb dX12_areTheirs_51 rfl (lv_at hl 0 rfl) ?_
              refine lv_iload hx hb dX12_areTheirs_52 (lv_at hl 4 rfl) ?_
              refine lv_iconst (v := 3) hx hb dX12_areTheirs_54 (by decide) ?_
              refine va_calli (va_runV (As := [.int p3, .int 3]) (rest := []) ⟨hx, hb, hml, hown, hT⟩ (c_X12_halfOf l D cs kK kV a p3 3 a_tape a__taped a__rules a_sign a_length a_clause a_clauses a_read a__next a__wrong a__number a__text a__made a__deep a__lines a_open a__opened a_stack a__top a_word a_said a__x a_worth a_mate a_wasSaid a__undone a__boughtNow a_wayBy a_wayThen a__walkMost a__walkGoing a__walkSet a_kept a__drawX a_images a_imageX a_isMade a_said_c h27 ((iv_c (by decide))) h_a__taped h_a__rules h_a__next h_a__text h_a__made h_a__lines h_a__opened h_a__top h_a__x h_a__undone) (cwV 2 hT (hz_gV q_1104 q_1105 q_1106 q_701 q_1107) rfl rfl rfl (by decide +kernel) ⟨(Nat.le_of_ble_eq_true rfl), (Nat.le_of_ble_eq_true rfl)⟩) ⟨hz_P.blind, va_recv hK hP (ci := 12) (q0 := 1) rfl rfl, hz_P.mk (hP.sub (ws' := [(a, .inr (12, [.ref a_tape, .int a__taped, .int a__rules, .ref a_sign, .ref a_length, .ref a_clause, .ref a_clauses, .ref a_read, .int a__next, .int a__wrong, .int a__number, .int a__text, .int a__made, .int a__deep, .int a__lines, .ref a_open, .int a__opened, .ref a_stack, .int a__top, .ref a_word, .ref a_said, .int a__x, .ref a_worth, .ref a_mate, .ref a_wasSaid, .int a__undone, .int a__boughtNow, .ref a_wayBy, .ref a_wayThen, .int a__walkMost, .int a__walkGoing, .int a__walkSet, .ref a_kept, .long a__drawX, .ref a_images, .ref a_imageX, .ref a_isMade])), (a_said, .inl (cs 0, 123, .inl a_said_c))]) [1,0] rfl) hE hS⟩ rfl rfl hl.1 rfl (lv_room (Nat.le_of_ble_eq_true rfl)) dX12_areTheirs_55 ⟨(Nat.le_of_ble_eq_true rfl), (Nat.le_of_ble_eq_true rfl)⟩) hS (fun _ _ h => h.elim) (fun _ h => h.elim) (fun r41 u t H1 locs ht hvm hw hB hz1 hk1 hS => ?_)
              have hP := hz_keep hP hk1
              clear hk1 hB hz1
              generalize H1 = H at hP hS ⊢
              have x42 := hw
              refine lv_bipush (v := 100) hx hb dX12_areTheirs_58 (by decide) ?_
              refine lv_iload_n hx hb dX12_areTheirs_60 rfl (lv_at hl 3 rfl) ?_
              refine lv_iadd hx hb dX12_areTheirs_61 ?_
              refine lv_topi (fun v43 ev43 => ?_)
              have hv43 : IV 100 103 v43 := iv_add ev43 (iv_c (a := 100) (b := 100) (by decide)) h10 (by decide) (by decide)
              have ii44 : 100 ≤ v43.toInt ∧ v43.toInt ≤ 103 := hv43
              have lv43 : v43.toInt = 100 + p2.toInt := lin_add ev43 (iv_c (a := 100) (b := 100) (by decide)) h10 (by decide) rfl (by decide) (by decide)
              refine lv_icmp_ne (tgt := 69) hx hb dX12_areTheirs_62 (by decide) (fun c45 => ?_) (fun c45 => ?_)
              · have t46 : r41.toInt ≠ v43.toInt := lin_ne c45 rfl rfl
                refine lv_iconst (v := 0) hx hb dX12_areTheirs_69 (by decide) ?_
                exact W.zret (v := 0) hx hb hr rfl (fun t ht hW => ⟨⟨0, (), rfl, (Or.inl (⟨rfl, (iv_w h3 (by decide) (by decide))⟩)), trivial⟩, hS.F ht⟩) hS.2.2 dX12_areTheirs_70
              · have t47 : r41.toInt = v43.toInt := lin_eqN c45 rfl rfl
                have h48 : IV 100 103 r41 := iv_eq1 c45 iv_top hv43 (by decide) (by decide)
                have ii49 : 100 ≤ r41.toInt ∧ r41.toInt ≤ 103 := h48
                refine lv_iconst (v := 1) hx hb dX12_areTheirs_65 (by decide) ?_
                refine lv_goto (tgt := 70) hx hb dX12_areTheirs_66 (by decide) ?_
                exact W.zret (v := 1) hx hb hr rfl (fun t ht hW => ⟨⟨1, (), rfl, (Or.inr ((⟨rfl, h3, h20, h10, h27, x5, x12⟩))), trivial⟩, hS.F ht⟩) hS.2.2 dX12_areTheirs_70
