theorem dX12_putsBack_0 : decode cX12_putsBack 0 = .ok (.iconst 0, 1) := by decide +kernel
theorem dX12_putsBack_1 : decode cX12_putsBack 1 = .ok (.istore_n 1, 1) := by decide +kernel
theorem dX12_putsBack_2 : decode cX12_putsBack 2 = .ok (.iload_n 1, 1) := by decide +kernel
theorem dX12_putsBack_3 : decode cX12_putsBack 3 = .ok (.bipush 86, 2) := by decide +kernel
theorem dX12_putsBack_5 : decode cX12_putsBack 5 = .ok (.if_icmp .ge 21, 3) := by decide +kernel
theorem dX12_putsBack_8 : decode cX12_putsBack 8 = .ok (.aload_n 0, 1) := by decide +kernel
theorem dX12_putsBack_9 : decode cX12_putsBack 9 = .ok (.getfield 39, 3) := by decide +kernel
theorem dX12_putsBack_12 : decode cX12_putsBack 12 = .ok (.iload_n 1, 1) := by decide +kernel
theorem dX12_putsBack_13 : decode cX12_putsBack 13 = .ok (.aload_n 0, 1) := by decide +kernel
theorem dX12_putsBack_14 : decode cX12_putsBack 14 = .ok (.getfield 57, 3) := by decide +kernel
theorem dX12_putsBack_17 : decode cX12_putsBack 17 = .ok (.iload_n 1, 1) := by decide +kernel
theorem dX12_putsBack_18 : decode cX12_putsBack 18 = .ok (.iaload, 1) := by decide +kernel
theorem dX12_putsBack_19 : decode cX12_putsBack 19 = .ok (.iastore, 1) := by decide +kernel
theorem dX12_putsBack_20 : decode cX12_putsBack 20 = .ok (.iinc 1 1, 3) := by decide +kernel
theorem dX12_putsBack_23 : decode cX12_putsBack 23 = .ok (.goto (-21), 3) := by decide +kernel
theorem dX12_putsBack_26 : decode cX12_putsBack 26 = .ok (.return_, 1) := by decide +kernel
set_option maxHeartbeats 4000000 in
set_option maxRecDepth 100000 in
theorem c_X12_putsBack (l : Launch) (D : va_G) (cs : Nat → ClassId) (kK kV : Nat → Nat) (a : Nat) (a_said : Nat) (a_said_c : Nat → Int32) (a_kept : Nat) (a_kept_c : Nat → Int32) (a_tape : Nat) (a__taped : Int32) (a__rules : Int32) (a_sign : Nat) (a_length : Nat) (a_clause : Nat) (a_clauses : Nat) (a_read : Nat) (a__next : Int32) (a__wrong : Int32) (a__number : Int32) (a__text : Int32) (a__made : Int32) (a__deep : Int32) (a__lines : Int32) (a_open : Nat) (a__opened : Int32) (a_stack : Nat) (a__top : Int32) (a_word : Nat) (a__x : Int32) (a_worth : Nat) (a_mate : Nat) (a_wasSaid : Nat) (a__undone : Int32) (a__boughtNow : Int32) (a_wayBy : Nat) (a_wayThen : Nat) (a__walkMost : Int32) (a__walkGoing : Int32) (a__walkSet : Int32) (a__drawX : Int64) (a_images : Nat) (a_imageX : Nat) (a_isMade : Nat) (h_a__taped : IV 0 400 a__taped) (h_a__rules : IV 0 6 a__rules) (h_a__next : IV 0 400 a__next) (h_a__text : IV 0 6 a__text) (h_a__made : IV 0 60 a__made) (h_a__lines : IV 0 40 a__lines) (h_a__opened : IV 0 400 a__opened) (h_a__top : IV 0 64 a__top) (h_a__x : IV 0 2147483647 a__x) (h_a__undone : IV 0 20 a__undone) (sz : Nat) : Met l yX12_putsBack (hz_w yX12_putsBack cX12_putsBack 2 none) ({ frames := 0, cells := 0, slots := 0, locals := 0 }) (va_Pc [.ref a] (hz_C D cs kK kV sz [(a_said, .inl (cs 0, 123, .inl a_said_c)), (a_kept, .inl (cs 0, 86, .inl a_kept_c)), (a, .inr (12, [.ref a_tape, .int a__taped, .int a__rules, .ref a_sign, .ref a_length, .ref a_clause, .ref a_clauses, .ref a_read, .int a__next, .int a__wrong, .int a__number, .int a__text, .int a__made, .int a__deep, .int a__lines, .ref a_open, .int a__opened, .ref a_stack, .int a__top, .ref a_word, .ref a_said, .int a__x, .ref a_worth, .ref a_mate, .ref a_wasSaid, .int a__undone, .int a__boughtNow, .ref a_wayBy, .ref a_wayThen, .int a__walkMost, .int a__walkGoing, .int a__walkSet, .ref a_kept, .long a__drawX, .ref a_images, .ref a_imageX, .ref a_isMade]))])) (va_Qv (fun (u : (Nat → Int32) × (Nat → Nat → Int32)) => ((∀ j : Nat, j < 86 → (u.2 0) j = a_kept_c j) ∧ (∀ j : Nat, 86 ≤ j → (u.2 0) j = a_said_c j))) (fun u t => va_P D classes [(a_said, .inl (cs 0, 123, .inl (u.2 0))), (a_kept, .inl (cs 0, 86, .inl a_kept_c)), (a, .inr (12, [.ref a_tape, .int a__taped, .int a__rules, .ref a_sign, .ref a_length, .ref a_clause, .ref a_clauses, .ref a_read, .int a__next, .int a__wrong, .int a__number, .int a__text, .int a__made, .int a__deep, .int a__lines, .ref a_open, .int a__opened, .ref a_stack, .int a__top, .ref a_word, .ref a_said, .int a__x, .ref a_worth, .ref a_mate, .ref a_wasSaid, .int a__undone, .int a__boughtNow, .ref a_wayBy, .ref a_wayThen, .int a__walkMost, .int a__walkGoing, .int a__walkSet, .ref a_kept, .long a__drawX, .ref a_images, .ref a_imageX, .ref a_isMade]))] t.heap ∧ va_D (va_A [(a_said, .inl (cs 0, 123, .inl a_said_c)), (a_kept, .inl (cs 0, 86, .inl a_kept_c)), (a, .inr (12, [.ref a_tape, .int a__taped, .int a__rules, .ref a_sign, .ref a_length, .ref a_clause, .ref a_clauses, .ref a_read, .int a__next, .int a__wrong, .int a__number, .int a__text, .int a__made, .int a__deep, .int a__lines, .ref a_open, .int a__opened, .ref a_stack, .int a__top, .ref a_word, .ref a_said, .int a__x, .ref a_worth, .ref a_mate, .ref a_wasSaid, .int a__undone, .int a__boughtNow, .ref a_wayBy, .ref a_wayThen, .int a__walkMost, .int a__walkGoing, .int a__walkSet, .ref a_kept, .long a__drawX, .ref a_images, .ref a_imageX, .ref a_isMade]))] sz) [(a_said, .inl (cs 0, 123, .inl (u.2 0))), (a_kept, .inl (cs 0, 86, .inl a_kept_c)), (a, .inr (12, [.ref a_tape, .int a__taped, .int a__rules, .ref a_sign, .ref a_length, .ref a_clause, .ref a_clauses, .ref a_read, .int a__next, .int a__wrong, .int a__number, .int a__text, .int a__made, .int a__deep, .int a__lines, .ref a_open, .int a__opened, .ref a_stack, .int a__top, .ref a_word, .ref a_said, .int a__x, .ref a_worth, .ref a_mate, .ref a_wasSaid, .int a__undone, .int a__boughtNow, .ref a_wayBy, .ref a_wayThen, .int a__walkMost, .int a__walkGoing, .int a__walkSet, .ref a_kept, .long a__drawX, .ref a_images, .ref a_imageX, .ref a_isMade]))]) (va_A [(a_said, .inl (cs 0, 123, .inl a_said_c)), (a_kept, .inl (cs 0, 86, .inl a_kept_c)), (a, .inr (12, [.ref a_tape, .int a__taped, .int a__rules, .ref a_sign, .ref a_length, .ref a_clause, .ref a_clauses, .ref a_read, .int a__next, .int a__wrong, .int a__number, .int a__text, .int a__made, .int a__deep, .int a__lines, .ref a_open, .int a__opened, .ref a_stack, .int a__top, .ref a_word, .ref a_said, .int a__x, .ref a_worth, .ref a_mate, .ref a_wasSaid, .int a__undone, .int a__boughtNow, .ref a_wayBy, .ref a_wayThen, .int a__walkMost, .int a__walkGoing, .int a__walkSet, .ref a_kept, .long a__drawX, .ref a_images, .ref a_imageX, .ref a_isMade]))] sz)) 0 0 (va_A [(a_said, .inl (cs 0, 123, .inl a_said_c)), (a_kept, .inl (cs 0, 86, .inl a_kept_c)), (a, .inr (12, [.ref a_tape, .int a__taped, .int a__rules, .ref a_sign, .ref a_length, .ref a_clause, .ref a_clauses, .ref a_read, .int a__next, .int a__wrong, .int a__number, .int a__text, .int a__made, .int a__deep, .int a__lines, .ref a_open, .int a__opened, .ref a_stack, .int a__top, .ref a_word, .ref a_said, .int a__x, .ref a_worth, .ref a_mate, .ref a_wasSaid, .int a__undone, .int a__boughtNow, .ref a_wayBy, .ref a_wayThen, .int a__walkMost, .int a__walkGoing, .int a__walkSet, .ref a_kept, .long a__drawX, .ref a_images, .ref a_imageX, .ref a_isMade]))] sz) := by
  refine Met.ofW (cc := cX12_putsBack) (maxL := 2) (ret := none) (by decide) rfl ?_
  intro p e s m args below meth c s₁ B hml hv
  obtain ⟨rfl, hsz, hP, hD0, hE⟩ := hv
  have hx := B.exec
  have hb := B.bytes
  have hr := B.returns
  have hT : ∀ w ∈ TB, w.before _ s = true := fun w h => atoms_spec (ws := hz_w yX12_putsBack cX12_putsBack 2 none) B.pre w (List.mem_cons_of_mem _ h)
  have hown : s.vm.findClass RX12 = some m.cls := findClass_of_methodNamed B.named
  have hlocks := B.notSynchronized
  clear B
  subst hsz
  have hD := hD0.self (sz := s.heap.size)
  generalize hAe : va_A [(a_said, .inl (cs 0, 123, .inl a_said_c)), (a_kept, .inl (cs 0, 86, .inl a_kept_c)), (a, .inr (12, [.ref a_tape, .int a__taped, .int a__rules, .ref a_sign, .ref a_length, .ref a_clause, .ref a_clauses, .ref a_read, .int a__next, .int a__wrong, .int a__number, .int a__text, .int a__made, .int a__deep, .int a__lines, .ref a_open, .int a__opened, .ref a_stack, .int a__top, .ref a_word, .ref a_said, .int a__x, .ref a_worth, .ref a_mate, .ref a_wasSaid, .int a__undone, .int a__boughtNow, .ref a_wayBy, .ref a_wayThen, .int a__walkMost, .int a__walkGoing, .int a__walkSet, .ref a_kept, .long a__drawX, .ref a_images, .ref a_imageX, .ref a_isMade]))] s.heap.size = A at hD hE ⊢
  have hA : ∀ q : Nat, s.heap.size ≤ q → A q := fun q h => by rw [← hAe]; exact Or.inr h
  clear hAe hD0
  have hS : va_S A s.heap s.heap [] := va_S.rf
  have hK := hE.1
  have hl := lv_entry ([.ref a]) (n := 2) (Nat.le_of_ble_eq_true rfl)
  rw [lg_entry_eq]
  generalize (lg_sl ([.ref a]) ++ List.replicate (2 - (lg_sl ([.ref a])).length) Slot.unset).toArray = ls at hl ⊢
  have hl : lv_has ls 2 [(0, .ref a)] := hl
  obtain ⟨H, eH⟩ : ∃ z, z = s.heap := ⟨_, rfl⟩
  have hP : va_P D classes [(a_said, .inl (cs 0, 123, .inl a_said_c)), (a_kept, .inl (cs 0, 86, .inl a_kept_c)), (a, .inr (12, [.ref a_tape, .int a__taped, .int a__rules, .ref a_sign, .ref a_length, .ref a_clause, .ref a_clauses, .ref a_read, .int a__next, .int a__wrong, .int a__number, .int a__text, .int a__made, .int a__deep, .int a__lines, .ref a_open, .int a__opened, .ref a_stack, .int a__top, .ref a_word, .ref a_said, .int a__x, .ref a_worth, .ref a_mate, .ref a_wasSaid, .int a__undone, .int a__boughtNow, .ref a_wayBy, .ref a_wayThen, .int a__walkMost, .int a__walkGoing, .int a__walkSet, .ref a_kept, .long a__drawX, .ref a_images, .ref a_imageX, .ref a_isMade]))] H := by rw [eH]; exact hP
  have hS : va_S A s.heap H [] := by rw [eH]; exact hS
  rw [← eH]
  clear eH
  obtain ⟨locs, el⟩ : ∃ z : List Loc, z = [] := ⟨_, rfl⟩
  rw [← el] at hS ⊢
  clear el
  have z0 : (0 : Int32).toInt = 0 := by decide
  have z1 : (1 : Int32).toInt = 1 := by decide
  have zm1 : (-1 : Int32).toInt = -1 := by decide
  have i_a__lines : 0 ≤ a__lines.toInt ∧ a__lines.toInt ≤ 40 := h_a__lines
  have i_a__made : 0 ≤ a__made.toInt ∧ a__made.toInt ≤ 60 := h_a__made
  have i_a__next : 0 ≤ a__next.toInt ∧ a__next.toInt ≤ 400 := h_a__next
  have i_a__opened : 0 ≤ a__opened.toInt ∧ a__opened.toInt ≤ 400 := h_a__opened
  have i_a__rules : 0 ≤ a__rules.toInt ∧ a__rules.toInt ≤ 6 := h_a__rules
  have i_a__taped : 0 ≤ a__taped.toInt ∧ a__taped.toInt ≤ 400 := h_a__taped
  have i_a__text : 0 ≤ a__text.toInt ∧ a__text.toInt ≤ 6 := h_a__text
  have i_a__top : 0 ≤ a__top.toInt ∧ a__top.toInt ≤ 64 := h_a__top
  have i_a__undone : 0 ≤ a__undone.toInt ∧ a__undone.toInt ≤ 20 := h_a__undone
  have i_a__x : 0 ≤ a__x.toInt ∧ a__x.toInt ≤ 2147483647 := h_a__x
  have K2 : ∀ (n : Nat) (k2_L_1 : Int32) (k2_C_a_said : Nat → Int32), (86 - k2_L_1.toInt + 1).toNat ≤ n → IV 0 86 k2_L_1 → (CPF k2_C_a_said a_kept_c 0 k2_L_1.toInt.toNat) → (KPA k2_C_a_said a_said_c k2_L_1.toInt.toNat) → ∀ (H : Heap) (locs : List Loc), va_P D classes [(a_said, .inl (cs 0, 123, .inl k2_C_a_said)), (a_kept, .inl (cs 0, 86, .inl a_kept_c)), (a, .inr (12, [.ref a_tape, .int a__taped, .int a__rules, .ref a_sign, .ref a_length, .ref a_clause, .ref a_clauses, .ref a_read, .int a__next, .int a__wrong, .int a__number, .int a__text, .int a__made, .int a__deep, .int a__lines, .ref a_open, .int a__opened, .ref a_stack, .int a__top, .ref a_word, .ref a_said, .int a__x, .ref a_worth, .ref a_mate, .ref a_wasSaid, .int a__undone, .int a__boughtNow, .ref a_wayBy, .ref a_wayThen, .int a__walkMost, .int a__walkGoing, .int a__walkSet, .ref a_kept, .long a__drawX, .ref a_images, .ref a_imageX, .ref a_isMade]))] H → va_D A [(a_said, .inl (cs 0, 123, .inl k2_C_a_said)), (a_kept, .inl (cs 0, 86, .inl a_kept_c)), (a, .inr (12, [.ref a_tape, .int a__taped, .int a__rules, .ref a_sign, .ref a_length, .ref a_clause, .ref a_clauses, .ref a_read, .int a__next, .int a__wrong, .int a__number, .int a__text, .int a__made, .int a__deep, .int a__lines, .ref a_open, .int a__opened, .ref a_stack, .int a__top, .ref a_word, .ref a_said, .int a__x, .ref a_worth, .ref a_mate, .ref a_wasSaid, .int a__undone, .int a__boughtNow, .ref a_wayBy, .ref a_wayThen, .int a__walkMost, .int a__walkGoing, .int a__walkSet, .ref a_kept, .long a__drawX, .ref a_images, .ref a_imageX, .ref a_isMade]))] → va_S A s.heap H locs → ∀ ls : Array Slot, lv_has ls 2 [(1, .int k2_L_1), (0, .ref a)] → W p l e (headSpec (hz_w yX12_putsBack cX12_putsBack 2 none) ({ frames := 0, cells := 0, slots := 0, locals := 0 })).room s m [.ref a].toArray below meth c H locs 0 0 (MQ below (va_Qv (fun (u : (Nat → Int32) × (Nat → Nat → Int32)) => ((∀ j : Nat, j < 86 → (u.2 0) j = a_kept_c j) ∧ (∀ j : Nat, 86 ≤ j → (u.2 0) j = a_said_c j))) (fun u t => va_P D classes [(a_said, .inl (cs 0, 123, .inl (u.2 0))), (a_kept, .inl (cs 0, 86, .inl a_kept_c)), (a, .inr (12, [.ref a_tape, .int a__taped, .int a__rules, .ref a_sign, .ref a_length, .ref a_clause, .ref a_clauses, .ref a_read, .int a__next, .int a__wrong, .int a__number, .int a__text, .int a__made, .int a__deep, .int a__lines, .ref a_open, .int a__opened, .ref a_stack, .int a__top, .ref a_word, .ref a_said, .int a__x, .ref a_worth, .ref a_mate, .ref a_wasSaid, .int a__undone, .int a__boughtNow, .ref a_wayBy, .ref a_wayThen, .int a__walkMost, .int a__walkGoing, .int a__walkSet, .ref a_kept, .long a__drawX, .ref a_images, .ref a_imageX, .ref a_isMade]))] t.heap ∧ va_D A [(a_said, .inl (cs 0, 123, .inl (u.2 0))), (a_kept, .inl (cs 0, 86, .inl a_kept_c)), (a, .inr (12, [.ref a_tape, .int a__taped, .int a__rules, .ref a_sign, .ref a_length, .ref a_clause, .ref a_clauses, .ref a_read, .int a__next, .int a__wrong, .int a__number, .int a__text, .int a__made, .int a__deep, .int a__lines, .ref a_open, .int a__opened, .ref a_stack, .int a__top, .ref a_word, .ref a_said, .int a__x, .ref a_worth, .ref a_mate, .ref a_wasSaid, .int a__undone, .int a__boughtNow, .ref a_wayBy, .ref a_wayThen, .int a__walkMost, .int a__walkGoing, .int a__walkSet, .ref a_kept, .long a__drawX, .ref a_images, .ref a_imageX, .ref a_isMade]))]) A) [.ref a].toArray s 0 0 A) (F0 m 2 ls []) := by
    intro n
    induction n with
    | zero =>
      intro k2_L_1 k2_C_a_said hn q2_10 x2_0 x2_1 H locs hP hD hS ls hl
      exact absurd hn (by unfold IV at q2_10; omega)
    | succ n ih2 =>
      intro k2_L_1 k2_C_a_said hn q2_10 x2_0 x2_1 H locs hP hD hS ls hl
      have i_a__lines : 0 ≤ a__lines.toInt ∧ a__lines.toInt ≤ 40 := h_a__lines
      have i_a__made : 0 ≤ a__made.toInt ∧ a__made.toInt ≤ 60 := h_a__made
      have i_a__next : 0 ≤ a__next.toInt ∧ a__next.toInt ≤ 400 := h_a__next
      have i_a__opened : 0 ≤ a__opened.toInt ∧ a__opened.toInt ≤ 400 := h_a__opened
      have i_a__rules : 0 ≤ a__rules.toInt ∧ a__rules.toInt ≤ 6 := h_a__rules
      have i_a__taped : 0 ≤ a__taped.toInt ∧ a__taped.toInt ≤ 400 := h_a__taped
      have i_a__text : 0 ≤ a__text.toInt ∧ a__text.toInt ≤ 6 := h_a__text
      have i_a__top : 0 ≤ a__top.toInt ∧ a__top.toInt ≤ 64 := h_a__top
      have i_a__undone : 0 ≤ a__undone.toInt ∧ a__undone.toInt ≤ 20 := h_a__undone
      have i_a__x : 0 ≤ a__x.toInt ∧ a__x.toInt ≤ 2147483647 := h_a__x
      have i_k2_L_1 : 0 ≤ k2_L_1.toInt ∧ k2_L_1.toInt ≤ 86 := q2_10
      refine lv_iload_n hx hb dX12_putsBack_2 rfl (lv_at hl 0 rfl) ?_
      refine lv_bipush (v := 86) hx hb dX12_putsBack_3 (by decide) ?_
      refine lv_icmp_ge (tgt := 26) hx hb dX12_putsBack_5 (by decide) (fun c1 => ?_) (fun c1 => ?_)
      · have t2 : k2_L_1.toInt ≥ 86 := lin_ge c1 rfl (by decide)
        have h3 : IV 86 86 k2_L_1 := iv_le2 c1 (iv_c (a := 86) (b := 86) (by decide)) q2_10 (by decide)
        have ii4 : 86 ≤ k2_L_1.toInt ∧ k2_L_1.toInt ≤ 86 := h3
        refine W.widen (k := 0) (n := 0) (Nat.le_of_ble_eq_true rfl) (Nat.le_of_ble_eq_true rfl) ?_
        have g5 : ∀ j : Nat, j < 86 → k2_C_a_said j = a_kept_c j := (fun j hj => by have q := x2_0 j (by omega); rw [Nat.zero_add] at q; exact q)
        have g6 : ∀ j : Nat, 86 ≤ j → k2_C_a_said j = a_said_c j := (fun j hj => x2_1 j (by omega))
        exact W.vret hx hb hr (fun t ht hW => ⟨⟨(fun k => match k with | 0 => 0 | _ => 0, fun k => match k with | 0 => k2_C_a_said | _ => fun _ => 0), rfl, (⟨g5, g6⟩), by rw [ht]; exact hP.sub [0, 1, 2] rfl, hD.sub [0, 1, 2] (by decide) rfl⟩, hS.F ht⟩) hS.2.2 dX12_putsBack_26
      · have t7 : k2_L_1.toInt < 86 := lin_geN c1 rfl (by decide)
        have h8 : IV 0 85 k2_L_1 := iv_lt1 (Int32.not_le.mp c1) q2_10 (iv_c (a := 86) (b := 86) (by decide)) (by decide)
        have ii9 : 0 ≤ k2_L_1.toInt ∧ k2_L_1.toInt ≤ 85 := h8
        refine lv_aload_n hx hb dX12_putsBack_8 rfl (lv_at hl 1 rfl) ?_
        refine va_get (D := D) (ci := 12) (v := .ref a_said) (C := RX12) (T := TX12) (N := 37) hx hb hT i_X12 hown hK hP 2 rfl rfl 20 (by decide) (hT _ q_185) (fun _ h9 => h9) rfl dX12_putsBack_9 ?_
        refine lv_iload_n hx hb dX12_putsBack_12 rfl (lv_at hl 0 rfl) ?_
        refine lv_aload_n hx hb dX12_putsBack_13 rfl (lv_at hl 1 rfl) ?_
        refine va_get (D := D) (ci := 12) (v := .ref a_kept) (C := RX12) (T := TX12) (N := 37) hx hb hT i_X12 hown hK hP 2 rfl rfl 32 (by decide) (hT _ q_191) (fun _ h9 => h9) rfl dX12_putsBack_14 ?_
        refine lv_iload_n hx hb dX12_putsBack_17 rfl (lv_at hl 0 rfl) ?_
        refine va_iald hx hb hK hP 1 0 rfl rfl (iv_v h8 (by decide) (by decide)) dX12_putsBack_18 ?_
        refine lv_topi (fun v10 ev10 => ?_)
        have lv10 : v10.toInt = (a_kept_c (Int32.toNatClampNeg k2_L_1)).toInt := by rw [ev10]
        refine va_iast hx hb hK hP hD hS 0 0 rfl rfl (iv_v h8 (by decide) (by decide)) dX12_putsBack_19 (fun H locs hP hD hS => ?_)
        have hP : va_P D classes [(a_said, .inl (cs 0, 123, .inl (upd k2_C_a_said (Int32.toNatClampNeg k2_L_1) v10))), (a_kept, .inl (cs 0, 86, .inl a_kept_c)), (a, .inr (12, [.ref a_tape, .int a__taped, .int a__rules, .ref a_sign, .ref a_length, .ref a_clause, .ref a_clauses, .ref a_read, .int a__next, .int a__wrong, .int a__number, .int a__text, .int a__made, .int a__deep, .int a__lines, .ref a_open, .int a__opened, .ref a_stack, .int a__top, .ref a_word, .ref a_said, .int a__x, .ref a_worth, .ref a_mate, .ref a_wasSaid, .int a__undone, .int a__boughtNow, .ref a_wayBy, .ref a_wayThen, .int a__walkMost, .int a__walkGoing, .int a__walkSet, .ref a_kept, .long a__drawX, .ref a_images, .ref a_imageX, .ref a_isMade]))] H := hP
        have hD : va_D A [(a_said, .inl (cs 0, 123, .inl (upd k2_C_a_said (Int32.toNatClampNeg k2_L_1) v10))), (a_kept, .inl (cs 0, 86, .inl a_kept_c)), (a, .inr (12, [.ref a_tape, .int a__taped, .int a__rules, .ref a_sign, .ref a_length, .ref a_clause, .ref a_clauses, .ref a_read, .int a__next, .int a__wrong, .int a__number, .int a__text, .int a__made, .int a__deep, .int a__lines, .ref a_open, .int a__opened, .ref a_stack, .int a__top, .ref a_word, .ref a_said, .int a__x, .ref a_worth, .ref a_mate, .ref a_wasSaid, .int a__undone, .int a__boughtNow, .ref a_wayBy, .ref a_wayThen, .int a__walkMost, .int a__walkGoing, .int a__walkSet, .ref a_kept, .long a__drawX, .ref a_images, .ref a_imageX, .ref a_isMade]))] := hD
        obtain ⟨f11, uf11⟩ : ∃ z, z = upd k2_C_a_said (Int32.toNatClampNeg k2_L_1) v10 := ⟨_, rfl⟩
        rw [← uf11] at hP hD
        have wf11 : (f11 (Int32.toNatClampNeg k2_L_1)).toInt = v10.toInt := lin_us uf11 rfl
        obtain ⟨v12, ev12⟩ : ∃ z : Int32, z = k2_L_1 + 1 := ⟨_, rfl⟩
        have hv12 : IV 1 86 v12 := iv_add ev12 h8 (iv_c (a := 1) (b := 1) (by decide)) (by decide) (by decide)
        have dv12 : v12.toInt = k2_L_1.toInt + 1 := iv_addE ev12 h8 (iv_c (a := 1) (b := 1) (by decide)) (by decide) (by decide) (by decide)
        refine lv_iinc (v := v12) (lv' := [(1, .int v12), (0, .ref a)]) hx hb dX12_putsBack_20 hl (k := 0) rfl (by rw [ev12]; rfl) (by decide) rfl (fun ls hl => ?_)
        refine lv_goto (tgt := 2) hx hb dX12_putsBack_23 (by decide) ?_
        exact ih2 v12 f11 (by have h9 := h8; unfold IV at h9; have := dv12; omega) (iv_w hv12 (by decide) (by decide)) (cpf_step x2_0 uf11 ev10 (by omega) (by omega) (by omega)) (kpa_step x2_1 uf11 (by omega) (by omega)) H locs (hP.sub (ws' := [(a_said, .inl (cs 0, 123, .inl f11)), (a_kept, .inl (cs 0, 86, .inl a_kept_c)), (a, .inr (12, [.ref a_tape, .int a__taped, .int a__rules, .ref a_sign, .ref a_length, .ref a_clause, .ref a_clauses, .ref a_read, .int a__next, .int a__wrong, .int a__number, .int a__text, .int a__made, .int a__deep, .int a__lines, .ref a_open, .int a__opened, .ref a_stack, .int a__top, .ref a_word, .ref a_said, .int a__x, .ref a_worth, .ref a_mate, .ref a_wasSaid, .int a__undone, .int a__boughtNow, .ref a_wayBy, .ref a_wayThen, .int a__walkMost, .int a__walkGoing, .int a__walkSet, .ref a_kept, .long a__drawX, .ref a_images, .ref a_imageX, .ref a_isMade]))]) [0, 1, 2] rfl) (hD.sub (ws' := [(a_said, .inl (cs 0, 123, .inl f11)), (a_kept, .inl (cs 0, 86, .inl a_kept_c)), (a, .inr (12, [.ref a_tape, .int a__taped, .int a__rules, .ref a_sign, .ref a_length, .ref a_clause, .ref a_clauses, .ref a_read, .int a__next, .int a__wrong, .int a__number, .int a__text, .int a__made, .int a__deep, .int a__lines, .ref a_open, .int a__opened, .ref a_stack, .int a__top, .ref a_word, .ref a_said, .int a__x, .ref a_worth, .ref a_mate, .ref a_wasSaid, .int a__undone, .int a__boughtNow, .ref a_wayBy, .ref a_wayThen, .int a__walkMost, .int a__walkGoing, .int a__walkSet, .ref a_kept, .long a__drawX, .ref a_images, .ref a_imageX, .ref a_isMade]))]) [0, 1, 2] (by decide) rfl) hS ls (lv_sub hl [0, 1] rfl)
  refine lv_iconst (v := 0) hx hb dX12_putsBack_0 (by decide) ?_
  refine lv_istore_n (lv' := [(1, .int 0), (0, .ref a)]) hx hb dX12_putsBack_1 rfl hl (by decide) rfl (fun ls hl => ?_)
  exact K2 _ ((0 : Int32)) a_said_c (Nat.le_refl _) (iv_c (by decide)) (cpf_0) (kpa_0) H locs (hP.sub (ws' := [(a_said, .inl (cs 0, 123, .inl a_said_c)), (a_kept, .inl (cs 0, 86, .inl a_kept_c)), (a, .inr (12, [.ref a_tape, .int a__taped, .int a__rules, .ref a_sign, .ref a_length, .ref a_clause, .ref a_clauses, .ref a_read, .int a__next, .int a__wrong, .int a__number, .int a__text, .int a__made, .int a__deep, .int a__lines, .ref a_open, .int a__opened, .ref a_stack, .int a__top, .ref a_word, .ref a_said, .int a__x, .ref a_worth, .ref a_mate, .ref a_wasSaid, .int a__undone, .int a__boughtNow, .ref a_wayBy, .ref a_wayThen, .int a__walkMost, .int a__walkGoing, .int a__walkSet, .ref a_kept, .long a__drawX, .ref a_images, .ref a_imageX, .ref a_isMade]))]) [0, 1, 2] rfl) (hD.sub (ws' := [(a_said, .inl (cs 0, 123, .inl a_said_c)), (a_kept, .inl (cs 0, 86, .inl a_kept_c)), (a, .inr (12, [.ref a_tape, .int a__taped, .int a__rules, .ref a_sign, .ref a_length, .ref a_clause, .ref a_clauses, .ref a_read, .int a__next, .int a__wrong, .int a__number, .int a__text, .int a__made, .int a__deep, .int a__lines, .ref a_open, .int a__opened, .ref a_stack, .int a__top, .ref a_word, .ref a_said, .int a__x, .ref a_worth, .ref a_mate, .ref a_wasSaid, .int a__undone, .int a__boughtNow, .ref a_wayBy, .ref a_wayThen, .int a__walkMost, .int a__walkGoing, .int a__walkSet, .ref a_kept, .long a__drawX, .ref a_images, .ref a_imageX, .ref a_isMade]))]) [0, 1, 2] (by decide) rfl) hS ls (lv_sub hl [0, 1] rfl)
theorem dX12_hoursAhead_0 : decode cX12_hoursAhead 0 = .ok (.aload_n 0, 1) := by decide +kernel
theorem dX12_hoursAhead_1 : decode cX12_hoursAhead 1 = .ok (.invokevirtual 298, 3) := by decide +kernel
theorem dX12_hoursAhead_4 : decode cX12_hoursAhead 4 = .ok (.ifCond .eq 7, 3) := by decide +kernel
theorem dX12_hoursAhead_7 : decode cX12_hoursAhead 7 = .ok (.iconst 0, 1) := by decide +kernel
theorem dX12_hoursAhead_8 : decode cX12_hoursAhead 8 = .ok (.goto 17, 3) := by decide +kernel
theorem dX12_hoursAhead_11 : decode cX12_hoursAhead 11 = .ok (.aload_n 0, 1) := by decide +kernel
theorem dX12_hoursAhead_12 : decode cX12_hoursAhead 12 = .ok (.getfield 39, 3) := by decide +kernel
theorem dX12_hoursAhead_15 : decode cX12_hoursAhead 15 = .ok (.bipush 6, 2) := by decide +kernel
theorem dX12_hoursAhead_17 : decode cX12_hoursAhead 17 = .ok (.iaload, 1) := by decide +kernel
theorem dX12_hoursAhead_18 : decode cX12_hoursAhead 18 = .ok (.aload_n 0, 1) := by decide +kernel
theorem dX12_hoursAhead_19 : decode cX12_hoursAhead 19 = .ok (.getfield 39, 3) := by decide +kernel
theorem dX12_hoursAhead_22 : decode cX12_hoursAhead 22 = .ok (.iconst 3, 1) := by decide +kernel
theorem dX12_hoursAhead_23 : decode cX12_hoursAhead 23 = .ok (.iaload, 1) := by decide +kernel
theorem dX12_hoursAhead_24 : decode cX12_hoursAhead 24 = .ok (.isub, 1) := by decide +kernel
theorem dX12_hoursAhead_25 : decode cX12_hoursAhead 25 = .ok (.istore_n 1, 1) := by decide +kernel
theorem dX12_hoursAhead_26 : decode cX12_hoursAhead 26 = .ok (.iload_n 1, 1) := by decide +kernel
theorem dX12_hoursAhead_27 : decode cX12_hoursAhead 27 = .ok (.bipush 24, 2) := by decide +kernel
theorem dX12_hoursAhead_29 : decode cX12_hoursAhead 29 = .ok (.if_icmp .le 8, 3) := by decide +kernel
theorem dX12_hoursAhead_32 : decode cX12_hoursAhead 32 = .ok (.bipush 24, 2) := by decide +kernel
theorem dX12_hoursAhead_34 : decode cX12_hoursAhead 34 = .ok (.goto 4, 3) := by decide +kernel
theorem dX12_hoursAhead_37 : decode cX12_hoursAhead 37 = .ok (.iload_n 1, 1) := by decide +kernel
theorem dX12_hoursAhead_38 : decode cX12_hoursAhead 38 = .ok (.ireturn, 1) := by decide +kernel
set_option maxHeartbeats 4000000 in
set_option maxRecDepth 100000 in
theorem c_X12_hoursAhead (l : Launch) (D : va_G) (cs : Nat → ClassId) (kK kV : Nat → Nat) (a : Nat) (a_tape : Nat) (a__taped : Int32) (a__rules : Int32) (a_sign : Nat) (a_length : Nat) (a_clause : Nat) (a_clauses : Nat) (a_read : Nat) (a__next : Int32) (a__wrong : Int32) (a__number : Int32) (a__text : Int32) (a__made : Int32) (a__deep : Int32) (a__lines : Int32) (a_open : Nat) (a__opened : Int32) (a_stack : Nat) (a__top : Int32) (a_word : Nat) (a_said : Nat) (a__x : Int32) (a_worth : Nat) (a_mate : Nat) (a_wasSaid : Nat) (a__undone : Int32) (a__boughtNow : Int32) (a_wayBy : Nat) (a_wayThen : Nat) (a__walkMost : Int32) (a__walkGoing : Int32) (a__walkSet : Int32) (a_kept : Nat) (a__drawX : Int64) (a_images : Nat) (a_imageX : Nat) (a_isMade : Nat) (a_said_c : Nat → Int32) (h_a__taped : IV 0 400 a__taped) (h_a__rules : IV 0 6 a__rules) (h_a__next : IV 0 400 a__next) (h_a__text : IV 0 6 a__text) (h_a__made : IV 0 60 a__made) (h_a__lines : IV 0 40 a__lines) (h_a__opened : IV 0 400 a__opened) (h_a__top : IV 0 64 a__top) (h_a__x : IV 0 2147483647 a__x) (h_a__undone : IV 0 20 a__undone) : Met l yX12_hoursAhead (hz_w yX12_hoursAhead cX12_hoursAhead 2 (some .int)) ({ frames := 1, cells := 0, slots := 0, locals := 20 }) (va_Pc [.ref a] (hz_P D cs kK kV [(a, .inr (12, [.ref a_tape, .int a__taped, .int a__rules, .ref a_sign, .ref a_length, .ref a_clause, .ref a_clauses, .ref a_read, .int a__next, .int a__wrong, .int a__number, .int a__text, .int a__made, .int a__deep, .int a__lines, .ref a_open, .int a__opened, .ref a_stack, .int a__top, .ref a_word, .ref a_said, .int a__x, .ref a_worth, .ref a_mate, .ref a_wasSaid, .int a__undone, .int a__boughtNow, .ref a_wayBy, .ref a_wayThen, .int a__walkMost, .int a__walkGoing, .int a__walkSet, .ref a_kept, .long a__drawX, .ref a_images, .ref a_imageX, .ref a_isMade])), (a_said, .inl (cs 0, 123, .inl a_said_c))])) (va_Qi (fun (r : Int32) (_ : Unit) => IV (-2147483648) 24 r) (fun _ t => True) (fun _ => False)) 0 0 (fun _ => False) := by
  refine Met.ofW (cc := cX12_hoursAhead) (maxL := 2) (ret := (some .int)) (by decide) rfl ?_
  intro p e s m args below meth c s₁ B hml hv
  obtain ⟨rfl, hP, hE⟩ := hv
  have hx := B.exec
  have hb := B.bytes
  have hr := B.returns
  have hT : ∀ w ∈ TB, w.before _ s = true := fun w h => atoms_spec (ws := hz_w yX12_hoursAhead cX12_hoursAhead 2 (some .int)) B.pre w (List.mem_cons_of_mem _ h)
  have hown : s.vm.findClass RX12 = some m.cls := findClass_of_methodNamed B.named
  have hlocks := B.notSynchronized
  clear B
  have hS : va_S (fun _ => False) s.heap s.heap [] := va_S.rf
  have hK := hE.1
  have hl := lv_entry ([.ref a]) (n := 2) (Nat.le_of_ble_eq_true rfl)
  rw [lg_entry_eq]
  generalize (lg_sl ([.ref a]) ++ List.replicate (2 - (lg_sl ([.ref a])).length) Slot.unset).toArray = ls at hl ⊢
  have hl : lv_has ls 2 [(0, .ref a)] := hl
  obtain ⟨H, eH⟩ : ∃ z, z = s.heap := ⟨_, rfl⟩
  have hP : va_P D classes [(a, .inr (12, [.ref a_tape, .int a__taped, .int a__rules, .ref a_sign, .ref a_length, .ref a_clause, .ref a_clauses, .ref a_read, .int a__next, .int a__wrong, .int a__number, .int a__text, .int a__made, .int a__deep, .int a__lines, .ref a_open, .int a__opened, .ref a_stack, .int a__top, .ref a_word, .ref a_said, .int a__x, .ref a_worth, .ref a_mate, .ref a_wasSaid, .int a__undone, .int a__boughtNow, .ref a_wayBy, .ref a_wayThen, .int a__walkMost, .int a__walkGoing, .int a__walkSet, .ref a_kept, .long a__drawX, .ref a_images, .ref a_imageX, .ref a_isMade])), (a_said, .inl (cs 0, 123, .inl a_said_c))] H := by rw [eH]; exact hP
  have hS : va_S (fun _ => False) s.heap H [] := by rw [eH]; exact hS
  rw [← eH]
  clear eH
  obtain ⟨locs, el⟩ : ∃ z : List Loc, z = [] := ⟨_, rfl⟩
  rw [← el] at hS ⊢
  clear el
  have z0 : (0 : Int32).toInt = 0 := by decide
  have z1 : (1 : Int32).toInt = 1 := by decide
  have zm1 : (-1 : Int32).toInt = -1 := by decide
  have i_a__lines : 0 ≤ a__lines.toInt ∧ a__lines.toInt ≤ 40 := h_a__lines
  have i_a__made : 0 ≤ a__made.toInt ∧ a__made.toInt ≤ 60 := h_a__made
  have i_a__next : 0 ≤ a__next.toInt ∧ a__next.toInt ≤ 400 := h_a__next
  have i_a__opened : 0 ≤ a__opened.toInt ∧ a__opened.toInt ≤ 400 := h_a__opened
  have i_a__rules : 0 ≤ a__rules.toInt ∧ a__rules.toInt ≤ 6 := h_a__rules
  have i_a__taped : 0 ≤ a__taped.toInt ∧ a__taped.toInt ≤ 400 := h_a__taped
  have i_a__text : 0 ≤ a__text.toInt ∧ a__text.toInt ≤ 6 := h_a__text
  have i_a__top : 0 ≤ a__top.toInt ∧ a__top.toInt ≤ 64 := h_a__top
  have i_a__undone : 0 ≤ a__undone.toInt ∧ a__undone.toInt ≤ 20 := h_a__undone
  have i_a__x : 0 ≤ a__x.toInt ∧ a__x.toInt ≤ 2147483647 := h_a__x
  refine lv_aload_n hx hb dX12_hoursAhead_0 rfl (lv_at hl 0 rfl) ?_
  refine va_calli (va_runV (As := []) (rest := []) ⟨hx, hb, hml, hown, hT⟩ (c_X12_isDusk l D cs kK kV a a_tape a__taped a__rules a_sign a_length a_clause a_clauses a_read a__next a__wrong a__number a__text a__made a__deep a__lines a_open a__opened a_stack a__top a_word a_said a__x a_worth a_mate a_wasSaid a__undone a__boughtNow a_wayBy a_wayThen a__walkMost a__walkGoing a__walkSet a_kept a__drawX a_images a_imageX a_isMade a_said_c h_a__taped h_a__rules h_a__next h_a__text h_a__made h_a__lines h_a__opened h_a__top h_a__x h_a__undone) (cwV 0 hT (hz_gV q_1100 q_1101 q_1102 q_701 q_1103) rfl rfl rfl (by decide +kernel) ⟨(Nat.le_of_ble_eq_true rfl), (Nat.le_of_ble_eq_true rfl)⟩) ⟨hz_P.blind, va_recv hK hP (ci := 12) (q0 := 0) rfl rfl, hz_P.mk (hP.sub (ws' := [(a, .inr (12, [.ref a_tape, .int a__taped, .int a__rules, .ref a_sign, .ref a_length, .ref a_clause, .ref a_clauses, .ref a_read, .int a__next, .int a__wrong, .int a__number, .int a__text, .int a__made, .int a__deep, .int a__lines, .ref a_open, .int a__opened, .ref a_stack, .int a__top, .ref a_word, .ref a_said, .int a__x, .ref a_worth, .ref a_mate, .ref a_wasSaid, .int a__undone, .int a__boughtNow, .ref a_wayBy, .ref a_wayThen, .int a__walkMost, .int a__walkGoing, .int a__walkSet, .ref a_kept, .long a__drawX, .ref a_images, .ref a_imageX, .ref a_isMade])), (a_said, .inl (cs 0, 123, .inl a_said_c))]) [0,1] rfl) hE hS⟩ rfl rfl hl.1 rfl (lv_room (Nat.le_of_ble_eq_true rfl)) dX12_hoursAhead_1 ⟨(Nat.le_of_ble_eq_true rfl), (Nat.le_of_ble_eq_true rfl)⟩) hS (fun _ _ h => h.elim) (fun _ h => h.elim) (fun r1 u t H1 locs ht hvm hw hB hz1 hk1 hS => ?_)
  have hP := hz_keep hP hk1
  clear hk1 hB hz1
  generalize H1 = H at hP hS ⊢
  rcases hw with ⟨rfl, x2⟩ | rfl
  · refine lv_if_eq (tgt := 11) hx hb dX12_hoursAhead_4 (by decide) (fun _ => ?_) (fun z => absurd (by decide) z)
    refine lv_aload_n hx hb dX12_hoursAhead_11 rfl (lv_at hl 0 rfl) ?_
    refine va_get (D := D) (ci := 12) (v := .ref a_said) (C := RX12) (T := TX12) (N := 37) hx hb hT i_X12 hown hK hP 0 rfl rfl 20 (by decide) (hT _ q_185) (fun _ h9 => h9) rfl dX12_hoursAhead_12 ?_
    refine lv_bipush (v := 6) hx hb dX12_hoursAhead_15 (by decide) ?_
    refine va_iald hx hb hK hP 1 0 rfl rfl (iv_vc (by decide)) dX12_hoursAhead_17 ?_
    refine lv_topi (fun v3 ev3 => ?_)
    have lv3 : v3.toInt = (a_said_c 6).toInt := by rw [ev3]; rfl
    refine lv_aload_n hx hb dX12_hoursAhead_18 rfl (lv_at hl 0 rfl) ?_
    refine va_get (D := D) (ci := 12) (v := .ref a_said) (C := RX12) (T := TX12) (N := 37) hx hb hT i_X12 hown hK hP 0 rfl rfl 20 (by decide) (hT _ q_185) (fun _ h9 => h9) rfl dX12_hoursAhead_19 ?_
    refine lv_iconst (v := 3) hx hb dX12_hoursAhead_22 (by decide) ?_
    refine va_iald hx hb hK hP 1 0 rfl rfl (iv_vc (by decide)) dX12_hoursAhead_23 ?_
    refine lv_topi (fun v4 ev4 => ?_)
    have lv4 : v4.toInt = (a_said_c 3).toInt := by rw [ev4]; rfl
    refine lv_isub hx hb dX12_hoursAhead_24 ?_
    refine lv_topi (fun v5 ev5 => ?_)
    refine lv_istore_n (lv' := [(1, .int v5), (0, .ref a)]) hx hb dX12_hoursAhead_25 rfl hl (by decide) rfl (fun ls hl => ?_)
    refine lv_iload_n hx hb dX12_hoursAhead_26 rfl (lv_at hl 0 rfl) ?_
    refine lv_bipush (v := 24) hx hb dX12_hoursAhead_27 (by decide) ?_
    refine lv_icmp_le (tgt := 37) hx hb dX12_hoursAhead_29 (by decide) (fun c6 => ?_) (fun c6 => ?_)
    · have t7 : v5.toInt ≤ 24 := lin_le c6 rfl (by decide)
      have h8 : IV (-2147483648) 24 v5 := iv_le1 c6 iv_top (iv_c (a := 24) (b := 24) (by decide)) (by decide)
      have ii9 : (-2147483648) ≤ v5.toInt ∧ v5.toInt ≤ 24 := h8
      refine lv_iload_n hx hb dX12_hoursAhead_37 rfl (lv_at hl 0 rfl) ?_
      exact W.iret (v := v5) hx hb hr (fun t ht hW => ⟨⟨v5, (), rfl, h8, trivial⟩, hS.F ht⟩) hS.2.2 dX12_hoursAhead_38
    · have t10 : v5.toInt > 24 := lin_leN c6 rfl (by decide)
      have h11 : IV 25 2147483647 v5 := iv_lt2 (Int32.not_le.mp c6) (iv_c (a := 24) (b := 24) (by decide)) iv_top (by decide)
      have ii12 : 25 ≤ v5.toInt ∧ v5.toInt ≤ 2147483647 := h11
      refine lv_bipush (v := 24) hx hb dX12_hoursAhead_32 (by decide) ?_
      refine lv_goto (tgt := 38) hx hb dX12_hoursAhead_34 (by decide) ?_
      exact W.iret (v := 24) hx hb hr (fun t ht hW => ⟨⟨24, (), rfl, (iv_c (by decide)), trivial⟩, hS.F ht⟩) hS.2.2 dX12_hoursAhead_38
  · refine lv_if_eq (tgt := 11) hx hb dX12_hoursAhead_4 (by decide) (fun z => absurd z (by decide)) (fun _ => ?_)
    refine lv_iconst (v := 0) hx hb dX12_hoursAhead_7 (by decide) ?_
    refine lv_goto (tgt := 25) hx hb dX12_hoursAhead_8 (by decide) ?_
    refine lv_istore_n (lv' := [(1, .int 0), (0, .ref a)]) hx hb dX12_hoursAhead_25 rfl hl (by decide) rfl (fun ls hl => ?_)
    refine lv_iload_n hx hb dX12_hoursAhead_26 rfl (lv_at hl 0 rfl) ?_
    refine lv_bipush (v := 24) hx hb dX12_hoursAhead_27 (by decide) ?_
    refine lv_icmp_le (tgt := 37) hx hb dX12_hoursAhead_29 (by decide) (fun _ => ?_) (fun z => absurd (by decide) z)
    refine lv_iload_n hx hb dX12_hoursAhead_37 rfl (lv_at hl 0 rfl) ?_
    exact W.iret (v := 0) hx hb hr (fun t ht hW => ⟨⟨0, (), rfl, (iv_c (by decide)), trivial⟩, hS.F ht⟩) hS.2.2 dX12_hoursAhead_38
theorem dX12_soldFrom_0 : decode cX12_soldFrom 0 = .ok (.aload_n 0, 1) := by decide +kernel
theorem dX12_soldFrom_1 : decode cX12_soldFrom 1 = .ok (.getfield 39, 3) := by decide +kernel
theorem dX12_soldFrom_4 : decode cX12_soldFrom 4 = .ok (.bipush 10, 2) := by decide +kernel
theorem dX12_soldFrom_6 : decode cX12_soldFrom 6 = .ok (.iconst 5, 1) := by decide +kernel
theorem dX12_soldFrom_7 : decode cX12_soldFrom 7 = .ok (.iload_n 2, 1) := by decide +kernel
theorem dX12_soldFrom_8 : decode cX12_soldFrom 8 = .ok (.imul, 1) := by decide +kernel
theorem dX12_soldFrom_9 : decode cX12_soldFrom 9 = .ok (.iadd, 1) := by decide +kernel
theorem dX12_soldFrom_10 : decode cX12_soldFrom 10 = .ok (.iconst 3, 1) := by decide +kernel
theorem dX12_soldFrom_11 : decode cX12_soldFrom 11 = .ok (.iadd, 1) := by decide +kernel
theorem dX12_soldFrom_12 : decode cX12_soldFrom 12 = .ok (.iload_n 3, 1) := by decide +kernel
theorem dX12_soldFrom_13 : decode cX12_soldFrom 13 = .ok (.iastore, 1) := by decide +kernel
theorem dX12_soldFrom_14 : decode cX12_soldFrom 14 = .ok (.iconst (-1), 1) := by decide +kernel
theorem dX12_soldFrom_15 : decode cX12_soldFrom 15 = .ok (.istore 5, 2) := by decide +kernel
theorem dX12_soldFrom_17 : decode cX12_soldFrom 17 = .ok (.iconst 0, 1) := by decide +kernel
theorem dX12_soldFrom_18 : decode cX12_soldFrom 18 = .ok (.istore 6, 2) := by decide +kernel
theorem dX12_soldFrom_20 : decode cX12_soldFrom 20 = .ok (.iload 6, 2) := by decide +kernel
theorem dX12_soldFrom_22 : decode cX12_soldFrom 22 = .ok (.iload 4, 2) := by decide +kernel
theorem dX12_soldFrom_24 : decode cX12_soldFrom 24 = .ok (.if_icmp .ge 42, 3) := by decide +kernel
theorem dX12_soldFrom_27 : decode cX12_soldFrom 27 = .ok (.iload 5, 2) := by decide +kernel
theorem dX12_soldFrom_29 : decode cX12_soldFrom 29 = .ok (.ifCond .ge 37, 3) := by decide +kernel
theorem dX12_soldFrom_32 : decode cX12_soldFrom 32 = .ok (.aload_n 0, 1) := by decide +kernel
theorem dX12_soldFrom_33 : decode cX12_soldFrom 33 = .ok (.getfield 39, 3) := by decide +kernel
theorem dX12_soldFrom_36 : decode cX12_soldFrom 36 = .ok (.iconst 3, 1) := by decide +kernel
theorem dX12_soldFrom_37 : decode cX12_soldFrom 37 = .ok (.iaload, 1) := by decide +kernel
theorem dX12_soldFrom_38 : decode cX12_soldFrom 38 = .ok (.istore 7, 2) := by decide +kernel
theorem dX12_soldFrom_40 : decode cX12_soldFrom 40 = .ok (.aload_n 0, 1) := by decide +kernel
theorem dX12_soldFrom_41 : decode cX12_soldFrom 41 = .ok (.iload_n 1, 1) := by decide +kernel
theorem dX12_soldFrom_42 : decode cX12_soldFrom 42 = .ok (.invokevirtual 418, 3) := by decide +kernel
theorem dX12_soldFrom_45 : decode cX12_soldFrom 45 = .ok (.aload_n 0, 1) := by decide +kernel
theorem dX12_soldFrom_46 : decode cX12_soldFrom 46 = .ok (.iload_n 2, 1) := by decide +kernel
theorem dX12_soldFrom_47 : decode cX12_soldFrom 47 = .ok (.iconst 3, 1) := by decide +kernel
theorem dX12_soldFrom_48 : decode cX12_soldFrom 48 = .ok (.invokevirtual 301, 3) := by decide +kernel
theorem dX12_soldFrom_51 : decode cX12_soldFrom 51 = .ok (.bipush 100, 2) := by decide +kernel
theorem dX12_soldFrom_53 : decode cX12_soldFrom 53 = .ok (.if_icmp .lt 7, 3) := by decide +kernel
theorem dX12_soldFrom_56 : decode cX12_soldFrom 56 = .ok (.iload 7, 2) := by decide +kernel
theorem dX12_soldFrom_58 : decode cX12_soldFrom 58 = .ok (.istore 5, 2) := by decide +kernel
theorem dX12_soldFrom_60 : decode cX12_soldFrom 60 = .ok (.iinc 6 1, 3) := by decide +kernel
theorem dX12_soldFrom_63 : decode cX12_soldFrom 63 = .ok (.goto (-43), 3) := by decide +kernel
theorem dX12_soldFrom_66 : decode cX12_soldFrom 66 = .ok (.aload_n 0, 1) := by decide +kernel
theorem dX12_soldFrom_67 : decode cX12_soldFrom 67 = .ok (.invokevirtual 463, 3) := by decide +kernel
theorem dX12_soldFrom_70 : decode cX12_soldFrom 70 = .ok (.iload 5, 2) := by decide +kernel
theorem dX12_soldFrom_72 : decode cX12_soldFrom 72 = .ok (.ireturn, 1) := by decide +kernel
set_option maxHeartbeats 4000000 in
set_option maxRecDepth 100000 in
theorem c_X12_soldFrom (l : Launch) (D : va_G) (cs : Nat → ClassId) (kK kV : Nat → Nat) (a : Nat) (p0 : Int32) (p1 : Int32) (p2 : Int32) (p3 : Int32) (a_said : Nat) (a_said_c : Nat → Int32) (a_sign : Nat) (a_sign_c : Nat → Int32) (a_clause : Nat) (a_clause_c : Nat → Int32) (a_clauses : Nat) (a_clauses_c : Nat → Int32) (a_tape : Nat) (a__taped : Int32) (a__rules : Int32) (a_length : Nat) (a_read : Nat) (a__next : Int32) (a__wrong : Int32) (a__number : Int32) (a__text : Int32) (a__made : Int32) (a__deep : Int32) (a__lines : Int32) (a_open : Nat) (a__opened : Int32) (a_stack : Nat) (a__top : Int32) (a_word : Nat) (a__x : Int32) (a_worth : Nat) (a_mate : Nat) (a_wasSaid : Nat) (a__undone : Int32) (a__boughtNow : Int32) (a_wayBy : Nat) (a_wayThen : Nat) (a__walkMost : Int32) (a__walkGoing : Int32) (a__walkSet : Int32) (a_kept : Nat) (a__drawX : Int64) (a_images : Nat) (a_imageX : Nat) (a_isMade : Nat) (a_kept_c : Nat → Int32) (a_word_c : Nat → Int64) (a_stack_c : Nat → Int64) (h_p0 : IV 0 5 p0) (h_p1 : IV 0 11 p1) (h_p3 : IV (-2147483648) 24 p3) (h_a__taped : IV 0 400 a__taped) (h_a__rules : IV 0 6 a__rules) (h_a__next : IV 0 400 a__next) (h_a__text : IV 0 6 a__text) (h_a__made : IV 0 60 a__made) (h_a__lines : IV 0 40 a__lines) (h_a__opened : IV 0 400 a__opened) (h_a__top : IV 0 64 a__top) (h_a__x : IV 0 2147483647 a__x) (h_a__undone : IV 0 20 a__undone) (hf0 : BS a_said_c 200) (hf1 : TR a_said_c) (hf2 : (a_said_c 3).toInt ≤ 99) (hf3 : RUS a_sign_c a_clause_c a_clauses_c a__rules.toInt) (hf4 : p0.toInt < a__rules.toInt) (hf5 : BS a_kept_c 99) (sz : Nat) : Met l yX12_soldFrom (hz_w yX12_soldFrom cX12_soldFrom 8 (some .int)) ({ frames := 8, cells := 0, slots := 0, locals := 187 }) (va_Pc [.ref a, .int p0, .int p1, .int p2, .int p3] (hz_C D cs kK kV sz [(a_said, .inl (cs 0, 123, .inl a_said_c)), (a_sign, .inl (cs 0, 2400, .inl a_sign_c)), (a_clause, .inl (cs 0, 360, .inl a_clause_c)), (a_clauses, .inl (cs 0, 6, .inl a_clauses_c)), (a, .inr (12, [.ref a_tape, .int a__taped, .int a__rules, .ref a_sign, .ref a_length, .ref a_clause, .ref a_clauses, .ref a_read, .int a__next, .int a__wrong, .int a__number, .int a__text, .int a__made, .int a__deep, .int a__lines, .ref a_open, .int a__opened, .ref a_stack, .int a__top, .ref a_word, .ref a_said, .int a__x, .ref a_worth, .ref a_mate, .ref a_wasSaid, .int a__undone, .int a__boughtNow, .ref a_wayBy, .ref a_wayThen, .int a__walkMost, .int a__walkGoing, .int a__walkSet, .ref a_kept, .long a__drawX, .ref a_images, .ref a_imageX, .ref a_isMade])), (a_kept, .inl (cs 0, 86, .inl a_kept_c)), (a_word, .inl (cs 3, 13, .inr (.inl a_word_c))), (a_stack, .inl (cs 3, 64, .inr (.inl a_stack_c)))])) (va_Qi (fun (r : Int32) (u : (Nat → Int32) × (Nat → Nat → Int32)) => (IV (-1) 200 r ∧ IV 0 64 (u.1 1) ∧ (BS (u.2 0) 200) ∧ (TR (u.2 0)) ∧ (((u.2 0) 3).toInt ≤ 99))) (fun u t => ∃ (o_a_stack_c : Nat → Int64), ∃ (o_a_word_c : Nat → Int64), va_P D classes [(a_said, .inl (cs 0, 123, .inl (u.2 0))), (a_sign, .inl (cs 0, 2400, .inl a_sign_c)), (a_clause, .inl (cs 0, 360, .inl a_clause_c)), (a_clauses, .inl (cs 0, 6, .inl a_clauses_c)), (a, .inr (12, [.ref a_tape, .int a__taped, .int a__rules, .ref a_sign, .ref a_length, .ref a_clause, .ref a_clauses, .ref a_read, .int a__next, .int a__wrong, .int a__number, .int a__text, .int a__made, .int a__deep, .int a__lines, .ref a_open, .int a__opened, .ref a_stack, .int (u.1 1), .ref a_word, .ref a_said, .int a__x, .ref a_worth, .ref a_mate, .ref a_wasSaid, .int a__undone, .int (u.1 2), .ref a_wayBy, .ref a_wayThen, .int a__walkMost, .int a__walkGoing, .int a__walkSet, .ref a_kept, .long a__drawX, .ref a_images, .ref a_imageX, .ref a_isMade])), (a_kept, .inl (cs 0, 86, .inl a_kept_c)), (a_word, .inl (cs 3, 13, .inr (.inl o_a_word_c))), (a_stack, .inl (cs 3, 64, .inr (.inl o_a_stack_c)))] t.heap ∧ va_D (va_A [(a_said, .inl (cs 0, 123, .inl a_said_c)), (a_sign, .inl (cs 0, 2400, .inl a_sign_c)), (a_clause, .inl (cs 0, 360, .inl a_clause_c)), (a_clauses, .inl (cs 0, 6, .inl a_clauses_c)), (a, .inr (12, [.ref a_tape, .int a__taped, .int a__rules, .ref a_sign, .ref a_length, .ref a_clause, .ref a_clauses, .ref a_read, .int a__next, .int a__wrong, .int a__number, .int a__text, .int a__made, .int a__deep, .int a__lines, .ref a_open, .int a__opened, .ref a_stack, .int a__top, .ref a_word, .ref a_said, .int a__x, .ref a_worth, .ref a_mate, .ref a_wasSaid, .int a__undone, .int a__boughtNow, .ref a_wayBy, .ref a_wayThen, .int a__walkMost, .int a__walkGoing, .int a__walkSet, .ref a_kept, .long a__drawX, .ref a_images, .ref a_imageX, .ref a_isMade])), (a_kept, .inl (cs 0, 86, .inl a_kept_c)), (a_word, .inl (cs 3, 13, .inr (.inl a_word_c))), (a_stack, .inl (cs 3, 64, .inr (.inl a_stack_c)))] sz) [(a_said, .inl (cs 0, 123, .inl (u.2 0))), (a_sign, .inl (cs 0, 2400, .inl a_sign_c)), (a_clause, .inl (cs 0, 360, .inl a_clause_c)), (a_clauses, .inl (cs 0, 6, .inl a_clauses_c)), (a, .inr (12, [.ref a_tape, .int a__taped, .int a__rules, .ref a_sign, .ref a_length, .ref a_clause, .ref a_clauses, .ref a_read, .int a__next, .int a__wrong, .int a__number, .int a__text, .int a__made, .int a__deep, .int a__lines, .ref a_open, .int a__opened, .ref a_stack, .int (u.1 1), .ref a_word, .ref a_said, .int a__x, .ref a_worth, .ref a_mate, .ref a_wasSaid, .int a__undone, .int (u.1 2), .ref a_wayBy, .ref a_wayThen, .int a__walkMost, .int a__walkGoing, .int a__walkSet, .ref a_kept, .long a__drawX, .ref a_images, .ref a_imageX, .ref a_isMade])), (a_kept, .inl (cs 0, 86, .inl a_kept_c)), (a_word, .inl (cs 3, 13, .inr (.inl o_a_word_c))), (a_stack, .inl (cs 3, 64, .inr (.inl o_a_stack_c)))]) (va_A [(a_said, .inl (cs 0, 123, .inl a_said_c)), (a_sign, .inl (cs 0, 2400, .inl a_sign_c)), (a_clause, .inl (cs 0, 360, .inl a_clause_c)), (a_clauses, .inl (cs 0, 6, .inl a_clauses_c)), (a, .inr (12, [.ref a_tape, .int a__taped, .int a__rules, .ref a_sign, .ref a_length, .ref a_clause, .ref a_clauses, .ref a_read, .int a__next, .int a__wrong, .int a__number, .int a__text, .int a__made, .int a__deep, .int a__lines, .ref a_open, .int a__opened, .ref a_stack, .int a__top, .ref a_word, .ref a_said, .int a__x, .ref a_worth, .ref a_mate, .ref a_wasSaid, .int a__undone, .int a__boughtNow, .ref a_wayBy, .ref a_wayThen, .int a__walkMost, .int a__walkGoing, .int a__walkSet, .ref a_kept, .long a__drawX, .ref a_images, .ref a_imageX, .ref a_isMade])), (a_kept, .inl (cs 0, 86, .inl a_kept_c)), (a_word, .inl (cs 3, 13, .inr (.inl a_word_c))), (a_stack, .inl (cs 3, 64, .inr (.inl a_stack_c)))] sz)) 0 0 (va_A [(a_said, .inl (cs 0, 123, .inl a_said_c)), (a_sign, .inl (cs 0, 2400, .inl a_sign_c)), (a_clause, .inl (cs 0, 360, .inl a_clause_c)), (a_clauses, .inl (cs 0, 6, .inl a_clauses_c)), (a, .inr (12, [.ref a_tape, .int a__taped, .int a__rules, .ref a_sign, .ref a_length, .ref a_clause, .ref a_clauses, .ref a_read, .int a__next, .int a__wrong, .int a__number, .int a__text, .int a__made, .int a__deep, .int a__lines, .ref a_open, .int a__opened, .ref a_stack, .int a__top, .ref a_word, .ref a_said, .int a__x, .ref a_worth, .ref a_mate, .ref a_wasSaid, .int a__undone, .int a__boughtNow, .ref a_wayBy, .ref a_wayThen, .int a__walkMost, .int a__walkGoing, .int a__walkSet, .ref a_kept, .long a__drawX, .ref a_images, .ref a_imageX, .ref a_isMade])), (a_kept, .inl (cs 0, 86, .inl a_kept_c)), (a_word, .inl (cs 3, 13, .inr (.inl a_word_c))), (a_stack, .inl (cs 3, 64, .inr (.inl a_stack_c)))] sz) := by
  refine Met.ofW (cc := cX12_soldFrom) (maxL := 8) (ret := (some .int)) (by decide) rfl ?_
  intro p e s m args below meth c s₁ B hml hv
  obtain ⟨rfl, hsz, hP, hD0, hE⟩ := hv
  have hx := B.exec
  have hb := B.bytes
  have hr := B.returns
  have hT : ∀ w ∈ TB, w.before _ s = true := fun w h => atoms_spec (ws := hz_w yX12_soldFrom cX12_soldFrom 8 (some .int)) B.pre w (List.mem_cons_of_mem _ h)
  have hown : s.vm.findClass RX12 = some m.cls := findClass_of_methodNamed B.named
  have hlocks := B.notSynchronized
  clear B
  subst hsz
  have hD := hD0.self (sz := s.heap.size)
  generalize hAe : va_A [(a_said, .inl (cs 0, 123, .inl a_said_c)), (a_sign, .inl (cs 0, 2400, .inl a_sign_c)), (a_clause, .inl (cs 0, 360, .inl a_clause_c)), (a_clauses, .inl (cs 0, 6, .inl a_clauses_c)), (a, .inr (12, [.ref a_tape, .int a__taped, .int a__rules, .ref a_sign, .ref a_length, .ref a_clause, .ref a_clauses, .ref a_read, .int a__next, .int a__wrong, .int a__number, .int a__text, .int a__made, .int a__deep, .int a__lines, .ref a_open, .int a__opened, .ref a_stack, .int a__top, .ref a_word, .ref a_said, .int a__x, .ref a_worth, .ref a_mate, .ref a_wasSaid, .int a__undone, .int a__boughtNow, .ref a_wayBy, .ref a_wayThen, .int a__walkMost, .int a__walkGoing, .int a__walkSet, .ref a_kept, .long a__drawX, .ref a_images, .ref a_imageX, .ref a_isMade])), (a_kept, .inl (cs 0, 86, .inl a_kept_c)), (a_word, .inl (cs 3, 13, .inr (.inl a_word_c))), (a_stack, .inl (cs 3, 64, .inr (.inl a_stack_c)))] s.heap.size = A at hD hE ⊢
  have hA : ∀ q : Nat, s.heap.size ≤ q → A q := fun q h => by rw [← hAe]; exact Or.inr h
  clear hAe hD0
  have hS : va_S A s.heap s.heap [] := va_S.rf
  have hK := hE.1
  have hl := lv_entry ([.ref a, .int p0, .int p1, .int p2, .int p3]) (n := 8) (Nat.le_of_ble_eq_true rfl)
  rw [lg_entry_eq]
  generalize (lg_sl ([.ref a, .int p0, .int p1, .int p2, .int p3]) ++ List.replicate (8 - (lg_sl ([.ref a, .int p0, .int p1, .int p2, .int p3])).length) Slot.unset).toArray = ls at hl ⊢
  have hl : lv_has ls 8 [(0, .ref a), (1, .int p0), (2, .int p1), (3, .int p2), (4, .int p3)] := hl
  obtain ⟨H, eH⟩ : ∃ z, z = s.heap := ⟨_, rfl⟩
  have hP : va_P D classes [(a_said, .inl (cs 0, 123, .inl a_said_c)), (a_sign, .inl (cs 0, 2400, .inl a_sign_c)), (a_clause, .inl (cs 0, 360, .inl a_clause_c)), (a_clauses, .inl (cs 0, 6, .inl a_clauses_c)), (a, .inr (12, [.ref a_tape, .int a__taped, .int a__rules, .ref a_sign, .ref a_length, .ref a_clause, .ref a_clauses, .ref a_read, .int a__next, .int a__wrong, .int a__number, .int a__text, .int a__made, .int a__deep, .int a__lines, .ref a_open, .int a__opened, .ref a_stack, .int a__top, .ref a_word, .ref a_said, .int a__x, .ref a_worth, .ref a_mate, .ref a_wasSaid, .int a__undone, .int a__boughtNow, .ref a_wayBy, .ref a_wayThen, .int a__walkMost, .int a__walkGoing, .int a__walkSet, .ref a_kept, .long a__drawX, .ref a_images, .ref a_imageX, .ref a_isMade])), (a_kept, .inl (cs 0, 86, .inl a_kept_c)), (a_word, .inl (cs 3, 13, .inr (.inl a_word_c))), (a_stack, .inl (cs 3, 64, .inr (.inl a_stack_c)))] H := by rw [eH]; exact hP
  have hS : va_S A s.heap H [] := by rw [eH]; exact hS
  rw [← eH]
  clear eH
  obtain ⟨locs, el⟩ : ∃ z : List Loc, z = [] := ⟨_, rfl⟩
  rw [← el] at hS ⊢
  clear el
  have z0 : (0 : Int32).toInt = 0 := by decide
  have z1 : (1 : Int32).toInt = 1 := by decide
  have zm1 : (-1 : Int32).toInt = -1 := by decide
  have i_a__lines : 0 ≤ a__lines.toInt ∧ a__lines.toInt ≤ 40 := h_a__lines
  have i_a__made : 0 ≤ a__made.toInt ∧ a__made.toInt ≤ 60 := h_a__made
  have i_a__next : 0 ≤ a__next.toInt ∧ a__next.toInt ≤ 400 := h_a__next
  have i_a__opened : 0 ≤ a__opened.toInt ∧ a__opened.toInt ≤ 400 := h_a__opened
  have i_a__rules : 0 ≤ a__rules.toInt ∧ a__rules.toInt ≤ 6 := h_a__rules
  have i_a__taped : 0 ≤ a__taped.toInt ∧ a__taped.toInt ≤ 400 := h_a__taped
  have i_a__text : 0 ≤ a__text.toInt ∧ a__text.toInt ≤ 6 := h_a__text
  have i_a__top : 0 ≤ a__top.toInt ∧ a__top.toInt ≤ 64 := h_a__top
  have i_a__undone : 0 ≤ a__undone.toInt ∧ a__undone.toInt ≤ 20 := h_a__undone
  have i_a__x : 0 ≤ a__x.toInt ∧ a__x.toInt ≤ 2147483647 := h_a__x
  have i_p0 : 0 ≤ p0.toInt ∧ p0.toInt ≤ 5 := h_p0
  have i_p1 : 0 ≤ p1.toInt ∧ p1.toInt ≤ 11 := h_p1
  have i_p3 : (-2147483648) ≤ p3.toInt ∧ p3.toInt ≤ 24 := h_p3
  have K20 : ∀ (n : Nat) (k20_L_6 : Int32) (k20_L_5 : Int32) (k20_C_a_said : Nat → Int32) (k20_F_a_18 : Int32) (k20_F_a_26 : Int32) (k20_C_a_word : Nat → Int64) (k20_C_a_stack : Nat → Int64), (25 - k20_L_6.toInt).toNat ≤ n → IV 0 64 k20_F_a_18 → IV (-1) 200 k20_L_5 → IV 0 24 k20_L_6 → (BS k20_C_a_said 200) → (TR k20_C_a_said) → ((k20_C_a_said 3).toInt ≤ 99 + k20_L_6.toInt) → ∀ (H : Heap) (locs : List Loc), va_P D classes [(a_said, .inl (cs 0, 123, .inl k20_C_a_said)), (a_sign, .inl (cs 0, 2400, .inl a_sign_c)), (a_clause, .inl (cs 0, 360, .inl a_clause_c)), (a_clauses, .inl (cs 0, 6, .inl a_clauses_c)), (a, .inr (12, [.ref a_tape, .int a__taped, .int a__rules, .ref a_sign, .ref a_length, .ref a_clause, .ref a_clauses, .ref a_read, .int a__next, .int a__wrong, .int a__number, .int a__text, .int a__made, .int a__deep, .int a__lines, .ref a_open, .int a__opened, .ref a_stack, .int k20_F_a_18, .ref a_word, .ref a_said, .int a__x, .ref a_worth, .ref a_mate, .ref a_wasSaid, .int a__undone, .int k20_F_a_26, .ref a_wayBy, .ref a_wayThen, .int a__walkMost, .int a__walkGoing, .int a__walkSet, .ref a_kept, .long a__drawX, .ref a_images, .ref a_imageX, .ref a_isMade])), (a_kept, .inl (cs 0, 86, .inl a_kept_c)), (a_word, .inl (cs 3, 13, .inr (.inl k20_C_a_word))), (a_stack, .inl (cs 3, 64, .inr (.inl k20_C_a_stack)))] H → va_D A [(a_said, .inl (cs 0, 123, .inl k20_C_a_said)), (a_sign, .inl (cs 0, 2400, .inl a_sign_c)), (a_clause, .inl (cs 0, 360, .inl a_clause_c)), (a_clauses, .inl (cs 0, 6, .inl a_clauses_c)), (a, .inr (12, [.ref a_tape, .int a__taped, .int a__rules, .ref a_sign, .ref a_length, .ref a_clause, .ref a_clauses, .ref a_read, .int a__next, .int a__wrong, .int a__number, .int a__text, .int a__made, .int a__deep, .int a__lines, .ref a_open, .int a__opened, .ref a_stack, .int k20_F_a_18, .ref a_word, .ref a_said, .int a__x, .ref a_worth, .ref a_mate, .ref a_wasSaid, .int a__undone, .int k20_F_a_26, .ref a_wayBy, .ref a_wayThen, .int a__walkMost, .int a__walkGoing, .int a__walkSet, .ref a_kept, .long a__drawX, .ref a_images, .ref a_imageX, .ref a_isMade])), (a_kept, .inl (cs 0, 86, .inl a_kept_c)), (a_word, .inl (cs 3, 13, .inr (.inl k20_C_a_word))), (a_stack, .inl (cs 3, 64, .inr (.inl k20_C_a_stack)))] → va_S A s.heap H locs → ∀ ls : Array Slot, lv_has ls 8 [(6, .int k20_L_6), (5, .int k20_L_5), (0, .ref a), (1, .int p0), (2, .int p1), (3, .int p2), (4, .int p3)] → W p l e (headSpec (hz_w yX12_soldFrom cX12_soldFrom 8 (some .int)) ({ frames := 8, cells := 0, slots := 0, locals := 187 })).room s m [.ref a, .int p0, .int p1, .int p2, .int p3].toArray below meth c H locs 0 0 (MQ below (va_Qi (fun (r : Int32) (u : (Nat → Int32) × (Nat → Nat → Int32)) => (IV (-1) 200 r ∧ IV 0 64 (u.1 1) ∧ (BS (u.2 0) 200) ∧ (TR (u.2 0)) ∧ (((u.2 0) 3).toInt ≤ 99))) (fun u t => ∃ (o_a_stack_c : Nat → Int64), ∃ (o_a_word_c : Nat → Int64), va_P D classes [(a_said, .inl (cs 0, 123, .inl (u.2 0))), (a_sign, .inl (cs 0, 2400, .inl a_sign_c)), (a_clause, .inl (cs 0, 360, .inl a_clause_c)), (a_clauses, .inl (cs 0, 6, .inl a_clauses_c)), (a, .inr (12, [.ref a_tape, .int a__taped, .int a__rules, .ref a_sign, .ref a_length, .ref a_clause, .ref a_clauses, .ref a_read, .int a__next, .int a__wrong, .int a__number, .int a__text, .int a__made, .int a__deep, .int a__lines, .ref a_open, .int a__opened, .ref a_stack, .int (u.1 1), .ref a_word, .ref a_said, .int a__x, .ref a_worth, .ref a_mate, .ref a_wasSaid, .int a__undone, .int (u.1 2), .ref a_wayBy, .ref a_wayThen, .int a__walkMost, .int a__walkGoing, .int a__walkSet, .ref a_kept, .long a__drawX, .ref a_images, .ref a_imageX, .ref a_isMade])), (a_kept, .inl (cs 0, 86, .inl a_kept_c)), (a_word, .inl (cs 3, 13, .inr (.inl o_a_word_c))), (a_stack, .inl (cs 3, 64, .inr (.inl o_a_stack_c)))] t.heap ∧ va_D A [(a_said, .inl (cs 0, 123, .inl (u.2 0))), (a_sign, .inl (cs 0, 2400, .inl a_sign_c)), (a_clause, .inl (cs 0, 360, .inl a_clause_c)), (a_clauses, .inl (cs 0, 6, .inl a_clauses_c)), (a, .inr (12, [.ref a_tape, .int a__taped, .int a__rules, .ref a_sign, .ref a_length, .ref a_clause, .ref a_clauses, .ref a_read, .int a__next, .int a__wrong, .int a__number, .int a__text, .int a__made, .int a__deep, .int a__lines, .ref a_open, .int a__opened, .ref a_stack, .int (u.1 1), .ref a_word, .ref a_said, .int a__x, .ref a_worth, .ref a_mate, .ref a_wasSaid, .int a__undone, .int (u.1 2), .ref a_wayBy, .ref a_wayThen, .int a__walkMost, .int a__walkGoing, .int a__walkSet, .ref a_kept, .long a__drawX, .ref a_images, .ref a_imageX, .ref a_isMade])), (a_kept, .inl (cs 0, 86, .inl a_kept_c)), (a_word, .inl (cs 3, 13, .inr (.inl o_a_word_c))), (a_stack, .inl (cs 3, 64, .inr (.inl o_a_stack_c)))]) A) [.ref a, .int p0, .int p1, .int p2, .int p3].toArray s 0 0 A) (F0 m 20 ls []) := by
    intro n
    induction n with
    | zero =>
      intro k20_L_6 k20_L_5 k20_C_a_said k20_F_a_18 k20_F_a_26 k20_C_a_word k20_C_a_stack hn q20_9 q20_10 q20_11 x20_0 x20_1 x20_2 H locs hP hD hS ls hl
      have i_a__lines : 0 ≤ a__lines.toInt ∧ a__lines.toInt ≤ 40 := h_a__lines
      have i_a__made : 0 ≤ a__made.toInt ∧ a__made.toInt ≤ 60 := h_a__made
      have i_a__next : 0 ≤ a__next.toInt ∧ a__next.toInt ≤ 400 := h_a__next
      have i_a__opened : 0 ≤ a__opened.toInt ∧ a__opened.toInt ≤ 400 := h_a__opened
      have i_a__rules : 0 ≤ a__rules.toInt ∧ a__rules.toInt ≤ 6 := h_a__rules
      have i_a__taped : 0 ≤ a__taped.toInt ∧ a__taped.toInt ≤ 400 := h_a__taped
      have i_a__text : 0 ≤ a__text.toInt ∧ a__text.toInt ≤ 6 := h_a__text
      have i_a__undone : 0 ≤ a__undone.toInt ∧ a__undone.toInt ≤ 20 := h_a__undone
      have i_a__x : 0 ≤ a__x.toInt ∧ a__x.toInt ≤ 2147483647 := h_a__x
      have i_k20_F_a_18 : 0 ≤ k20_F_a_18.toInt ∧ k20_F_a_18.toInt ≤ 64 := q20_9
      have i_k20_L_5 : (-1) ≤ k20_L_5.toInt ∧ k20_L_5.toInt ≤ 200 := q20_10
      have i_k20_L_6 : 0 ≤ k20_L_6.toInt ∧ k20_L_6.toInt ≤ 24 := q20_11
      have i_p0 : 0 ≤ p0.toInt ∧ p0.toInt ≤ 5 := h_p0
      have i_p1 : 0 ≤ p1.toInt ∧ p1.toInt ≤ 11 := h_p1
      have i_p3 : (-2147483648) ≤ p3.toInt ∧ p3.toInt ≤ 24 := h_p3
      exact absurd hn (by omega)
    | succ n ih20 =>
      intro k20_L_6 k20_L_5 k20_C_a_said k20_F_a_18 k20_F_a_26 k20_C_a_word k20_C_a_stack hn q20_9 q20_10 q20_11 x20_0 x20_1 x20_2 H locs hP hD hS ls hl
      have i_a__lines : 0 ≤ a__lines.toInt ∧ a__lines.toInt ≤ 40 := h_a__lines
      have i_a__made : 0 ≤ a__made.toInt ∧ a__made.toInt ≤ 60 := h_a__made
      have i_a__next : 0 ≤ a__next.toInt ∧ a__next.toInt ≤ 400 := h_a__next
      have i_a__opened : 0 ≤ a__opened.toInt ∧ a__opened.toInt ≤ 400 := h_a__opened
      have i_a__rules : 0 ≤ a__rules.toInt ∧ a__rules.toInt ≤ 6 := h_a__rules
      have i_a__taped : 0 ≤ a__taped.toInt ∧ a__taped.toInt ≤ 400 := h_a__taped
      have i_a__text : 0 ≤ a__text.toInt ∧ a__text.toInt ≤ 6 := h_a__text
      have i_a__undone : 0 ≤ a__undone.toInt ∧ a__undone.toInt ≤ 20 := h_a__undone
      have i_a__x : 0 ≤ a__x.toInt ∧ a__x.toInt ≤ 2147483647 := h_a__x
      have i_k20_F_a_18 : 0 ≤ k20_F_a_18.toInt ∧ k20_F_a_18.toInt ≤ 64 := q20_9
      have i_k20_L_5 : (-1) ≤ k20_L_5.toInt ∧ k20_L_5.toInt ≤ 200 := q20_10
      have i_k20_L_6 : 0 ≤ k20_L_6.toInt ∧ k20_L_6.toInt ≤ 24 := q20_11
      have i_p0 : 0 ≤ p0.toInt ∧ p0.toInt ≤ 5 := h_p0
      have i_p1 : 0 ≤ p1.toInt ∧ p1.toInt ≤ 11 := h_p1
      have i_p3 : (-2147483648) ≤ p3.toInt ∧ p3.toInt ≤ 24 := h_p3
      refine lv_iload hx hb dX12_soldFrom_20 (lv_at hl 0 rfl) ?_
      refine lv_iload hx hb dX12_soldFrom_22 (lv_at hl 6 rfl) ?_
      refine lv_icmp_ge (tgt := 66) hx hb dX12_soldFrom_24 (by decide) (fun c1 => ?_) (fun c1 => ?_)
      · have t2 : k20_L_6.toInt ≥ p3.toInt := lin_ge c1 rfl rfl
        refine lv_aload_n hx hb dX12_soldFrom_66 rfl (lv_at hl 2 rfl) ?_
        have hFc := va_free (wc := [(a_said, .inl (cs 0, 123, .inl k20_C_a_said)), (a_kept, .inl (cs 0, 86, .inl a_kept_c)), (a, .inr (12, [.ref a_tape, .int a__taped, .int a__rules, .ref a_sign, .ref a_length, .ref a_clause, .ref a_clauses, .ref a_read, .int a__next, .int a__wrong, .int a__number, .int a__text, .int a__made, .int a__deep, .int a__lines, .ref a_open, .int a__opened, .ref a_stack, .int k20_F_a_18, .ref a_word, .ref a_said, .int a__x, .ref a_worth, .ref a_mate, .ref a_wasSaid, .int a__undone, .int k20_F_a_26, .ref a_wayBy, .ref a_wayThen, .int a__walkMost, .int a__walkGoing, .int a__walkSet, .ref a_kept, .long a__drawX, .ref a_images, .ref a_imageX, .ref a_isMade]))]) hD hS hA [0,5,4] rfl
        refine va_callv (va_runV (As := []) (rest := []) ⟨hx, hb, hml, hown, hT⟩ (c_X12_putsBack l D cs kK kV a a_said k20_C_a_said a_kept a_kept_c a_tape a__taped a__rules a_sign a_length a_clause a_clauses a_read a__next a__wrong a__number a__text a__made a__deep a__lines a_open a__opened a_stack k20_F_a_18 a_word a__x a_worth a_mate a_wasSaid a__undone k20_F_a_26 a_wayBy a_wayThen a__walkMost a__walkGoing a__walkSet a__drawX a_images a_imageX a_isMade h_a__taped h_a__rules h_a__next h_a__text h_a__made h_a__lines h_a__opened q20_9 h_a__x h_a__undone H.size) (cwV 0 hT (hz_gV q_1281 q_1282 q_1283 q_701 q_1284) rfl rfl rfl (by decide +kernel) ⟨(Nat.le_of_ble_eq_true rfl), (Nat.le_of_ble_eq_true rfl)⟩) ⟨hz_C.blind, va_recv hK hP (ci := 12) (q0 := 4) rfl rfl, hz_C.mk (hP.sub (ws' := [(a_said, .inl (cs 0, 123, .inl k20_C_a_said)), (a_kept, .inl (cs 0, 86, .inl a_kept_c)), (a, .inr (12, [.ref a_tape, .int a__taped, .int a__rules, .ref a_sign, .ref a_length, .ref a_clause, .ref a_clauses, .ref a_read, .int a__next, .int a__wrong, .int a__number, .int a__text, .int a__made, .int a__deep, .int a__lines, .ref a_open, .int a__opened, .ref a_stack, .int k20_F_a_18, .ref a_word, .ref a_said, .int a__x, .ref a_worth, .ref a_mate, .ref a_wasSaid, .int a__undone, .int k20_F_a_26, .ref a_wayBy, .ref a_wayThen, .int a__walkMost, .int a__walkGoing, .int a__walkSet, .ref a_kept, .long a__drawX, .ref a_images, .ref a_imageX, .ref a_isMade]))]) [0,5,4] rfl) (hD.sub (ws' := [(a_said, .inl (cs 0, 123, .inl k20_C_a_said)), (a_kept, .inl (cs 0, 86, .inl a_kept_c)), (a, .inr (12, [.ref a_tape, .int a__taped, .int a__rules, .ref a_sign, .ref a_length, .ref a_clause, .ref a_clauses, .ref a_read, .int a__next, .int a__wrong, .int a__number, .int a__text, .int a__made, .int a__deep, .int a__lines, .ref a_open, .int a__opened, .ref a_stack, .int k20_F_a_18, .ref a_word, .ref a_said, .int a__x, .ref a_worth, .ref a_mate, .ref a_wasSaid, .int a__undone, .int k20_F_a_26, .ref a_wayBy, .ref a_wayThen, .int a__walkMost, .int a__walkGoing, .int a__walkSet, .ref a_kept, .long a__drawX, .ref a_images, .ref a_imageX, .ref a_isMade]))]) [0,5,4] (by decide) rfl) hE hS hFc⟩ rfl rfl hl.1 rfl (lv_room (Nat.le_of_ble_eq_true rfl)) dX12_soldFrom_67 ⟨(Nat.le_of_ble_eq_true rfl), (Nat.le_of_ble_eq_true rfl)⟩) hS (fun q _ h => hFc q h) hFc (fun o4 t H1 locs ht hvm hw hB hz1 hk1 hS => ?_)
        obtain ⟨hP1, hD1⟩ := hB
        rw [ht] at hP1
        obtain ⟨hP, hD⟩ := va_join (wr := [(a_sign, .inl (cs 0, 2400, .inl a_sign_c)), (a_clause, .inl (cs 0, 360, .inl a_clause_c)), (a_clauses, .inl (cs 0, 6, .inl a_clauses_c)), (a_word, .inl (cs 3, 13, .inr (.inl k20_C_a_word))), (a_stack, .inl (cs 3, 64, .inr (.inl k20_C_a_stack)))]) (w1 := [(a_said, .inl (cs 0, 123, .inl (o4.2 0))), (a_kept, .inl (cs 0, 86, .inl a_kept_c)), (a, .inr (12, [.ref a_tape, .int a__taped, .int a__rules, .ref a_sign, .ref a_length, .ref a_clause, .ref a_clauses, .ref a_read, .int a__next, .int a__wrong, .int a__number, .int a__text, .int a__made, .int a__deep, .int a__lines, .ref a_open, .int a__opened, .ref a_stack, .int k20_F_a_18, .ref a_word, .ref a_said, .int a__x, .ref a_worth, .ref a_mate, .ref a_wasSaid, .int a__undone, .int k20_F_a_26, .ref a_wayBy, .ref a_wayThen, .int a__walkMost, .int a__walkGoing, .int a__walkSet, .ref a_kept, .long a__drawX, .ref a_images, .ref a_imageX, .ref a_isMade]))]) hP hD [0, 5, 4] [1, 2, 3, 6, 7] rfl rfl (by decide) (by decide) hk1 hFc hP1 hD1
        generalize H1 = H at hP hS ⊢
        have hP : va_P D classes [(a_sign, .inl (cs 0, 2400, .inl a_sign_c)), (a_clause, .inl (cs 0, 360, .inl a_clause_c)), (a_clauses, .inl (cs 0, 6, .inl a_clauses_c)), (a_word, .inl (cs 3, 13, .inr (.inl k20_C_a_word))), (a_stack, .inl (cs 3, 64, .inr (.inl k20_C_a_stack))), (a_said, .inl (cs 0, 123, .inl (o4.2 0))), (a_kept, .inl (cs 0, 86, .inl a_kept_c)), (a, .inr (12, [.ref a_tape, .int a__taped, .int a__rules, .ref a_sign, .ref a_length, .ref a_clause, .ref a_clauses, .ref a_read, .int a__next, .int a__wrong, .int a__number, .int a__text, .int a__made, .int a__deep, .int a__lines, .ref a_open, .int a__opened, .ref a_stack, .int k20_F_a_18, .ref a_word, .ref a_said, .int a__x, .ref a_worth, .ref a_mate, .ref a_wasSaid, .int a__undone, .int k20_F_a_26, .ref a_wayBy, .ref a_wayThen, .int a__walkMost, .int a__walkGoing, .int a__walkSet, .ref a_kept, .long a__drawX, .ref a_images, .ref a_imageX, .ref a_isMade]))] H := hP
        have hD : va_D A [(a_sign, .inl (cs 0, 2400, .inl a_sign_c)), (a_clause, .inl (cs 0, 360, .inl a_clause_c)), (a_clauses, .inl (cs 0, 6, .inl a_clauses_c)), (a_word, .inl (cs 3, 13, .inr (.inl k20_C_a_word))), (a_stack, .inl (cs 3, 64, .inr (.inl k20_C_a_stack))), (a_said, .inl (cs 0, 123, .inl (o4.2 0))), (a_kept, .inl (cs 0, 86, .inl a_kept_c)), (a, .inr (12, [.ref a_tape, .int a__taped, .int a__rules, .ref a_sign, .ref a_length, .ref a_clause, .ref a_clauses, .ref a_read, .int a__next, .int a__wrong, .int a__number, .int a__text, .int a__made, .int a__deep, .int a__lines, .ref a_open, .int a__opened, .ref a_stack, .int k20_F_a_18, .ref a_word, .ref a_said, .int a__x, .ref a_worth, .ref a_mate, .ref a_wasSaid, .int a__undone, .int k20_F_a_26, .ref a_wayBy, .ref a_wayThen, .int a__walkMost, .int a__walkGoing, .int a__walkSet, .ref a_kept, .long a__drawX, .ref a_images, .ref a_imageX, .ref a_isMade]))] := hD
        clear hk1 hFc hP1 hD1 hz1
        rcases hw with ⟨x5, x6⟩
        have fa7 : BS (o4.2 0) 99 := (bs_congr hf5 (fun j hj => x5 j hj))
        have fa8 : BS (o4.2 0) 200 := (bs_hi fa7 (by decide))
        have fa9 : TR (o4.2 0) := (tr_congr x20_1 (fun j hj => x6 j hj))
        have h3 := fa7.2.2.2.1.2
        refine lv_iload hx hb dX12_soldFrom_70 (lv_at hl 1 rfl) ?_
        refine W.widen (k := 0) (n := 0) (Nat.le_of_ble_eq_true rfl) (Nat.le_of_ble_eq_true rfl) ?_
        have g10 : ((o4.2 0) 3).toInt ≤ 99 := (by omega)
        exact W.iret (v := k20_L_5) hx hb hr (fun t ht hW => ⟨⟨k20_L_5, (fun k => match k with | 0 => 0 | 1 => k20_F_a_18 | 2 => k20_F_a_26 | _ => 0, fun k => match k with | 0 => o4.2 0 | _ => fun _ => 0), rfl, (⟨q20_10, q20_9, fa8, fa9, g10⟩), k20_C_a_stack, k20_C_a_word, by rw [ht]; exact hP.sub [5, 0, 1, 2, 7, 6, 3, 4] rfl, hD.sub [5, 0, 1, 2, 7, 6, 3, 4] (by decide) rfl⟩, hS.F ht⟩) hS.2.2 dX12_soldFrom_72
      · have t11 : k20_L_6.toInt < p3.toInt := lin_geN c1 rfl rfl
        have h12 : IV 0 23 k20_L_6 := iv_lt1 (Int32.not_le.mp c1) q20_11 h_p3 (by decide)
        have ii13 : 0 ≤ k20_L_6.toInt ∧ k20_L_6.toInt ≤ 23 := h12
        have h14 : IV 1 24 p3 := iv_lt2 (Int32.not_le.mp c1) q20_11 h_p3 (by decide)
        have ii15 : 1 ≤ p3.toInt ∧ p3.toInt ≤ 24 := h14
        refine lv_iload hx hb dX12_soldFrom_27 (lv_at hl 1 rfl) ?_
        refine lv_if_ge (tgt := 66) hx hb dX12_soldFrom_29 (by decide) (fun c16 => ?_) (fun c16 => ?_)
        · have t17 : k20_L_5.toInt ≥ 0 := lin_ge c16 rfl (by decide)
          have h18 : IV 0 200 k20_L_5 := iv_le2 c16 (iv_c (a := 0) (b := 0) (by decide)) q20_10 (by decide)
          have ii19 : 0 ≤ k20_L_5.toInt ∧ k20_L_5.toInt ≤ 200 := h18
          refine lv_aload_n hx hb dX12_soldFrom_66 rfl (lv_at hl 2 rfl) ?_
          have hFc := va_free (wc := [(a_said, .inl (cs 0, 123, .inl k20_C_a_said)), (a_kept, .inl (cs 0, 86, .inl a_kept_c)), (a, .inr (12, [.ref a_tape, .int a__taped, .int a__rules, .ref a_sign, .ref a_length, .ref a_clause, .ref a_clauses, .ref a_read, .int a__next, .int a__wrong, .int a__number, .int a__text, .int a__made, .int a__deep, .int a__lines, .ref a_open, .int a__opened, .ref a_stack, .int k20_F_a_18, .ref a_word, .ref a_said, .int a__x, .ref a_worth, .ref a_mate, .ref a_wasSaid, .int a__undone, .int k20_F_a_26, .ref a_wayBy, .ref a_wayThen, .int a__walkMost, .int a__walkGoing, .int a__walkSet, .ref a_kept, .long a__drawX, .ref a_images, .ref a_imageX, .ref a_isMade]))]) hD hS hA [0,5,4] rfl
          refine va_callv (va_runV (As := []) (rest := []) ⟨hx, hb, hml, hown, hT⟩ (c_X12_putsBack l D cs kK kV a a_said k20_C_a_said a_kept a_kept_c a_tape a__taped a__rules a_sign a_length a_clause a_clauses a_read a__next a__wrong a__number a__text a__made a__deep a__lines a_open a__opened a_stack k20_F_a_18 a_word a__x a_worth a_mate a_wasSaid a__undone k20_F_a_26 a_wayBy a_wayThen a__walkMost a__walkGoing a__walkSet a__drawX a_images a_imageX a_isMade h_a__taped h_a__rules h_a__next h_a__text h_a__made h_a__lines h_a__opened q20_9 h_a__x h_a__undone H.size) (cwV 0 hT (hz_gV q_1281 q_1282 q_1283 q_701 q_1284) rfl rfl rfl (by decide +kernel) ⟨(Nat.le_of_ble_eq_true rfl), (Nat.le_of_ble_eq_true rfl)⟩) ⟨hz_C.blind, va_recv hK hP (ci := 12) (q0 := 4) rfl rfl, hz_C.mk (hP.sub (ws' := [(a_said, .inl (cs 0, 123, .inl k20_C_a_said)), (a_kept, .inl (cs 0, 86, .inl a_kept_c)), (a, .inr (12, [.ref a_tape, .int a__taped, .int a__rules, .ref a_sign, .ref a_length, .ref a_clause, .ref a_clauses, .ref a_read, .int a__next, .int a__wrong, .int a__number, .int a__text, .int a__made, .int a__deep, .int a__lines, .ref a_open, .int a__opened, .ref a_stack, .int k20_F_a_18, .ref a_word, .ref a_said, .int a__x, .ref a_worth, .ref a_mate, .ref a_wasSaid, .int a__undone, .int k20_F_a_26, .ref a_wayBy, .ref a_wayThen, .int a__walkMost, .int a__walkGoing, .int a__walkSet, .ref a_kept, .long a__drawX, .ref a_images, .ref a_imageX, .ref a_isMade]))]) [0,5,4] rfl) (hD.sub (ws' := [(a_said, .inl (cs 0, 123, .inl k20_C_a_said)), (a_kept, .inl (cs 0, 86, .inl a_kept_c)), (a, .inr (12, [.ref a_tape, .int a__taped, .int a__rules, .ref a_sign, .ref a_length, .ref a_clause, .ref a_clauses, .ref a_read, .int a__next, .int a__wrong, .int a__number, .int a__text, .int a__made, .int a__deep, .int a__lines, .ref a_open, .int a__opened, .ref a_stack, .int k20_F_a_18, .ref a_word, .ref a_said, .int a__x, .ref a_worth, .ref a_mate, .ref a_wasSaid, .int a__undone, .int k20_F_a_26, .ref a_wayBy, .ref a_wayThen, .int a__walkMost, .int a__walkGoing, .int a__walkSet, .ref a_kept, .long a__drawX, .ref a_images, .ref a_imageX, .ref a_isMade]))]) [0,5,4] (by decide) rfl) hE hS hFc⟩ rfl rfl hl.1 rfl (lv_room (Nat.le_of_ble_eq_true rfl)) dX12_soldFrom_67 ⟨(Nat.le_of_ble_eq_true rfl), (Nat.le_of_ble_eq_true rfl)⟩) hS (fun q _ h => hFc q h) hFc (fun o21 t H1 locs ht hvm hw hB hz1 hk1 hS => ?_)
          obtain ⟨hP1, hD1⟩ := hB
          rw [ht] at hP1
          obtain ⟨hP, hD⟩ := va_join (wr := [(a_sign, .inl (cs 0, 2400, .inl a_sign_c)), (a_clause, .inl (cs 0, 360, .inl a_clause_c)), (a_clauses, .inl (cs 0, 6, .inl a_clauses_c)), (a_word, .inl (cs 3, 13, .inr (.inl k20_C_a_word))), (a_stack, .inl (cs 3, 64, .inr (.inl k20_C_a_stack)))]) (w1 := [(a_said, .inl (cs 0, 123, .inl (o21.2 0))), (a_kept, .inl (cs 0, 86, .inl a_kept_c)), (a, .inr (12, [.ref a_tape, .int a__taped, .int a__rules, .ref a_sign, .ref a_length, .ref a_clause, .ref a_clauses, .ref a_read, .int a__next, .int a__wrong, .int a__number, .int a__text, .int a__made, .int a__deep, .int a__lines, .ref a_open, .int a__opened, .ref a_stack, .int k20_F_a_18, .ref a_word, .ref a_said, .int a__x, .ref a_worth, .ref a_mate, .ref a_wasSaid, .int a__undone, .int k20_F_a_26, .ref a_wayBy, .ref a_wayThen, .int a__walkMost, .int a__walkGoing, .int a__walkSet, .ref a_kept, .long a__drawX, .ref a_images, .ref a_imageX, .ref a_isMade]))]) hP hD [0, 5, 4] [1, 2, 3, 6, 7] rfl rfl (by decide) (by decide) hk1 hFc hP1 hD1
          generalize H1 = H at hP hS ⊢
          have hP : va_P D classes [(a_sign, .inl (cs 0, 2400, .inl a_sign_c)), (a_clause, .inl (cs 0, 360, .inl a_clause_c)), (a_clauses, .inl (cs 0, 6, .inl a_clauses_c)), (a_word, .inl (cs 3, 13, .inr (.inl k20_C_a_word))), (a_stack, .inl (cs 3, 64, .inr (.inl k20_C_a_stack))), (a_said, .inl (cs 0, 123, .inl (o21.2 0))), (a_kept, .inl (cs 0, 86, .inl a_kept_c)), (a, .inr (12, [.ref a_tape, .int a__taped, .int a__rules, .ref a_sign, .ref a_length, .ref a_clause, .ref a_clauses, .ref a_read, .int a__next, .int a__wrong, .int a__number, .int a__text, .int a__made, .int a__deep, .int a__lines, .ref a_open, .int a__opened, .ref a_stack, .int k20_F_a_18, .ref a_word, .ref a_said, .int a__x, .ref a_worth, .ref a_mate, .ref a_wasSaid, .int a__undone, .int k20_F_a_26, .ref a_wayBy, .ref a_wayThen, .int a__walkMost, .int a__walkGoing, .int a__walkSet, .ref a_kept, .long a__drawX, .ref a_images, .ref a_imageX, .ref a_isMade]))] H := hP
          have hD : va_D A [(a_sign, .inl (cs 0, 2400, .inl a_sign_c)), (a_clause, .inl (cs 0, 360, .inl a_clause_c)), (a_clauses, .inl (cs 0, 6, .inl a_clauses_c)), (a_word, .inl (cs 3, 13, .inr (.inl k20_C_a_word))), (a_stack, .inl (cs 3, 64, .inr (.inl k20_C_a_stack))), (a_said, .inl (cs 0, 123, .inl (o21.2 0))), (a_kept, .inl (cs 0, 86, .inl a_kept_c)), (a, .inr (12, [.ref a_tape, .int a__taped, .int a__rules, .ref a_sign, .ref a_length, .ref a_clause, .ref a_clauses, .ref a_read, .int a__next, .int a__wrong, .int a__number, .int a__text, .int a__made, .int a__deep, .int a__lines, .ref a_open, .int a__opened, .ref a_stack, .int k20_F_a_18, .ref a_word, .ref a_said, .int a__x, .ref a_worth, .ref a_mate, .ref a_wasSaid, .int a__undone, .int k20_F_a_26, .ref a_wayBy, .ref a_wayThen, .int a__walkMost, .int a__walkGoing, .int a__walkSet, .ref a_kept, .long a__drawX, .ref a_images, .ref a_imageX, .ref a_isMade]))] := hD
          clear hk1 hFc hP1 hD1 hz1
          rcases hw with ⟨x22, x23⟩
          have fa24 : BS (o21.2 0) 99 := (bs_congr hf5 (fun j hj => x22 j hj))
          have fa25 : BS (o21.2 0) 200 := (bs_hi fa24 (by decide))
          have fa26 : TR (o21.2 0) := (tr_congr x20_1 (fun j hj => x23 j hj))
          have h3 := fa24.2.2.2.1.2
          refine lv_iload hx hb dX12_soldFrom_70 (lv_at hl 1 rfl) ?_
          refine W.widen (k := 0) (n := 0) (Nat.le_of_ble_eq_true rfl) (Nat.le_of_ble_eq_true rfl) ?_
          have g27 : ((o21.2 0) 3).toInt ≤ 99 := (by omega)
          exact W.iret (v := k20_L_5) hx hb hr (fun t ht hW => ⟨⟨k20_L_5, (fun k => match k with | 0 => 0 | 1 => k20_F_a_18 | 2 => k20_F_a_26 | _ => 0, fun k => match k with | 0 => o21.2 0 | _ => fun _ => 0), rfl, (⟨(iv_w h18 (by decide) (by decide)), q20_9, fa25, fa26, g27⟩), k20_C_a_stack, k20_C_a_word, by rw [ht]; exact hP.sub [5, 0, 1, 2, 7, 6, 3, 4] rfl, hD.sub [5, 0, 1, 2, 7, 6, 3, 4] (by decide) rfl⟩, hS.F ht⟩) hS.2.2 dX12_soldFrom_72
        · have t28 : k20_L_5.toInt < 0 := lin_geN c16 rfl (by decide)
          have h29 : IV (-1) (-1) k20_L_5 := iv_lt1 (Int32.not_le.mp c16) q20_10 (iv_c (a := 0) (b := 0) (by decide)) (by decide)
          have ii30 : (-1) ≤ k20_L_5.toInt ∧ k20_L_5.toInt ≤ (-1) := h29
          refine lv_aload_n hx hb dX12_soldFrom_32 rfl (lv_at hl 2 rfl) ?_
          refine va_get (D := D) (ci := 12) (v := .ref a_said) (C := RX12) (T := TX12) (N := 37) hx hb hT i_X12 hown hK hP 4 rfl rfl 20 (by decide) (hT _ q_185) (fun _ h9 => h9) rfl dX12_soldFrom_33 ?_
          refine lv_iconst (v := 3) hx hb dX12_soldFrom_36 (by decide) ?_
          refine va_iald hx hb hK hP 0 0 rfl rfl (iv_vc (by decide)) dX12_soldFrom_37 ?_
          refine lv_topi (fun v31 ev31 => ?_)
          have h32 : IV 0 200 v31 := (by rw [ev31]; exact bs_i3 x20_0)
          have ii33 : 0 ≤ v31.toInt ∧ v31.toInt ≤ 200 := h32
          have lv31 : v31.toInt = (k20_C_a_said 3).toInt := by rw [ev31]; rfl
          refine lv_istore (lv' := [(7, .int v31), (6, .int k20_L_6), (5, .int k20_L_5), (0, .ref a), (1, .int p0), (2, .int p1), (3, .int p2), (4, .int p3)]) hx hb dX12_soldFrom_38 hl (by decide) rfl (fun ls hl => ?_)
          refine lv_aload_n hx hb dX12_soldFrom_40 rfl (lv_at hl 3 rfl) ?_
          refine lv_iload_n hx hb dX12_soldFrom_41 rfl (lv_at hl 4 rfl) ?_
          have hFc := va_free (wc := [(a_said, .inl (cs 0, 123, .inl k20_C_a_said)), (a_sign, .inl (cs 0, 2400, .inl a_sign_c)), (a_clause, .inl (cs 0, 360, .inl a_clause_c)), (a_clauses, .inl (cs 0, 6, .inl a_clauses_c)), (a, .inr (12, [.ref a_tape, .int a__taped, .int a__rules, .ref a_sign, .ref a_length, .ref a_clause, .ref a_clauses, .ref a_read, .int a__next, .int a__wrong, .int a__number, .int a__text, .int a__made, .int a__deep, .int a__lines, .ref a_open, .int a__opened, .ref a_stack, .int k20_F_a_18, .ref a_word, .ref a_said, .int a__x, .ref a_worth, .ref a_mate, .ref a_wasSaid, .int a__undone, .int k20_F_a_26, .ref a_wayBy, .ref a_wayThen, .int a__walkMost, .int a__walkGoing, .int a__walkSet, .ref a_kept, .long a__drawX, .ref a_images, .ref a_imageX, .ref a_isMade])), (a_word, .inl (cs 3, 13, .inr (.inl k20_C_a_word))), (a_stack, .inl (cs 3, 64, .inr (.inl k20_C_a_stack)))]) hD hS hA [0,1,2,3,4,6,7] rfl
          refine va_callv (va_runV (As := [.int p0]) (rest := []) ⟨hx, hb, hml, hown, hT⟩ (c_X12_passes l D cs kK kV a p0 a_said k20_C_a_said a_sign a_sign_c a_clause a_clause_c a_clauses a_clauses_c a_tape a__taped a__rules a_length a_read a__next a__wrong a__number a__text a__made a__deep a__lines a_open a__opened a_stack k20_F_a_18 a_word a__x a_worth a_mate a_wasSaid a__undone k20_F_a_26 a_wayBy a_wayThen a__walkMost a__walkGoing a__walkSet a_kept a__drawX a_images a_imageX a_isMade k20_C_a_word k20_C_a_stack h_p0 h_a__taped h_a__rules h_a__next h_a__text h_a__made h_a__lines h_a__opened q20_9 h_a__x h_a__undone x20_0 x20_1 hf3 hf4 ((by omega)) H.size) (cwV 1 hT (hz_gV q_1239 q_1240 q_1241 q_701 q_1242) rfl rfl rfl (by decide +kernel) ⟨(Nat.le_of_ble_eq_true rfl), (Nat.le_of_ble_eq_true rfl)⟩) ⟨hz_C.blind, va_recv hK hP (ci := 12) (q0 := 4) rfl rfl, hz_C.mk (hP.sub (ws' := [(a_said, .inl (cs 0, 123, .inl k20_C_a_said)), (a_sign, .inl (cs 0, 2400, .inl a_sign_c)), (a_clause, .inl (cs 0, 360, .inl a_clause_c)), (a_clauses, .inl (cs 0, 6, .inl a_clauses_c)), (a, .inr (12, [.ref a_tape, .int a__taped, .int a__rules, .ref a_sign, .ref a_length, .ref a_clause, .ref a_clauses, .ref a_read, .int a__next, .int a__wrong, .int a__number, .int a__text, .int a__made, .int a__deep, .int a__lines, .ref a_open, .int a__opened, .ref a_stack, .int k20_F_a_18, .ref a_word, .ref a_said, .int a__x, .ref a_worth, .ref a_mate, .ref a_wasSaid, .int a__undone, .int k20_F_a_26, .ref a_wayBy, .ref a_wayThen, .int a__walkMost, .int a__walkGoing, .int a__walkSet, .ref a_kept, .long a__drawX, .ref a_images, .ref a_imageX, .ref a_isMade])), (a_word, .inl (cs 3, 13, .inr (.inl k20_C_a_word))), (a_stack, .inl (cs 3, 64, .inr (.inl k20_C_a_stack)))]) [0,1,2,3,4,6,7] rfl) (hD.sub (ws' := [(a_said, .inl (cs 0, 123, .inl k20_C_a_said)), (a_sign, .inl (cs 0, 2400, .inl a_sign_c)), (a_clause, .inl (cs 0, 360, .inl a_clause_c)), (a_clauses, .inl (cs 0, 6, .inl a_clauses_c)), (a, .inr (12, [.ref a_tape, .int a__taped, .int a__rules, .ref a_sign, .ref a_length, .ref a_clause, .ref a_clauses, .ref a_read, .int a__next, .int a__wrong, .int a__number, .int a__text, .int a__made, .int a__deep, .int a__lines, .ref a_open, .int a__opened, .ref a_stack, .int k20_F_a_18, .ref a_word, .ref a_said, .int a__x, .ref a_worth, .ref a_mate, .ref a_wasSaid, .int a__undone, .int k20_F_a_26, .ref a_wayBy, .ref a_wayThen, .int a__walkMost, .int a__walkGoing, .int a__walkSet, .ref a_kept, .long a__drawX, .ref a_images, .ref a_imageX, .ref a_isMade])), (a_word, .inl (cs 3, 13, .inr (.inl k20_C_a_word))), (a_stack, .inl (cs 3, 64, .inr (.inl k20_C_a_stack)))]) [0,1,2,3,4,6,7] (by decide) rfl) hE hS hFc⟩ rfl rfl hl.1 rfl (lv_room (Nat.le_of_ble_eq_true rfl)) dX12_soldFrom_42 ⟨(Nat.le_of_ble_eq_true rfl), (Nat.le_of_ble_eq_true rfl)⟩) hS (fun q _ h => hFc q h) hFc (fun o35 t H1 locs ht hvm hw hB hz1 hk1 hS => ?_)
          obtain ⟨o36, o37, hP1, hD1⟩ := hB
          rw [ht] at hP1
          obtain ⟨hP, hD⟩ := va_join (wr := [(a_kept, .inl (cs 0, 86, .inl a_kept_c))]) (w1 := [(a_said, .inl (cs 0, 123, .inl (o35.2 0))), (a_sign, .inl (cs 0, 2400, .inl a_sign_c)), (a_clause, .inl (cs 0, 360, .inl a_clause_c)), (a_clauses, .inl (cs 0, 6, .inl a_clauses_c)), (a, .inr (12, [.ref a_tape, .int a__taped, .int a__rules, .ref a_sign, .ref a_length, .ref a_clause, .ref a_clauses, .ref a_read, .int a__next, .int a__wrong, .int a__number, .int a__text, .int a__made, .int a__deep, .int a__lines, .ref a_open, .int a__opened, .ref a_stack, .int (o35.1 1), .ref a_word, .ref a_said, .int a__x, .ref a_worth, .ref a_mate, .ref a_wasSaid, .int a__undone, .int (o35.1 2), .ref a_wayBy, .ref a_wayThen, .int a__walkMost, .int a__walkGoing, .int a__walkSet, .ref a_kept, .long a__drawX, .ref a_images, .ref a_imageX, .ref a_isMade])), (a_word, .inl (cs 3, 13, .inr (.inl o37))), (a_stack, .inl (cs 3, 64, .inr (.inl o36)))]) hP hD [0, 1, 2, 3, 4, 6, 7] [5] rfl rfl (by decide) (by decide) hk1 hFc hP1 hD1
          generalize H1 = H at hP hS ⊢
          have hP : va_P D classes [(a_kept, .inl (cs 0, 86, .inl a_kept_c)), (a_said, .inl (cs 0, 123, .inl (o35.2 0))), (a_sign, .inl (cs 0, 2400, .inl a_sign_c)), (a_clause, .inl (cs 0, 360, .inl a_clause_c)), (a_clauses, .inl (cs 0, 6, .inl a_clauses_c)), (a, .inr (12, [.ref a_tape, .int a__taped, .int a__rules, .ref a_sign, .ref a_length, .ref a_clause, .ref a_clauses, .ref a_read, .int a__next, .int a__wrong, .int a__number, .int a__text, .int a__made, .int a__deep, .int a__lines, .ref a_open, .int a__opened, .ref a_stack, .int (o35.1 1), .ref a_word, .ref a_said, .int a__x, .ref a_worth, .ref a_mate, .ref a_wasSaid, .int a__undone, .int (o35.1 2), .ref a_wayBy, .ref a_wayThen, .int a__walkMost, .int a__walkGoing, .int a__walkSet, .ref a_kept, .long a__drawX, .ref a_images, .ref a_imageX, .ref a_isMade])), (a_word, .inl (cs 3, 13, .inr (.inl o37))), (a_stack, .inl (cs 3, 64, .inr (.inl o36)))] H := hP
          have hD : va_D A [(a_kept, .inl (cs 0, 86, .inl a_kept_c)), (a_said, .inl (cs 0, 123, .inl (o35.2 0))), (a_sign, .inl (cs 0, 2400, .inl a_sign_c)), (a_clause, .inl (cs 0, 360, .inl a_clause_c)), (a_clauses, .inl (cs 0, 6, .inl a_clauses_c)), (a, .inr (12, [.ref a_tape, .int a__taped, .int a__rules, .ref a_sign, .ref a_length, .ref a_clause, .ref a_clauses, .ref a_read, .int a__next, .int a__wrong, .int a__number, .int a__text, .int a__made, .int a__deep, .int a__lines, .ref a_open, .int a__opened, .ref a_stack, .int (o35.1 1), .ref a_word, .ref a_said, .int a__x, .ref a_worth, .ref a_mate, .ref a_wasSaid, .int a__undone, .int (o35.1 2), .ref a_wayBy, .ref a_wayThen, .int a__walkMost, .int a__walkGoing, .int a__walkSet, .ref a_kept, .long a__drawX, .ref a_images, .ref a_imageX, .ref a_isMade])), (a_word, .inl (cs 3, 13, .inr (.inl o37))), (a_stack, .inl (cs 3, 64, .inr (.inl o36)))] := hD
          clear hk1 hFc hP1 hD1 hz1
          rcases hw with ⟨h38, x39, x40, x41⟩
          have ii42 : 0 ≤ (o35.1 1).toInt ∧ (o35.1 1).toInt ≤ 64 := h38
          refine lv_aload_n hx hb dX12_soldFrom_45 rfl (lv_at hl 3 rfl) ?_
          refine lv_iload_n hx hb dX12_soldFrom_46 rfl (lv_at hl 5 rfl) ?_
          refine lv_iconst (v := 3) hx hb dX12_soldFrom_47 (by decide) ?_
          refine va_calli (va_runV (As := [.int p1, .int 3]) (rest := []) ⟨hx, hb, hml, hown, hT⟩ (c_X12_halfOf l D cs kK kV a p1 3 a_tape a__taped a__rules a_sign a_length a_clause a_clauses a_read a__next a__wrong a__number a__text a__made a__deep a__lines a_open a__opened a_stack (o35.1 1) a_word a_said a__x a_worth a_mate a_wasSaid a__undone (o35.1 2) a_wayBy a_wayThen a__walkMost a__walkGoing a__walkSet a_kept a__drawX a_images a_imageX a_isMade (o35.2 0) h_p1 ((iv_c (by decide))) h_a__taped h_a__rules h_a__next h_a__text h_a__made h_a__lines h_a__opened h38 h_a__x h_a__undone) (cwV 2 hT (hz_gV q_1104 q_1105 q_1106 q_701 q_1107) rfl rfl rfl (by decide +kernel) ⟨(Nat.le_of_ble_eq_true rfl), (Nat.le_of_ble_eq_true rfl)⟩) ⟨hz_P.blind, va_recv hK hP (ci := 12) (q0 := 5) rfl rfl, hz_P.mk (hP.sub (ws' := [(a, .inr (12, [.ref a_tape, .int a__taped, .int a__rules, .ref a_sign, .ref a_length, .ref a_clause, .ref a_clauses, .ref a_read, .int a__next, .int a__wrong, .int a__number, .int a__text, .int a__made, .int a__deep, .int a__lines, .ref a_open, .int a__opened, .ref a_stack, .int (o35.1 1), .ref a_word, .ref a_said, .int a__x, .ref a_worth, .ref a_mate, .ref a_wasSaid, .int a__undone, .int (o35.1 2), .ref a_wayBy, .ref a_wayThen, .int a__walkMost, .int a__walkGoing, .int a__walkSet, .ref a_kept, .long a__drawX, .ref a_images, .ref a_imageX, .ref a_isMade])), (a_said, .inl (cs 0, 123, .inl (o35.2 0)))]) [5,1] rfl) hE hS⟩ rfl rfl hl.1 rfl (lv_room (Nat.le_of_ble_eq_true rfl)) dX12_soldFrom_48 ⟨(Nat.le_of_ble_eq_true rfl), (Nat.le_of_ble_eq_true rfl)⟩) hS (fun _ _ h => h.elim) (fun _ h => h.elim) (fun r43 u t H1 locs ht hvm hw hB hz1 hk1 hS => ?_)
          have hP := hz_keep hP hk1
          clear hk1 hB hz1
          generalize H1 = H at hP hS ⊢
          have x44 := hw
          have z3 : (3 : Int32).toInt = 3 := by decide
          refine lv_bipush (v := 100) hx hb dX12_soldFrom_51 (by decide) ?_
          refine lv_icmp_lt (tgt := 60) hx hb dX12_soldFrom_53 (by decide) (fun c45 => ?_) (fun c45 => ?_)
          · have t46 : r43.toInt < 100 := lin_lt c45 rfl (by decide)
            have h47 : IV (-2147483648) 99 r43 := iv_lt1 c45 iv_top (iv_c (a := 100) (b := 100) (by decide)) (by decide)
            have ii48 : (-2147483648) ≤ r43.toInt ∧ r43.toInt ≤ 99 := h47
            obtain ⟨v49, ev49⟩ : ∃ z : Int32, z = k20_L_6 + 1 := ⟨_, rfl⟩
            have hv49 : IV 1 24 v49 := iv_add ev49 h12 (iv_c (a := 1) (b := 1) (by decide)) (by decide) (by decide)
            have dv49 : v49.toInt = k20_L_6.toInt + 1 := iv_addE ev49 h12 (iv_c (a := 1) (b := 1) (by decide)) (by decide) (by decide) (by decide)
            refine lv_iinc (v := v49) (lv' := [(6, .int v49), (7, .int v31), (5, .int k20_L_5), (0, .ref a), (1, .int p0), (2, .int p1), (3, .int p2), (4, .int p3)]) hx hb dX12_soldFrom_60 hl (k := 1) rfl (by rw [ev49]; rfl) (by decide) rfl (fun ls hl => ?_)
            refine lv_goto (tgt := 20) hx hb dX12_soldFrom_63 (by decide) ?_
            exact ih20 v49 k20_L_5 (o35.2 0) (o35.1 1) (o35.1 2) o37 o36 (by have h9 := hn; omega) h38 (iv_w h29 (by decide) (by decide)) (iv_w hv49 (by decide) (by decide)) x39 x40 (by omega) H locs (hP.sub (ws' := [(a_said, .inl (cs 0, 123, .inl (o35.2 0))), (a_sign, .inl (cs 0, 2400, .inl a_sign_c)), (a_clause, .inl (cs 0, 360, .inl a_clause_c)), (a_clauses, .inl (cs 0, 6, .inl a_clauses_c)), (a, .inr (12, [.ref a_tape, .int a__taped, .int a__rules, .ref a_sign, .ref a_length, .ref a_clause, .ref a_clauses, .ref a_read, .int a__next, .int a__wrong, .int a__number, .int a__text, .int a__made, .int a__deep, .int a__lines, .ref a_open, .int a__opened, .ref a_stack, .int (o35.1 1), .ref a_word, .ref a_said, .int a__x, .ref a_worth, .ref a_mate, .ref a_wasSaid, .int a__undone, .int (o35.1 2), .ref a_wayBy, .ref a_wayThen, .int a__walkMost, .int a__walkGoing, .int a__walkSet, .ref a_kept, .long a__drawX, .ref a_images, .ref a_imageX, .ref a_isMade])), (a_kept, .inl (cs 0, 86, .inl a_kept_c)), (a_word, .inl (cs 3, 13, .inr (.inl o37))), (a_stack, .inl (cs 3, 64, .inr (.inl o36)))]) [1, 2, 3, 4, 5, 0, 6, 7] rfl) (hD.sub (ws' := [(a_said, .inl (cs 0, 123, .inl (o35.2 0))), (a_sign, .inl (cs 0, 2400, .inl a_sign_c)), (a_clause, .inl (cs 0, 360, .inl a_clause_c)), (a_clauses, .inl (cs 0, 6, .inl a_clauses_c)), (a, .inr (12, [.ref a_tape, .int a__taped, .int a__rules, .ref a_sign, .ref a_length, .ref a_clause, .ref a_clauses, .ref a_read, .int a__next, .int a__wrong, .int a__number, .int a__text, .int a__made, .int a__deep, .int a__lines, .ref a_open, .int a__opened, .ref a_stack, .int (o35.1 1), .ref a_word, .ref a_said, .int a__x, .ref a_worth, .ref a_mate, .ref a_wasSaid, .int a__undone, .int (o35.1 2), .ref a_wayBy, .ref a_wayThen, .int a__walkMost, .int a__walkGoing, .int a__walkSet, .ref a_kept, .long a__drawX, .ref a_images, .ref a_imageX, .ref a_isMade])), (a_kept, .inl (cs 0, 86, .inl a_kept_c)), (a_word, .inl (cs 3, 13, .inr (.inl o37))), (a_stack, .inl (cs 3, 64, .inr (.inl o36)))]) [1, 2, 3, 4, 5, 0, 6, 7] (by decide) rfl) hS ls (lv_sub hl [0, 2, 3, 4, 5, 6, 7] rfl)
          · have t50 : r43.toInt ≥ 100 := lin_ltN c45 rfl (by decide)
            have h51 : IV 100 2147483647 r43 := iv_le2 (Int32.not_lt.mp c45) (iv_c (a := 100) (b := 100) (by decide)) iv_top (by decide)
            have ii52 : 100 ≤ r43.toInt ∧ r43.toInt ≤ 2147483647 := h51
            refine lv_iload hx hb dX12_soldFrom_56 (lv_at hl 0 rfl) ?_
            refine lv_istore (lv' := [(5, .int v31), (7, .int v31), (6, .int k20_L_6), (0, .ref a), (1, .int p0), (2, .int p1), (3, .int p2), (4, .int p3)]) hx hb dX12_soldFrom_58 hl (by decide) rfl (fun ls hl => ?_)
            obtain ⟨v53, ev53⟩ : ∃ z : Int32, z = k20_L_6 + 1 := ⟨_, rfl⟩
            have hv53 : IV 1 24 v53 := iv_add ev53 h12 (iv_c (a := 1) (b := 1) (by decide)) (by decide) (by decide)
            have dv53 : v53.toInt = k20_L_6.toInt + 1 := iv_addE ev53 h12 (iv_c (a := 1) (b := 1) (by decide)) (by decide) (by decide) (by decide)
            refine lv_iinc (v := v53) (lv' := [(6, .int v53), (5, .int v31), (7, .int v31), (0, .ref a), (1, .int p0), (2, .int p1), (3, .int p2), (4, .int p3)]) hx hb dX12_soldFrom_60 hl (k := 2) rfl (by rw [ev53]; rfl) (by decide) rfl (fun ls hl => ?_)
            refine lv_goto (tgt := 20) hx hb dX12_soldFrom_63 (by decide) ?_
            exact ih20 v53 v31 (o35.2 0) (o35.1 1) (o35.1 2) o37 o36 (by have h9 := hn; omega) h38 (iv_w h32 (by decide) (by decide)) (iv_w hv53 (by decide) (by decide)) x39 x40 (by omega) H locs (hP.sub (ws' := [(a_said, .inl (cs 0, 123, .inl (o35.2 0))), (a_sign, .inl (cs 0, 2400, .inl a_sign_c)), (a_clause, .inl (cs 0, 360, .inl a_clause_c)), (a_clauses, .inl (cs 0, 6, .inl a_clauses_c)), (a, .inr (12, [.ref a_tape, .int a__taped, .int a__rules, .ref a_sign, .ref a_length, .ref a_clause, .ref a_clauses, .ref a_read, .int a__next, .int a__wrong, .int a__number, .int a__text, .int a__made, .int a__deep, .int a__lines, .ref a_open, .int a__opened, .ref a_stack, .int (o35.1 1), .ref a_word, .ref a_said, .int a__x, .ref a_worth, .ref a_mate, .ref a_wasSaid, .int a__undone, .int (o35.1 2), .ref a_wayBy, .ref a_wayThen, .int a__walkMost, .int a__walkGoing, .int a__walkSet, .ref a_kept, .long a__drawX, .ref a_images, .ref a_imageX, .ref a_isMade])), (a_kept, .inl (cs 0, 86, .inl a_kept_c)), (a_word, .inl (cs 3, 13, .inr (.inl o37))), (a_stack, .inl (cs 3, 64, .inr (.inl o36)))]) [1, 2, 3, 4, 5, 0, 6, 7] rfl) (hD.sub (ws' := [(a_said, .inl (cs 0, 123, .inl (o35.2 0))), (a_sign, .inl (cs 0, 2400, .inl a_sign_c)), (a_clause, .inl (cs 0, 360, .inl a_clause_c)), (a_clauses, .inl (cs 0, 6, .inl a_clauses_c)), (a, .inr (12, [.ref a_tape, .int a__taped, .int a__rules, .ref a_sign, .ref a_length, .ref a_clause, .ref a_clauses, .ref a_read, .int a__next, .int a__wrong, .int a__number, .int a__text, .int a__made, .int a__deep, .int a__lines, .ref a_open, .int a__opened, .ref a_stack, .int (o35.1 1), .ref a_word, .ref a_said, .int a__x, .ref a_worth, .ref a_mate, .ref a_wasSaid, .int a__undone, .int (o35.1 2), .ref a_wayBy, .ref a_wayThen, .int a__walkMost, .int a__walkGoing, .int a__walkSet, .ref a_kept, .long a__drawX, .ref a_images, .ref a_imageX, .ref a_isMade])), (a_kept, .inl (cs 0, 86, .inl a_kept_c)), (a_word, .inl (cs 3, 13, .inr (.inl o37))), (a_stack, .inl (cs 3, 64, .inr (.inl o36)))]) [1, 2, 3, 4, 5, 0, 6, 7] (by decide) rfl) hS ls (lv_sub hl [0, 1, 3, 4, 5, 6, 7] rfl)
  refine lv_aload_n hx hb dX12_soldFrom_0 rfl (lv_at hl 0 rfl) ?_
  refine va_get (D := D) (ci := 12) (v := .ref a_said) (C := RX12) (T := TX12) (N := 37) hx hb hT i_X12 hown hK hP 4 rfl rfl 20 (by decide) (hT _ q_185) (fun _ h9 => h9) rfl dX12_soldFrom_1 ?_
  refine lv_bipush (v := 10) hx hb dX12_soldFrom_4 (by decide) ?_
  refine lv_iconst (v := 5) hx hb dX12_soldFrom_6 (by decide) ?_
  refine lv_iload_n hx hb dX12_soldFrom_7 rfl (lv_at hl 2 rfl) ?_
  refine lv_imul hx hb dX12_soldFrom_8 ?_
  refine lv_topi (fun v54 ev54 => ?_)
  have hv54 : IV 0 55 v54 := iv_mul ev54 (iv_c (a := 5) (b := 5) (by decide)) h_p1 (by decide) (by decide) (by decide) (by decide)
  have ii55 : 0 ≤ v54.toInt ∧ v54.toInt ≤ 55 := hv54
  have lv54 : v54.toInt = 5 * p1.toInt := lin_mul ev54 (iv_c (a := 5) (b := 5) (by decide)) h_p1 (by decide) rfl (by decide) (by decide) (by decide) (by decide)
  refine lv_iadd hx hb dX12_soldFrom_9 ?_
  refine lv_topi (fun v56 ev56 => ?_)
  have hv56 : IV 10 65 v56 := iv_add ev56 (iv_c (a := 10) (b := 10) (by decide)) hv54 (by decide) (by decide)
  have ii57 : 10 ≤ v56.toInt ∧ v56.toInt ≤ 65 := hv56
  have lv56 : v56.toInt = 10 + v54.toInt := lin_add ev56 (iv_c (a := 10) (b := 10) (by decide)) hv54 (by decide) rfl (by decide) (by decide)
  refine lv_iconst (v := 3) hx hb dX12_soldFrom_10 (by decide) ?_
  refine lv_iadd hx hb dX12_soldFrom_11 ?_
  refine lv_topi (fun v58 ev58 => ?_)
  have hv58 : IV 13 68 v58 := iv_add ev58 hv56 (iv_c (a := 3) (b := 3) (by decide)) (by decide) (by decide)
  have ii59 : 13 ≤ v58.toInt ∧ v58.toInt ≤ 68 := hv58
  have dv58 : v58.toInt = v56.toInt + 3 := iv_addE ev58 hv56 (iv_c (a := 3) (b := 3) (by decide)) (by decide) (by decide) (by decide)
  have lv58 : v58.toInt = v56.toInt + 3 := lin_add ev58 hv56 (iv_c (a := 3) (b := 3) (by decide)) rfl (by decide) (by decide) (by decide)
  refine lv_iload_n hx hb dX12_soldFrom_12 rfl (lv_at hl 3 rfl) ?_
  refine va_iast hx hb hK hP hD hS 0 0 rfl rfl (iv_v hv58 (by decide) (by decide)) dX12_soldFrom_13 (fun H locs hP hD hS => ?_)
  have hP : va_P D classes [(a_said, .inl (cs 0, 123, .inl (upd a_said_c (Int32.toNatClampNeg v58) p2))), (a_sign, .inl (cs 0, 2400, .inl a_sign_c)), (a_clause, .inl (cs 0, 360, .inl a_clause_c)), (a_clauses, .inl (cs 0, 6, .inl a_clauses_c)), (a, .inr (12, [.ref a_tape, .int a__taped, .int a__rules, .ref a_sign, .ref a_length, .ref a_clause, .ref a_clauses, .ref a_read, .int a__next, .int a__wrong, .int a__number, .int a__text, .int a__made, .int a__deep, .int a__lines, .ref a_open, .int a__opened, .ref a_stack, .int a__top, .ref a_word, .ref a_said, .int a__x, .ref a_worth, .ref a_mate, .ref a_wasSaid, .int a__undone, .int a__boughtNow, .ref a_wayBy, .ref a_wayThen, .int a__walkMost, .int a__walkGoing, .int a__walkSet, .ref a_kept, .long a__drawX, .ref a_images, .ref a_imageX, .ref a_isMade])), (a_kept, .inl (cs 0, 86, .inl a_kept_c)), (a_word, .inl (cs 3, 13, .inr (.inl a_word_c))), (a_stack, .inl (cs 3, 64, .inr (.inl a_stack_c)))] H := hP
  have hD : va_D A [(a_said, .inl (cs 0, 123, .inl (upd a_said_c (Int32.toNatClampNeg v58) p2))), (a_sign, .inl (cs 0, 2400, .inl a_sign_c)), (a_clause, .inl (cs 0, 360, .inl a_clause_c)), (a_clauses, .inl (cs 0, 6, .inl a_clauses_c)), (a, .inr (12, [.ref a_tape, .int a__taped, .int a__rules, .ref a_sign, .ref a_length, .ref a_clause, .ref a_clauses, .ref a_read, .int a__next, .int a__wrong, .int a__number, .int a__text, .int a__made, .int a__deep, .int a__lines, .ref a_open, .int a__opened, .ref a_stack, .int a__top, .ref a_word, .ref a_said, .int a__x, .ref a_worth, .ref a_mate, .ref a_wasSaid, .int a__undone, .int a__boughtNow, .ref a_wayBy, .ref a_wayThen, .int a__walkMost, .int a__walkGoing, .int a__walkSet, .ref a_kept, .long a__drawX, .ref a_images, .ref a_imageX, .ref a_isMade])), (a_kept, .inl (cs 0, 86, .inl a_kept_c)), (a_word, .inl (cs 3, 13, .inr (.inl a_word_c))), (a_stack, .inl (cs 3, 64, .inr (.inl a_stack_c)))] := hD
  obtain ⟨f60, uf60⟩ : ∃ z, z = upd a_said_c (Int32.toNatClampNeg v58) p2 := ⟨_, rfl⟩
  rw [← uf60] at hP hD
  have wf60 : (f60 (Int32.toNatClampNeg v58)).toInt = p2.toInt := lin_us uf60 rfl
  have kk61 : (f60 0).toInt = (a_said_c 0).toInt := congrArg Int32.toInt (by rw [uf60, pk_un (show 0 ≠ Int32.toNatClampNeg v58 from by (have q : Int32.toNatClampNeg v58 = v58.toInt.toNat := rfl); omega)])
  have kk62 : (f60 1).toInt = (a_said_c 1).toInt := congrArg Int32.toInt (by rw [uf60, pk_un (show 1 ≠ Int32.toNatClampNeg v58 from by (have q : Int32.toNatClampNeg v58 = v58.toInt.toNat := rfl); omega)])
  have kk63 : (f60 2).toInt = (a_said_c 2).toInt := congrArg Int32.toInt (by rw [uf60, pk_un (show 2 ≠ Int32.toNatClampNeg v58 from by (have q : Int32.toNatClampNeg v58 = v58.toInt.toNat := rfl); omega)])
  have kk64 : (f60 3).toInt = (a_said_c 3).toInt := congrArg Int32.toInt (by rw [uf60, pk_un (show 3 ≠ Int32.toNatClampNeg v58 from by (have q : Int32.toNatClampNeg v58 = v58.toInt.toNat := rfl); omega)])
  have fb65 : BS f60 200 := (bs_upd hf0 uf60 (show Int32.toNatClampNeg v58 ≠ 0 ∧ Int32.toNatClampNeg v58 ≠ 1 ∧ Int32.toNatClampNeg v58 ≠ 2 ∧ Int32.toNatClampNeg v58 ≠ 3 ∧ Int32.toNatClampNeg v58 ≠ 4 ∧ Int32.toNatClampNeg v58 ≠ 71 ∧ Int32.toNatClampNeg v58 ≠ 75 ∧ Int32.toNatClampNeg v58 ≠ 79 ∧ Int32.toNatClampNeg v58 ≠ 83 from by (have q : Int32.toNatClampNeg v58 = v58.toInt.toNat := rfl); omega))
  have fb66 : TR f60 := tr_upd hf1 uf60 (show Int32.toNatClampNeg v58 < 86 from by (have q : Int32.toNatClampNeg v58 = v58.toInt.toNat := rfl); omega)
  refine lv_iconst (v := (-1)) hx hb dX12_soldFrom_14 (by decide) ?_
  refine lv_istore (lv' := [(5, .int (-1)), (0, .ref a), (1, .int p0), (2, .int p1), (3, .int p2), (4, .int p3)]) hx hb dX12_soldFrom_15 hl (by decide) rfl (fun ls hl => ?_)
  refine lv_iconst (v := 0) hx hb dX12_soldFrom_17 (by decide) ?_
  refine lv_istore (lv' := [(6, .int 0), (5, .int (-1)), (0, .ref a), (1, .int p0), (2, .int p1), (3, .int p2), (4, .int p3)]) hx hb dX12_soldFrom_18 hl (by decide) rfl (fun ls hl => ?_)
  exact K20 _ ((0 : Int32)) (((-1) : Int32)) f60 a__top a__boughtNow a_word_c a_stack_c (Nat.le_refl _) h_a__top (iv_c (by decide)) (iv_c (by decide)) fb65 fb66 (by omega) H locs (hP.sub (ws' := [(a_said, .inl (cs 0, 123, .inl f60)), (a_sign, .inl (cs 0, 2400, .inl a_sign_c)), (a_clause, .inl (cs 0, 360, .inl a_clause_c)), (a_clauses, .inl (cs 0, 6, .inl a_clauses_c)), (a, .inr (12, [.ref a_tape, .int a__taped, .int a__rules, .ref a_sign, .ref a_length, .ref a_clause, .ref a_clauses, .ref a_read, .int a__next, .int a__wrong, .int a__number, .int a__text, .int a__made, .int a__deep, .int a__lines, .ref a_open, .int a__opened, .ref a_stack, .int a__top, .ref a_word, .ref a_said, .int a__x, .ref a_worth, .ref a_mate, .ref a_wasSaid, .int a__undone, .int a__boughtNow, .ref a_wayBy, .ref a_wayThen, .int a__walkMost, .int a__walkGoing, .int a__walkSet, .ref a_kept, .long a__drawX, .ref a_images, .ref a_imageX, .ref a_isMade])), (a_kept, .inl (cs 0, 86, .inl a_kept_c)), (a_word, .inl (cs 3, 13, .inr (.inl a_word_c))), (a_stack, .inl (cs 3, 64, .inr (.inl a_stack_c)))]) [0, 1, 2, 3, 4, 5, 6, 7] rfl) (hD.sub (ws' := [(a_said, .inl (cs 0, 123, .inl f60)), (a_sign, .inl (cs 0, 2400, .inl a_sign_c)), (a_clause, .inl (cs 0, 360, .inl a_clause_c)), (a_clauses, .inl (cs 0, 6, .inl a_clauses_c)), (a, .inr (12, [.ref a_tape, .int a__taped, .int a__rules, .ref a_sign, .ref a_length, .ref a_clause, .ref a_clauses, .ref a_read, .int a__next, .int a__wrong, .int a__number, .int a__text, .int a__made, .int a__deep, .int a__lines, .ref a_open, .int a__opened, .ref a_stack, .int a__top, .ref a_word, .ref a_said, .int a__x, .ref a_worth, .ref a_mate, .ref a_wasSaid, .int a__undone, .int a__boughtNow, .ref a_wayBy, .ref a_wayThen, .int a__walkMost, .int a__walkGoing, .int a__walkSet, .ref a_kept, .long a__drawX, .ref a_images, .ref a_imageX, .ref a_isMade])), (a_kept, .inl (cs 0, 86, .inl a_kept_c)), (a_word, .inl (cs 3, 13, .inr (.inl a_word_c))), (a_stack, .inl (cs 3, 64, .inr (.inl a_stack_c)))]) [0, 1, 2, 3, 4, 5, 6, 7] (by decide) rfl) hS ls (lv_sub hl [0, 1, 2, 3, 4, 5, 6] rfl)
theorem dX12_bring_0 : decode cX12_bring 0 = .ok (.aload_n 0, 1) := by decide +kernel
theorem dX12_bring_1 : decode cX12_bring 1 = .ok (.iload_n 1, 1) := by decide +kernel
theorem dX12_bring_2 : decode cX12_bring 2 = .ok (.invokevirtual 413, 3) := by decide +kernel
theorem dX12_bring_5 : decode cX12_bring 5 = .ok (.ifCond .eq 21, 3) := by decide +kernel
theorem dX12_bring_8 : decode cX12_bring 8 = .ok (.aload_n 0, 1) := by decide +kernel
theorem dX12_bring_9 : decode cX12_bring 9 = .ok (.iload_n 2, 1) := by decide +kernel
theorem dX12_bring_10 : decode cX12_bring 10 = .ok (.invokevirtual 335, 3) := by decide +kernel
theorem dX12_bring_13 : decode cX12_bring 13 = .ok (.ifCond .eq 13, 3) := by decide +kernel
theorem dX12_bring_16 : decode cX12_bring 16 = .ok (.iload_n 3, 1) := by decide +kernel
theorem dX12_bring_17 : decode cX12_bring 17 = .ok (.i2l, 1) := by decide +kernel
theorem dX12_bring_18 : decode cX12_bring 18 = .ok (.lconst 0, 1) := by decide +kernel
theorem dX12_bring_19 : decode cX12_bring 19 = .ok (.lconst 1, 1) := by decide +kernel
theorem dX12_bring_20 : decode cX12_bring 20 = .ok (.invokestatic 109, 3) := by decide +kernel
theorem dX12_bring_23 : decode cX12_bring 23 = .ok (.ifCond .ne 5, 3) := by decide +kernel
theorem dX12_bring_26 : decode cX12_bring 26 = .ok (.iconst (-1), 1) := by decide +kernel
theorem dX12_bring_27 : decode cX12_bring 27 = .ok (.ireturn, 1) := by decide +kernel
theorem dX12_bring_28 : decode cX12_bring 28 = .ok (.aload_n 0, 1) := by decide +kernel
theorem dX12_bring_29 : decode cX12_bring 29 = .ok (.invokevirtual 466, 3) := by decide +kernel
theorem dX12_bring_32 : decode cX12_bring 32 = .ok (.istore 4, 2) := by decide +kernel
theorem dX12_bring_34 : decode cX12_bring 34 = .ok (.bipush (-2), 2) := by decide +kernel
theorem dX12_bring_36 : decode cX12_bring 36 = .ok (.istore 5, 2) := by decide +kernel
theorem dX12_bring_38 : decode cX12_bring 38 = .ok (.bipush (-2), 2) := by decide +kernel
theorem dX12_bring_40 : decode cX12_bring 40 = .ok (.istore 6, 2) := by decide +kernel
theorem dX12_bring_42 : decode cX12_bring 42 = .ok (.aload_n 0, 1) := by decide +kernel
theorem dX12_bring_43 : decode cX12_bring 43 = .ok (.invokevirtual 469, 3) := by decide +kernel
theorem dX12_bring_46 : decode cX12_bring 46 = .ok (.iconst 0, 1) := by decide +kernel
theorem dX12_bring_47 : decode cX12_bring 47 = .ok (.istore 7, 2) := by decide +kernel
theorem dX12_bring_49 : decode cX12_bring 49 = .ok (.iload 7, 2) := by decide +kernel
theorem dX12_bring_51 : decode cX12_bring 51 = .ok (.aload_n 0, 1) := by decide +kernel
theorem dX12_bring_52 : decode cX12_bring 52 = .ok (.getfield 39, 3) := by decide +kernel
theorem dX12_bring_55 : decode cX12_bring 55 = .ok (.iconst 0, 1) := by decide +kernel
theorem dX12_bring_56 : decode cX12_bring 56 = .ok (.iaload, 1) := by decide +kernel
theorem dX12_bring_57 : decode cX12_bring 57 = .ok (.if_icmp .ge 70, 3) := by decide +kernel
theorem dX12_bring_60 : decode cX12_bring 60 = .ok (.iload 7, 2) := by decide +kernel
theorem dX12_bring_62 : decode cX12_bring 62 = .ok (.aload_n 0, 1) := by decide +kernel
theorem dX12_bring_63 : decode cX12_bring 63 = .ok (.getfield 57, 3) := by decide +kernel
theorem dX12_bring_66 : decode cX12_bring 66 = .ok (.bipush 10, 2) := by decide +kernel
theorem dX12_bring_68 : decode cX12_bring 68 = .ok (.iconst 5, 1) := by decide +kernel
theorem dX12_bring_69 : decode cX12_bring 69 = .ok (.iload_n 2, 1) := by decide +kernel
theorem dX12_bring_70 : decode cX12_bring 70 = .ok (.imul, 1) := by decide +kernel
theorem dX12_bring_71 : decode cX12_bring 71 = .ok (.iadd, 1) := by decide +kernel
theorem dX12_bring_72 : decode cX12_bring 72 = .ok (.iconst 3, 1) := by decide +kernel
theorem dX12_bring_73 : decode cX12_bring 73 = .ok (.iadd, 1) := by decide +kernel
theorem dX12_bring_74 : decode cX12_bring 74 = .ok (.iaload, 1) := by decide +kernel
theorem dX12_bring_75 : decode cX12_bring 75 = .ok (.if_icmp .ne 6, 3) := by decide +kernel
theorem dX12_bring_78 : decode cX12_bring 78 = .ok (.goto 43, 3) := by decide +kernel
theorem dX12_bring_81 : decode cX12_bring 81 = .ok (.aload_n 0, 1) := by decide +kernel
theorem dX12_bring_82 : decode cX12_bring 82 = .ok (.iload_n 1, 1) := by decide +kernel
theorem dX12_bring_83 : decode cX12_bring 83 = .ok (.iload_n 2, 1) := by decide +kernel
theorem dX12_bring_84 : decode cX12_bring 84 = .ok (.iload 7, 2) := by decide +kernel
theorem dX12_bring_86 : decode cX12_bring 86 = .ok (.iload 4, 2) := by decide +kernel
theorem dX12_bring_88 : decode cX12_bring 88 = .ok (.invokevirtual 472, 3) := by decide +kernel
theorem dX12_bring_91 : decode cX12_bring 91 = .ok (.istore 8, 2) := by decide +kernel
theorem dX12_bring_93 : decode cX12_bring 93 = .ok (.iload 8, 2) := by decide +kernel
theorem dX12_bring_95 : decode cX12_bring 95 = .ok (.ifCond .lt 26, 3) := by decide +kernel
theorem dX12_bring_98 : decode cX12_bring 98 = .ok (.iload 5, 2) := by decide +kernel
theorem dX12_bring_100 : decode cX12_bring 100 = .ok (.ifCond .lt 13, 3) := by decide +kernel
theorem dX12_bring_103 : decode cX12_bring 103 = .ok (.iload 8, 2) := by decide +kernel
theorem dX12_bring_105 : decode cX12_bring 105 = .ok (.iload 6, 2) := by decide +kernel
theorem dX12_bring_107 : decode cX12_bring 107 = .ok (.if_icmp .lt 6, 3) := by decide +kernel
theorem dX12_bring_110 : decode cX12_bring 110 = .ok (.goto 11, 3) := by decide +kernel
theorem dX12_bring_113 : decode cX12_bring 113 = .ok (.iload 7, 2) := by decide +kernel
theorem dX12_bring_115 : decode cX12_bring 115 = .ok (.istore 5, 2) := by decide +kernel
theorem dX12_bring_117 : decode cX12_bring 117 = .ok (.iload 8, 2) := by decide +kernel
theorem dX12_bring_119 : decode cX12_bring 119 = .ok (.istore 6, 2) := by decide +kernel
theorem dX12_bring_121 : decode cX12_bring 121 = .ok (.iinc 7 1, 3) := by decide +kernel
theorem dX12_bring_124 : decode cX12_bring 124 = .ok (.goto (-75), 3) := by decide +kernel
theorem dX12_bring_127 : decode cX12_bring 127 = .ok (.iload_n 3, 1) := by decide +kernel
theorem dX12_bring_128 : decode cX12_bring 128 = .ok (.ifCond .ne 8, 3) := by decide +kernel
theorem dX12_bring_131 : decode cX12_bring 131 = .ok (.iload 5, 2) := by decide +kernel
theorem dX12_bring_133 : decode cX12_bring 133 = .ok (.goto 5, 3) := by decide +kernel
theorem dX12_bring_136 : decode cX12_bring 136 = .ok (.iload 6, 2) := by decide +kernel
theorem dX12_bring_138 : decode cX12_bring 138 = .ok (.ireturn, 1) := by decide +kernel
set_option maxHeartbeats 4000000 in
set_option maxRecDepth 100000 in
theorem c_X12_bring (l : Launch) (D : va_G) (cs : Nat → ClassId) (kK kV : Nat → Nat) (a : Nat) (p0 : Int32) (p1 : Int32) (p2 : Int32) (a_said : Nat) (a_said_c : Nat → Int32) (a_sign : Nat) (a_sign_c : Nat → Int32) (a_clause : Nat) (a_clause_c : Nat → Int32) (a_clauses : Nat) (a_clauses_c : Nat → Int32) (a_tape : Nat) (a__taped : Int32) (a__rules : Int32) (a_length : Nat) (a_read : Nat) (a__next : Int32) (a__wrong : Int32) (a__number : Int32) (a__text : Int32) (a__made : Int32) (a__deep : Int32) (a__lines : Int32) (a_open : Nat) (a__opened : Int32) (a_stack : Nat) (a__top : Int32) (a_word : Nat) (a__x : Int32) (a_worth : Nat) (a_mate : Nat) (a_wasSaid : Nat) (a__undone : Int32) (a__boughtNow : Int32) (a_wayBy : Nat) (a_wayThen : Nat) (a__walkMost : Int32) (a__walkGoing : Int32) (a__walkSet : Int32) (a_kept : Nat) (a__drawX : Int64) (a_images : Nat) (a_imageX : Nat) (a_isMade : Nat) (a_kept_c : Nat → Int32) (a_word_c : Nat → Int64) (a_stack_c : Nat → Int64) (h_a__taped : IV 0 400 a__taped) (h_a__rules : IV 0 6 a__rules) (h_a__next : IV 0 400 a__next) (h_a__text : IV 0 6 a__text) (h_a__made : IV 0 60 a__made) (h_a__lines : IV 0 40 a__lines) (h_a__opened : IV 0 400 a__opened) (h_a__top : IV 0 64 a__top) (h_a__x : IV 0 2147483647 a__x) (h_a__undone : IV 0 20 a__undone) (hf0 : BS a_said_c 200) (hf1 : TR a_said_c) (hf2 : (a_said_c 3).toInt ≤ 99) (hf3 : RUS a_sign_c a_clause_c a_clauses_c a__rules.toInt) (sz : Nat) : Met l yX12_bring (hz_w yX12_bring cX12_bring 9 (some .int)) ({ frames := 9, cells := 0, slots := 0, locals := 214 }) (va_Pc [.ref a, .int p0, .int p1, .int p2] (hz_C D cs kK kV sz [(a_said, .inl (cs 0, 123, .inl a_said_c)), (a_sign, .inl (cs 0, 2400, .inl a_sign_c)), (a_clause, .inl (cs 0, 360, .inl a_clause_c)), (a_clauses, .inl (cs 0, 6, .inl a_clauses_c)), (a, .inr (12, [.ref a_tape, .int a__taped, .int a__rules, .ref a_sign, .ref a_length, .ref a_clause, .ref a_clauses, .ref a_read, .int a__next, .int a__wrong, .int a__number, .int a__text, .int a__made, .int a__deep, .int a__lines, .ref a_open, .int a__opened, .ref a_stack, .int a__top, .ref a_word, .ref a_said, .int a__x, .ref a_worth, .ref a_mate, .ref a_wasSaid, .int a__undone, .int a__boughtNow, .ref a_wayBy, .ref a_wayThen, .int a__walkMost, .int a__walkGoing, .int a__walkSet, .ref a_kept, .long a__drawX, .ref a_images, .ref a_imageX, .ref a_isMade])), (a_kept, .inl (cs 0, 86, .inl a_kept_c)), (a_word, .inl (cs 3, 13, .inr (.inl a_word_c))), (a_stack, .inl (cs 3, 64, .inr (.inl a_stack_c)))])) (va_Qi (fun (r : Int32) (u : (Nat → Int32) × (Nat → Nat → Int32)) => (r = (-1) ∧ IV (-2147483648) 2147483647 p0 ∧ IV 0 64 (u.1 1) ∧ (BS (u.2 1) 200) ∧ (TR (u.2 1)) ∧ (((u.2 1) 3).toInt ≤ 99)) ∨ (IV (-2) 200 r ∧ IV 1 6 a__rules ∧ IV 0 5 p0 ∧ IV 0 11 p1 ∧ IV 0 1 p2 ∧ IV 0 64 (u.1 1) ∧ (BS (u.2 1) 200) ∧ (TR (u.2 1)) ∧ (((u.2 1) 3).toInt ≤ 99))) (fun u t => ∃ (o_a_stack_c : Nat → Int64), ∃ (o_a_word_c : Nat → Int64), va_P D classes [(a_said, .inl (cs 0, 123, .inl (u.2 1))), (a_sign, .inl (cs 0, 2400, .inl a_sign_c)), (a_clause, .inl (cs 0, 360, .inl a_clause_c)), (a_clauses, .inl (cs 0, 6, .inl a_clauses_c)), (a, .inr (12, [.ref a_tape, .int a__taped, .int a__rules, .ref a_sign, .ref a_length, .ref a_clause, .ref a_clauses, .ref a_read, .int a__next, .int a__wrong, .int a__number, .int a__text, .int a__made, .int a__deep, .int a__lines, .ref a_open, .int a__opened, .ref a_stack, .int (u.1 1), .ref a_word, .ref a_said, .int a__x, .ref a_worth, .ref a_mate, .ref a_wasSaid, .int a__undone, .int (u.1 2), .ref a_wayBy, .ref a_wayThen, .int a__walkMost, .int a__walkGoing, .int a__walkSet, .ref a_kept, .long a__drawX, .ref a_images, .ref a_imageX, .ref a_isMade])), (a_kept, .inl (cs 0, 86, .inl (u.2 0))), (a_word, .inl (cs 3, 13, .inr (.inl o_a_word_c))), (a_stack, .inl (cs 3, 64, .inr (.inl o_a_stack_c)))] t.heap ∧ va_D (va_A [(a_said, .inl (cs 0, 123, .inl a_said_c)), (a_sign, .inl (cs 0, 2400, .inl a_sign_c)), (a_clause, .inl (cs 0, 360, .inl a_clause_c)), (a_clauses, .inl (cs 0, 6, .inl a_clauses_c)), (a, .inr (12, [.ref a_tape, .int a__taped, .int a__rules, .ref a_sign, .ref a_length, .ref a_clause, .ref a_clauses, .ref a_read, .int a__next, .int a__wrong, .int a__number, .int a__text, .int a__made, .int a__deep, .int a__lines, .ref a_open, .int a__opened, .ref a_stack, .int a__top, .ref a_word, .ref a_said, .int a__x, .ref a_worth, .ref a_mate, .ref a_wasSaid, .int a__undone, .int a__boughtNow, .ref a_wayBy, .ref a_wayThen, .int a__walkMost, .int a__walkGoing, .int a__walkSet, .ref a_kept, .long a__drawX, .ref a_images, .ref a_imageX, .ref a_isMade])), (a_kept, .inl (cs 0, 86, .inl a_kept_c)), (a_word, .inl (cs 3, 13, .inr (.inl a_word_c))), (a_stack, .inl (cs 3, 64, .inr (.inl a_stack_c)))] sz) [(a_said, .inl (cs 0, 123, .inl (u.2 1))), (a_sign, .inl (cs 0, 2400, .inl a_sign_c)), (a_clause, .inl (cs 0, 360, .inl a_clause_c)), (a_clauses, .inl (cs 0, 6, .inl a_clauses_c)), (a, .inr (12, [.ref a_tape, .int a__taped, .int a__rules, .ref a_sign, .ref a_length, .ref a_clause, .ref a_clauses, .ref a_read, .int a__next, .int a__wrong, .int a__number, .int a__text, .int a__made, .int a__deep, .int a__lines, .ref a_open, .int a__opened, .ref a_stack, .int (u.1 1), .ref a_word, .ref a_said, .int a__x, .ref a_worth, .ref a_mate, .ref a_wasSaid, .int a__undone, .int (u.1 2), .ref a_wayBy, .ref a_wayThen, .int a__walkMost, .int a__walkGoing, .int a__walkSet, .ref a_kept, .long a__drawX, .ref a_images, .ref a_imageX, .ref a_isMade])), (a_kept, .inl (cs 0, 86, .inl (u.2 0))), (a_word, .inl (cs 3, 13, .inr (.inl o_a_word_c))), (a_stack, .inl (cs 3, 64, .inr (.inl o_a_stack_c)))]) (va_A [(a_said, .inl (cs 0, 123, .inl a_said_c)), (a_sign, .inl (cs 0, 2400, .inl a_sign_c)), (a_clause, .inl (cs 0, 360, .inl a_clause_c)), (a_clauses, .inl (cs 0, 6, .inl a_clauses_c)), (a, .inr (12, [.ref a_tape, .int a__taped, .int a__rules, .ref a_sign, .ref a_length, .ref a_clause, .ref a_clauses, .ref a_read, .int a__next, .int a__wrong, .int a__number, .int a__text, .int a__made, .int a__deep, .int a__lines, .ref a_open, .int a__opened, .ref a_stack, .int a__top, .ref a_word, .ref a_said, .int a__x, .ref a_worth, .ref a_mate, .ref a_wasSaid, .int a__undone, .int a__boughtNow, .ref a_wayBy, .ref a_wayThen, .int a__walkMost, .int a__walkGoing, .int a__walkSet, .ref a_kept, .long a__drawX, .ref a_images, .ref a_imageX, .ref a_isMade])), (a_kept, .inl (cs 0, 86, .inl a_kept_c)), (a_word, .inl (cs 3, 13, .inr (.inl a_word_c))), (a_stack, .inl (cs 3, 64, .inr (.inl a_stack_c)))] sz)) 0 0 (va_A [(a_said, .inl (cs 0, 123, .inl a_said_c)), (a_sign, .inl (cs 0, 2400, .inl a_sign_c)), (a_clause, .inl (cs 0, 360, .inl a_clause_c)), (a_clauses, .inl (cs 0, 6, .inl a_clauses_c)), (a, .inr (12, [.ref a_tape, .int a__taped, .int a__rules, .ref a_sign, .ref a_length, .ref a_clause, .ref a_clauses, .ref a_read, .int a__next, .int a__wrong, .int a__number, .int a__text, .int a__made, .int a__deep, .int a__lines, .ref a_open, .int a__opened, .ref a_stack, .int a__top, .ref a_word, .ref a_said, .int a__x, .ref a_worth, .ref a_mate, .ref a_wasSaid, .int a__undone, .int a__boughtNow, .ref a_wayBy, .ref a_wayThen, .int a__walkMost, .int a__walkGoing, .int a__walkSet, .ref a_kept, .long a__drawX, .ref a_images, .ref a_imageX, .ref a_isMade])), (a_kept, .inl (cs 0, 86, .inl a_kept_c)), (a_word, .inl (cs 3, 13, .inr (.inl a_word_c))), (a_stack, .inl (cs 3, 64, .inr (.inl a_stack_c)))] sz) := by
  refine Met.ofW (cc := cX12_bring) (maxL := 9) (ret := (some .int)) (by decide) rfl ?_
  intro p e s m args below meth c s₁ B hml hv
  obtain ⟨rfl, hsz, hP, hD0, hE⟩ := hv
  have hx := B.exec
  have hb := B.bytes
  have hr := B.returns
  have hT : ∀ w ∈ TB, w.before _ s = true := fun w h => atoms_spec (ws := hz_w yX12_bring cX12_bring 9 (some .int)) B.pre w (List.mem_cons_of_mem _ h)
  have hown : s.vm.findClass RX12 = some m.cls := findClass_of_methodNamed B.named
  have hlocks := B.notSynchronized
  clear B
  subst hsz
  have hD := hD0.self (sz := s.heap.size)
  generalize hAe : va_A [(a_said, .inl (cs 0, 123, .inl a_said_c)), (a_sign, .inl (cs 0, 2400, .inl a_sign_c)), (a_clause, .inl (cs 0, 360, .inl a_clause_c)), (a_clauses, .inl (cs 0, 6, .inl a_clauses_c)), (a, .inr (12, [.ref a_tape, .int a__taped, .int a__rules, .ref a_sign, .ref a_length, .ref a_clause, .ref a_clauses, .ref a_read, .int a__next, .int a__wrong, .int a__number, .int a__text, .int a__made, .int a__deep, .int a__lines, .ref a_open, .int a__opened, .ref a_stack, .int a__top, .ref a_word, .ref a_said, .int a__x, .ref a_worth, .ref a_mate, .ref a_wasSaid, .int a__undone, .int a__boughtNow, .ref a_wayBy, .ref a_wayThen, .int a__walkMost, .int a__walkGoing, .int a__walkSet, .ref a_kept, .long a__drawX, .ref a_images, .ref a_imageX, .ref a_isMade])), (a_kept, .inl (cs 0, 86, .inl a_kept_c)), (a_word, .inl (cs 3, 13, .inr (.inl a_word_c))), (a_stack, .inl (cs 3, 64, .inr (.inl a_stack_c)))] s.heap.size = A at hD hE ⊢
  have hA : ∀ q : Nat, s.heap.size ≤ q → A q := fun q h => by rw [← hAe]; exact Or.inr h
  clear hAe hD0
  have hS : va_S A s.heap s.heap [] := va_S.rf
  have hK := hE.1
  have hl := lv_entry ([.ref a, .int p0, .int p1, .int p2]) (n := 9) (Nat.le_of_ble_eq_true rfl)
  rw [lg_entry_eq]
  generalize (lg_sl ([.ref a, .int p0, .int p1, .int p2]) ++ List.replicate (9 - (lg_sl ([.ref a, .int p0, .int p1, .int p2])).length) Slot.unset).toArray = ls at hl ⊢
  have hl : lv_has ls 9 [(0, .ref a), (1, .int p0), (2, .int p1), (3, .int p2)] := hl
  obtain ⟨H, eH⟩ : ∃ z, z = s.heap := ⟨_, rfl⟩
  have hP : va_P D classes [(a_said, .inl (cs 0, 123, .inl a_said_c)), (a_sign, .inl (cs 0, 2400, .inl a_sign_c)), (a_clause, .inl (cs 0, 360, .inl a_clause_c)), (a_clauses, .inl (cs 0, 6, .inl a_clauses_c)), (a, .inr (12, [.ref a_tape, .int a__taped, .int a__rules, .ref a_sign, .ref a_length, .ref a_clause, .ref a_clauses, .ref a_read, .int a__next, .int a__wrong, .int a__number, .int a__text, .int a__made, .int a__deep, .int a__lines, .ref a_open, .int a__opened, .ref a_stack, .int a__top, .ref a_word, .ref a_said, .int a__x, .ref a_worth, .ref a_mate, .ref a_wasSaid, .int a__undone, .int a__boughtNow, .ref a_wayBy, .ref a_wayThen, .int a__walkMost, .int a__walkGoing, .int a__walkSet, .ref a_kept, .long a__drawX, .ref a_images, .ref a_imageX, .ref a_isMade])), (a_kept, .inl (cs 0, 86, .inl a_kept_c)), (a_word, .inl (cs 3, 13, .inr (.inl a_word_c))), (a_stack, .inl (cs 3, 64, .inr (.inl a_stack_c)))] H := by rw [eH]; exact hP
  have hS : va_S A s.heap H [] := by rw [eH]; exact hS
  rw [← eH]
  clear eH
  obtain ⟨locs, el⟩ : ∃ z : List Loc, z = [] := ⟨_, rfl⟩
  rw [← el] at hS ⊢
  clear el
  have z0 : (0 : Int32).toInt = 0 := by decide
  have z1 : (1 : Int32).toInt = 1 := by decide
  have zm1 : (-1 : Int32).toInt = -1 := by decide
  have i_a__lines : 0 ≤ a__lines.toInt ∧ a__lines.toInt ≤ 40 := h_a__lines
  have i_a__made : 0 ≤ a__made.toInt ∧ a__made.toInt ≤ 60 := h_a__made
  have i_a__next : 0 ≤ a__next.toInt ∧ a__next.toInt ≤ 400 := h_a__next
  have i_a__opened : 0 ≤ a__opened.toInt ∧ a__opened.toInt ≤ 400 := h_a__opened
  have i_a__rules : 0 ≤ a__rules.toInt ∧ a__rules.toInt ≤ 6 := h_a__rules
  have i_a__taped : 0 ≤ a__taped.toInt ∧ a__taped.toInt ≤ 400 := h_a__taped
  have i_a__text : 0 ≤ a__text.toInt ∧ a__text.toInt ≤ 6 := h_a__text
  have i_a__top : 0 ≤ a__top.toInt ∧ a__top.toInt ≤ 64 := h_a__top
  have i_a__undone : 0 ≤ a__undone.toInt ∧ a__undone.toInt ≤ 20 := h_a__undone
  have i_a__x : 0 ≤ a__x.toInt ∧ a__x.toInt ≤ 2147483647 := h_a__x
  have K49 : ∀ (n : Nat) (k49_L_7 : Int32) (k49_L_6 : Int32) (k49_L_5 : Int32) (k49_L_4 : Int32) (k49_C_a_word : Nat → Int64) (k49_C_a_stack : Nat → Int64) (k49_C_a_kept : Nat → Int32) (k49_C_a_said : Nat → Int32) (k49_F_a_18 : Int32) (k49_F_a_26 : Int32), (9 - k49_L_7.toInt).toNat ≤ n → IV 1 6 a__rules → IV 0 64 k49_F_a_18 → IV (-2147483648) 24 k49_L_4 → IV (-2) 7 k49_L_5 → IV (-2) 200 k49_L_6 → IV 0 8 k49_L_7 → IV 0 5 p0 → IV 0 11 p1 → IV 0 1 p2 → (BS k49_C_a_said 200) → (TR k49_C_a_said) → ((k49_C_a_said 3).toInt ≤ 99) → (BS k49_C_a_kept 99) → (p0.toInt < a__rules.toInt) → ∀ (H : Heap) (locs : List Loc), va_P D classes [(a_sign, .inl (cs 0, 2400, .inl a_sign_c)), (a_clause, .inl (cs 0, 360, .inl a_clause_c)), (a_clauses, .inl (cs 0, 6, .inl a_clauses_c)), (a_word, .inl (cs 3, 13, .inr (.inl k49_C_a_word))), (a_stack, .inl (cs 3, 64, .inr (.inl k49_C_a_stack))), (a_kept, .inl (cs 0, 86, .inl k49_C_a_kept)), (a_said, .inl (cs 0, 123, .inl k49_C_a_said)), (a, .inr (12, [.ref a_tape, .int a__taped, .int a__rules, .ref a_sign, .ref a_length, .ref a_clause, .ref a_clauses, .ref a_read, .int a__next, .int a__wrong, .int a__number, .int a__text, .int a__made, .int a__deep, .int a__lines, .ref a_open, .int a__opened, .ref a_stack, .int k49_F_a_18, .ref a_word, .ref a_said, .int a__x, .ref a_worth, .ref a_mate, .ref a_wasSaid, .int a__undone, .int k49_F_a_26, .ref a_wayBy, .ref a_wayThen, .int a__walkMost, .int a__walkGoing, .int a__walkSet, .ref a_kept, .long a__drawX, .ref a_images, .ref a_imageX, .ref a_isMade]))] H → va_D A [(a_sign, .inl (cs 0, 2400, .inl a_sign_c)), (a_clause, .inl (cs 0, 360, .inl a_clause_c)), (a_clauses, .inl (cs 0, 6, .inl a_clauses_c)), (a_word, .inl (cs 3, 13, .inr (.inl k49_C_a_word))), (a_stack, .inl (cs 3, 64, .inr (.inl k49_C_a_stack))), (a_kept, .inl (cs 0, 86, .inl k49_C_a_kept)), (a_said, .inl (cs 0, 123, .inl k49_C_a_said)), (a, .inr (12, [.ref a_tape, .int a__taped, .int a__rules, .ref a_sign, .ref a_length, .ref a_clause, .ref a_clauses, .ref a_read, .int a__next, .int a__wrong, .int a__number, .int a__text, .int a__made, .int a__deep, .int a__lines, .ref a_open, .int a__opened, .ref a_stack, .int k49_F_a_18, .ref a_word, .ref a_said, .int a__x, .ref a_worth, .ref a_mate, .ref a_wasSaid, .int a__undone, .int k49_F_a_26, .ref a_wayBy, .ref a_wayThen, .int a__walkMost, .int a__walkGoing, .int a__walkSet, .ref a_kept, .long a__drawX, .ref a_images, .ref a_imageX, .ref a_isMade]))] → va_S A s.heap H locs → ∀ ls : Array Slot, lv_has ls 9 [(7, .int k49_L_7), (6, .int k49_L_6), (5, .int k49_L_5), (4, .int k49_L_4), (0, .ref a), (1, .int p0), (2, .int p1), (3, .int p2)] → W p l e (headSpec (hz_w yX12_bring cX12_bring 9 (some .int)) ({ frames := 9, cells := 0, slots := 0, locals := 214 })).room s m [.ref a, .int p0, .int p1, .int p2].toArray below meth c H locs 0 0 (MQ below (va_Qi (fun (r : Int32) (u : (Nat → Int32) × (Nat → Nat → Int32)) => (r = (-1) ∧ IV (-2147483648) 2147483647 p0 ∧ IV 0 64 (u.1 1) ∧ (BS (u.2 1) 200) ∧ (TR (u.2 1)) ∧ (((u.2 1) 3).toInt ≤ 99)) ∨ (IV (-2) 200 r ∧ IV 1 6 a__rules ∧ IV 0 5 p0 ∧ IV 0 11 p1 ∧ IV 0 1 p2 ∧ IV 0 64 (u.1 1) ∧ (BS (u.2 1) 200) ∧ (TR (u.2 1)) ∧ (((u.2 1) 3).toInt ≤ 99))) (fun u t => ∃ (o_a_stack_c : Nat → Int64), ∃ (o_a_word_c : Nat → Int64), va_P D classes [(a_said, .inl (cs 0, 123, .inl (u.2 1))), (a_sign, .inl (cs 0, 2400, .inl a_sign_c)), (a_clause, .inl (cs 0, 360, .inl a_clause_c)), (a_clauses, .inl (cs 0, 6, .inl a_clauses_c)), (a, .inr (12, [.ref a_tape, .int a__taped, .int a__rules, .ref a_sign, .ref a_length, .ref a_clause, .ref a_clauses, .ref a_read, .int a__next, .int a__wrong, .int a__number, .int a__text, .int a__made, .int a__deep, .int a__lines, .ref a_open, .int a__opened, .ref a_stack, .int (u.1 1), .ref a_word, .ref a_said, .int a__x, .ref a_worth, .ref a_mate, .ref a_wasSaid, .int a__undone, .int (u.1 2), .ref a_wayBy, .ref a_wayThen, .int a__walkMost, .int a__walkGoing, .int a__walkSet, .ref a_kept, .long a__drawX, .ref a_images, .ref a_imageX, .ref a_isMade])), (a_kept, .inl (cs 0, 86, .inl (u.2 0))), (a_word, .inl (cs 3, 13, .inr (.inl o_a_word_c))), (a_stack, .inl (cs 3, 64, .inr (.inl o_a_stack_c)))] t.heap ∧ va_D A [(a_said, .inl (cs 0, 123, .inl (u.2 1))), (a_sign, .inl (cs 0, 2400, .inl a_sign_c)), (a_clause, .inl (cs 0, 360, .inl a_clause_c)), (a_clauses, .inl (cs 0, 6, .inl a_clauses_c)), (a, .inr (12, [.ref a_tape, .int a__taped, .int a__rules, .ref a_sign, .ref a_length, .ref a_clause, .ref a_clauses, .ref a_read, .int a__next, .int a__wrong, .int a__number, .int a__text, .int a__made, .int a__deep, .int a__lines, .ref a_open, .int a__opened, .ref a_stack, .int (u.1 1), .ref a_word, .ref a_said, .int a__x, .ref a_worth, .ref a_mate, .ref a_wasSaid, .int a__undone, .int (u.1 2), .ref a_wayBy, .ref a_wayThen, .int a__walkMost, .int a__walkGoing, .int a__walkSet, .ref a_kept, .long a__drawX, .ref a_images, .ref a_imageX, .ref a_isMade])), (a_kept, .inl (cs 0, 86, .inl (u.2 0))), (a_word, .inl (cs 3, 13, .inr (.inl o_a_word_c))), (a_stack, .inl (cs 3, 64, .inr (.inl o_a_stack_c)))]) A) [.ref a, .int p0, .int p1, .int p2].toArray s 0 0 A) (F0 m 49 ls []) := by
    intro n
    induction n with
    | zero =>
      intro k49_L_7 k49_L_6 k49_L_5 k49_L_4 k49_C_a_word k49_C_a_stack k49_C_a_kept k49_C_a_said k49_F_a_18 k49_F_a_26 hn q49_4 q49_9 q49_10 q49_11 q49_12 q49_13 q49_14 q49_15 q49_16 x49_0 x49_1 x49_2 x49_3 x49_4 H locs hP hD hS ls hl
      have i_a__lines : 0 ≤ a__lines.toInt ∧ a__lines.toInt ≤ 40 := h_a__lines
      have i_a__made : 0 ≤ a__made.toInt ∧ a__made.toInt ≤ 60 := h_a__made
      have i_a__next : 0 ≤ a__next.toInt ∧ a__next.toInt ≤ 400 := h_a__next
      have i_a__opened : 0 ≤ a__opened.toInt ∧ a__opened.toInt ≤ 400 := h_a__opened
      have i_a__rules : 1 ≤ a__rules.toInt ∧ a__rules.toInt ≤ 6 := q49_4
      have i_a__taped : 0 ≤ a__taped.toInt ∧ a__taped.toInt ≤ 400 := h_a__taped
      have i_a__text : 0 ≤ a__text.toInt ∧ a__text.toInt ≤ 6 := h_a__text
      have i_a__undone : 0 ≤ a__undone.toInt ∧ a__undone.toInt ≤ 20 := h_a__undone
      have i_a__x : 0 ≤ a__x.toInt ∧ a__x.toInt ≤ 2147483647 := h_a__x
      have i_k49_F_a_18 : 0 ≤ k49_F_a_18.toInt ∧ k49_F_a_18.toInt ≤ 64 := q49_9
      have i_k49_L_4 : (-2147483648) ≤ k49_L_4.toInt ∧ k49_L_4.toInt ≤ 24 := q49_10
      have i_k49_L_5 : (-2) ≤ k49_L_5.toInt ∧ k49_L_5.toInt ≤ 7 := q49_11
      have i_k49_L_6 : (-2) ≤ k49_L_6.toInt ∧ k49_L_6.toInt ≤ 200 := q49_12
      have i_k49_L_7 : 0 ≤ k49_L_7.toInt ∧ k49_L_7.toInt ≤ 8 := q49_13
      have i_p0 : 0 ≤ p0.toInt ∧ p0.toInt ≤ 5 := q49_14
      have i_p1 : 0 ≤ p1.toInt ∧ p1.toInt ≤ 11 := q49_15
      have i_p2 : 0 ≤ p2.toInt ∧ p2.toInt ≤ 1 := q49_16
      exact absurd hn (by omega)
    | succ n ih49 =>
      intro k49_L_7 k49_L_6 k49_L_5 k49_L_4 k49_C_a_word k49_C_a_stack k49_C_a_kept k49_C_a_said k49_F_a_18 k49_F_a_26 hn q49_4 q49_9 q49_10 q49_11 q49_12 q49_13 q49_14 q49_15 q49_16 x49_0 x49_1 x49_2 x49_3 x49_4 H locs hP hD hS ls hl
      have i_a__lines : 0 ≤ a__lines.toInt ∧ a__lines.toInt ≤ 40 := h_a__lines
      have i_a__made : 0 ≤ a__made.toInt ∧ a__made.toInt ≤ 60 := h_a__made
      have i_a__next : 0 ≤ a__next.toInt ∧ a__next.toInt ≤ 400 := h_a__next
      have i_a__opened : 0 ≤ a__opened.toInt ∧ a__opened.toInt ≤ 400 := h_a__opened
      have i_a__rules : 1 ≤ a__rules.toInt ∧ a__rules.toInt ≤ 6 := q49_4
      have i_a__taped : 0 ≤ a__taped.toInt ∧ a__taped.toInt ≤ 400 := h_a__taped
      have i_a__text : 0 ≤ a__text.toInt ∧ a__text.toInt ≤ 6 := h_a__text
      have i_a__undone : 0 ≤ a__undone.toInt ∧ a__undone.toInt ≤ 20 := h_a__undone
      have i_a__x : 0 ≤ a__x.toInt ∧ a__x.toInt ≤ 2147483647 := h_a__x
      have i_k49_F_a_18 : 0 ≤ k49_F_a_18.toInt ∧ k49_F_a_18.toInt ≤ 64 := q49_9
      have i_k49_L_4 : (-2147483648) ≤ k49_L_4.toInt ∧ k49_L_4.toInt ≤ 24 := q49_10
      have i_k49_L_5 : (-2) ≤ k49_L_5.toInt ∧ k49_L_5.toInt ≤ 7 := q49_11
      have i_k49_L_6 : (-2) ≤ k49_L_6.toInt ∧ k49_L_6.toInt ≤ 200 := q49_12
      have i_k49_L_7 : 0 ≤ k49_L_7.toInt ∧ k49_L_7.toInt ≤ 8 := q49_13
      have i_p0 : 0 ≤ p0.toInt ∧ p0.toInt ≤ 5 := q49_14
      have i_p1 : 0 ≤ p1.toInt ∧ p1.toInt ≤ 11 := q49_15
      have i_p2 : 0 ≤ p2.toInt ∧ p2.toInt ≤ 1 := q49_16
      refine lv_iload hx hb dX12_bring_49 (lv_at hl 0 rfl) ?_
      refine lv_aload_n hx hb dX12_bring_51 rfl (lv_at hl 4 rfl) ?_
      refine va_get (D := D) (ci := 12) (v := .ref a_said) (C := RX12) (T := TX12) (N := 37) hx hb hT i_X12 hown hK hP 7 rfl rfl 20 (by decide) (hT _ q_185) (fun _ h9 => h9) rfl dX12_bring_52 ?_
      refine lv_iconst (v := 0) hx hb dX12_bring_55 (by decide) ?_
      refine va_iald hx hb hK hP 6 0 rfl rfl (iv_vc (by decide)) dX12_bring_56 ?_
      refine lv_topi (fun v1 ev1 => ?_)
      have h2 : IV 0 8 v1 := (by rw [ev1]; exact bs_i0 x49_0)
      have ii3 : 0 ≤ v1.toInt ∧ v1.toInt ≤ 8 := h2
      have lv1 : v1.toInt = (k49_C_a_said 0).toInt := by rw [ev1]; rfl
      refine lv_icmp_ge (tgt := 127) hx hb dX12_bring_57 (by decide) (fun c4 => ?_) (fun c4 => ?_)
      · have t5 : k49_L_7.toInt ≥ v1.toInt := lin_ge c4 rfl rfl
        refine lv_iload_n hx hb dX12_bring_127 rfl (lv_at hl 7 rfl) ?_
        refine lv_if_ne (tgt := 136) hx hb dX12_bring_128 (by decide) (fun c6 => ?_) (fun c6 => ?_)
        · have t7 : p2.toInt ≠ 0 := lin_ne c6 rfl (by decide)
          have h8 : IV 1 1 p2 := iv_neL c6 q49_16 (by decide)
          have ii9 : 1 ≤ p2.toInt ∧ p2.toInt ≤ 1 := h8
          refine lv_iload hx hb dX12_bring_136 (lv_at hl 1 rfl) ?_
          refine W.widen (k := 0) (n := 0) (Nat.le_of_ble_eq_true rfl) (Nat.le_of_ble_eq_true rfl) ?_
          exact W.iret (v := k49_L_6) hx hb hr (fun t ht hW => ⟨⟨k49_L_6, (fun k => match k with | 0 => 0 | 1 => k49_F_a_18 | 2 => k49_F_a_26 | _ => 0, fun k => match k with | 0 => k49_C_a_kept | 1 => k49_C_a_said | _ => fun _ => 0), rfl, (Or.inr ((⟨q49_12, q49_4, q49_14, q49_15, (iv_w h8 (by decide) (by decide)), q49_9, x49_0, x49_1, x49_2⟩))), k49_C_a_stack, k49_C_a_word, by rw [ht]; exact hP.sub [6, 0, 1, 2, 7, 5, 3, 4] rfl, hD.sub [6, 0, 1, 2, 7, 5, 3, 4] (by decide) rfl⟩, hS.F ht⟩) hS.2.2 dX12_bring_138
        · have t10 : p2.toInt = 0 := lin_eqN c6 rfl (by decide)
          have h11 : IV 0 0 p2 := iv_eq1 c6 q49_16 (iv_c (a := 0) (b := 0) (by decide)) (by decide) (by decide)
          have ii12 : 0 ≤ p2.toInt ∧ p2.toInt ≤ 0 := h11
          refine lv_iload hx hb dX12_bring_131 (lv_at hl 2 rfl) ?_
          refine lv_goto (tgt := 138) hx hb dX12_bring_133 (by decide) ?_
          refine W.widen (k := 0) (n := 0) (Nat.le_of_ble_eq_true rfl) (Nat.le_of_ble_eq_true rfl) ?_
          exact W.iret (v := k49_L_5) hx hb hr (fun t ht hW => ⟨⟨k49_L_5, (fun k => match k with | 0 => 0 | 1 => k49_F_a_18 | 2 => k49_F_a_26 | _ => 0, fun k => match k with | 0 => k49_C_a_kept | 1 => k49_C_a_said | _ => fun _ => 0), rfl, (Or.inr ((⟨(iv_w q49_11 (by decide) (by decide)), q49_4, q49_14, q49_15, (iv_w h11 (by decide) (by decide)), q49_9, x49_0, x49_1, x49_2⟩))), k49_C_a_stack, k49_C_a_word, by rw [ht]; exact hP.sub [6, 0, 1, 2, 7, 5, 3, 4] rfl, hD.sub [6, 0, 1, 2, 7, 5, 3, 4] (by decide) rfl⟩, hS.F ht⟩) hS.2.2 dX12_bring_138
      · have t13 : k49_L_7.toInt < v1.toInt := lin_geN c4 rfl rfl
        have h14 : IV 0 7 k49_L_7 := iv_lt1 (Int32.not_le.mp c4) q49_13 h2 (by decide)
        have ii15 : 0 ≤ k49_L_7.toInt ∧ k49_L_7.toInt ≤ 7 := h14
        have h16 : IV 1 8 v1 := iv_lt2 (Int32.not_le.mp c4) q49_13 h2 (by decide)
        have ii17 : 1 ≤ v1.toInt ∧ v1.toInt ≤ 8 := h16
        refine lv_iload hx hb dX12_bring_60 (lv_at hl 0 rfl) ?_
        refine lv_aload_n hx hb dX12_bring_62 rfl (lv_at hl 4 rfl) ?_
        refine va_get (D := D) (ci := 12) (v := .ref a_kept) (C := RX12) (T := TX12) (N := 37) hx hb hT i_X12 hown hK hP 7 rfl rfl 32 (by decide) (hT _ q_191) (fun _ h9 => h9) rfl dX12_bring_63 ?_
        refine lv_bipush (v := 10) hx hb dX12_bring_66 (by decide) ?_
        refine lv_iconst (v := 5) hx hb dX12_bring_68 (by decide) ?_
        refine lv_iload_n hx hb dX12_bring_69 rfl (lv_at hl 6 rfl) ?_
        refine lv_imul hx hb dX12_bring_70 ?_
        refine lv_topi (fun v18 ev18 => ?_)
        have hv18 : IV 0 55 v18 := iv_mul ev18 (iv_c (a := 5) (b := 5) (by decide)) q49_15 (by decide) (by decide) (by decide) (by decide)
        have ii19 : 0 ≤ v18.toInt ∧ v18.toInt ≤ 55 := hv18
        have lv18 : v18.toInt = 5 * p1.toInt := lin_mul ev18 (iv_c (a := 5) (b := 5) (by decide)) q49_15 (by decide) rfl (by decide) (by decide) (by decide) (by decide)
        refine lv_iadd hx hb dX12_bring_71 ?_
        refine lv_topi (fun v20 ev20 => ?_)
        have hv20 : IV 10 65 v20 := iv_add ev20 (iv_c (a := 10) (b := 10) (by decide)) hv18 (by decide) (by decide)
        have ii21 : 10 ≤ v20.toInt ∧ v20.toInt ≤ 65 := hv20
        have lv20 : v20.toInt = 10 + v18.toInt := lin_add ev20 (iv_c (a := 10) (b := 10) (by decide)) hv18 (by decide) rfl (by decide) (by decide)
        refine lv_iconst (v := 3) hx hb dX12_bring_72 (by decide) ?_
        refine lv_iadd hx hb dX12_bring_73 ?_
        refine lv_topi (fun v22 ev22 => ?_)
        have hv22 : IV 13 68 v22 := iv_add ev22 hv20 (iv_c (a := 3) (b := 3) (by decide)) (by decide) (by decide)
        have ii23 : 13 ≤ v22.toInt ∧ v22.toInt ≤ 68 := hv22
        have dv22 : v22.toInt = v20.toInt + 3 := iv_addE ev22 hv20 (iv_c (a := 3) (b := 3) (by decide)) (by decide) (by decide) (by decide)
        have lv22 : v22.toInt = v20.toInt + 3 := lin_add ev22 hv20 (iv_c (a := 3) (b := 3) (by decide)) rfl (by decide) (by decide) (by decide)
        refine va_iald hx hb hK hP 5 0 rfl rfl (iv_v hv22 (by decide) (by decide)) dX12_bring_74 ?_
        refine lv_topi (fun v24 ev24 => ?_)
        have lv24 : v24.toInt = (k49_C_a_kept (Int32.toNatClampNeg v22)).toInt := by rw [ev24]
        refine lv_icmp_ne (tgt := 81) hx hb dX12_bring_75 (by decide) (fun c25 => ?_) (fun c25 => ?_)
        · have t26 : k49_L_7.toInt ≠ v24.toInt := lin_ne c25 rfl rfl
          refine lv_aload_n hx hb dX12_bring_81 rfl (lv_at hl 4 rfl) ?_
          refine lv_iload_n hx hb dX12_bring_82 rfl (lv_at hl 5 rfl) ?_
          refine lv_iload_n hx hb dX12_bring_83 rfl (lv_at hl 6 rfl) ?_
          refine lv_iload hx hb dX12_bring_84 (lv_at hl 0 rfl) ?_
          refine lv_iload hx hb dX12_bring_86 (lv_at hl 3 rfl) ?_
          have hFc := va_free (wc := [(a_said, .inl (cs 0, 123, .inl k49_C_a_said)), (a_sign, .inl (cs 0, 2400, .inl a_sign_c)), (a_clause, .inl (cs 0, 360, .inl a_clause_c)), (a_clauses, .inl (cs 0, 6, .inl a_clauses_c)), (a, .inr (12, [.ref a_tape, .int a__taped, .int a__rules, .ref a_sign, .ref a_length, .ref a_clause, .ref a_clauses, .ref a_read, .int a__next, .int a__wrong, .int a__number, .int a__text, .int a__made, .int a__deep, .int a__lines, .ref a_open, .int a__opened, .ref a_stack, .int k49_F_a_18, .ref a_word, .ref a_said, .int a__x, .ref a_worth, .ref a_mate, .ref a_wasSaid, .int a__undone, .int k49_F_a_26, .ref a_wayBy, .ref a_wayThen, .int a__walkMost, .int a__walkGoing, .int a__walkSet, .ref a_kept, .long a__drawX, .ref a_images, .ref a_imageX, .ref a_isMade])), (a_kept, .inl (cs 0, 86, .inl k49_C_a_kept)), (a_word, .inl (cs 3, 13, .inr (.inl k49_C_a_word))), (a_stack, .inl (cs 3, 64, .inr (.inl k49_C_a_stack)))]) hD hS hA [6,0,1,2,7,5,3,4] rfl
          refine va_calli (va_runV (As := [.int p0, .int p1, .int k49_L_7, .int k49_L_4]) (rest := []) ⟨hx, hb, hml, hown, hT⟩ (c_X12_soldFrom l D cs kK kV a p0 p1 k49_L_7 k49_L_4 a_said k49_C_a_said a_sign a_sign_c a_clause a_clause_c a_clauses a_clauses_c a_tape a__taped a__rules a_length a_read a__next a__wrong a__number a__text a__made a__deep a__lines a_open a__opened a_stack k49_F_a_18 a_word a__x a_worth a_mate a_wasSaid a__undone k49_F_a_26 a_wayBy a_wayThen a__walkMost a__walkGoing a__walkSet a_kept a__drawX a_images a_imageX a_isMade k49_C_a_kept k49_C_a_word k49_C_a_stack q49_14 q49_15 q49_10 h_a__taped ((iv_w q49_4 (by decide) (by decide))) h_a__next h_a__text h_a__made h_a__lines h_a__opened q49_9 h_a__x h_a__undone x49_0 x49_1 x49_2 hf3 x49_4 x49_3 H.size) (cwV 4 hT (hz_gV q_1293 q_1294 q_1295 q_701 q_1296) rfl rfl rfl (by decide +kernel) ⟨(Nat.le_of_ble_eq_true rfl), (Nat.le_of_ble_eq_true rfl)⟩) ⟨hz_C.blind, va_recv hK hP (ci := 12) (q0 := 7) rfl rfl, hz_C.mk (hP.sub (ws' := [(a_said, .inl (cs 0, 123, .inl k49_C_a_said)), (a_sign, .inl (cs 0, 2400, .inl a_sign_c)), (a_clause, .inl (cs 0, 360, .inl a_clause_c)), (a_clauses, .inl (cs 0, 6, .inl a_clauses_c)), (a, .inr (12, [.ref a_tape, .int a__taped, .int a__rules, .ref a_sign, .ref a_length, .ref a_clause, .ref a_clauses, .ref a_read, .int a__next, .int a__wrong, .int a__number, .int a__text, .int a__made, .int a__deep, .int a__lines, .ref a_open, .int a__opened, .ref a_stack, .int k49_F_a_18, .ref a_word, .ref a_said, .int a__x, .ref a_worth, .ref a_mate, .ref a_wasSaid, .int a__undone, .int k49_F_a_26, .ref a_wayBy, .ref a_wayThen, .int a__walkMost, .int a__walkGoing, .int a__walkSet, .ref a_kept, .long a__drawX, .ref a_images, .ref a_imageX, .ref a_isMade])), (a_kept, .inl (cs 0, 86, .inl k49_C_a_kept)), (a_word, .inl (cs 3, 13, .inr (.inl k49_C_a_word))), (a_stack, .inl (cs 3, 64, .inr (.inl k49_C_a_stack)))]) [6,0,1,2,7,5,3,4] rfl) (hD.sub (ws' := [(a_said, .inl (cs 0, 123, .inl k49_C_a_said)), (a_sign, .inl (cs 0, 2400, .inl a_sign_c)), (a_clause, .inl (cs 0, 360, .inl a_clause_c)), (a_clauses, .inl (cs 0, 6, .inl a_clauses_c)), (a, .inr (12, [.ref a_tape, .int a__taped, .int a__rules, .ref a_sign, .ref a_length, .ref a_clause, .ref a_clauses, .ref a_read, .int a__next, .int a__wrong, .int a__number, .int a__text, .int a__made, .int a__deep, .int a__lines, .ref a_open, .int a__opened, .ref a_stack, .int k49_F_a_18, .ref a_word, .ref a_said, .int a__x, .ref a_worth, .ref a_mate, .ref a_wasSaid, .int a__undone, .int k49_F_a_26, .ref a_wayBy, .ref a_wayThen, .int a__walkMost, .int a__walkGoing, .int a__walkSet, .ref a_kept, .long a__drawX, .ref a_images, .ref a_imageX, .ref a_isMade])), (a_kept, .inl (cs 0, 86, .inl k49_C_a_kept)), (a_word, .inl (cs 3, 13, .inr (.inl k49_C_a_word))), (a_stack, .inl (cs 3, 64, .inr (.inl k49_C_a_stack)))]) [6,0,1,2,7,5,3,4] (by decide) rfl) hE hS hFc⟩ rfl rfl hl.1 rfl (lv_room (Nat.le_of_ble_eq_true rfl)) dX12_bring_88 ⟨(Nat.le_of_ble_eq_true rfl), (Nat.le_of_ble_eq_true rfl)⟩) hS (fun q _ h => hFc q h) hFc (fun r27 o28 t H1 locs ht hvm hw hB hz1 hk1 hS => ?_)
          obtain ⟨o29, o30, hP1, hD1⟩ := hB
          rw [ht] at hP1
          obtain ⟨hP, hD⟩ := va_join (wr := []) (w1 := [(a_said, .inl (cs 0, 123, .inl (o28.2 0))), (a_sign, .inl (cs 0, 2400, .inl a_sign_c)), (a_clause, .inl (cs 0, 360, .inl a_clause_c)), (a_clauses, .inl (cs 0, 6, .inl a_clauses_c)), (a, .inr (12, [.ref a_tape, .int a__taped, .int a__rules, .ref a_sign, .ref a_length, .ref a_clause, .ref a_clauses, .ref a_read, .int a__next, .int a__wrong, .int a__number, .int a__text, .int a__made, .int a__deep, .int a__lines, .ref a_open, .int a__opened, .ref a_stack, .int (o28.1 1), .ref a_word, .ref a_said, .int a__x, .ref a_worth, .ref a_mate, .ref a_wasSaid, .int a__undone, .int (o28.1 2), .ref a_wayBy, .ref a_wayThen, .int a__walkMost, .int a__walkGoing, .int a__walkSet, .ref a_kept, .long a__drawX, .ref a_images, .ref a_imageX, .ref a_isMade])), (a_kept, .inl (cs 0, 86, .inl k49_C_a_kept)), (a_word, .inl (cs 3, 13, .inr (.inl o30))), (a_stack, .inl (cs 3, 64, .inr (.inl o29)))]) hP hD [6, 0, 1, 2, 7, 5, 3, 4] [] rfl rfl (by decide) (by decide) hk1 hFc hP1 hD1
          generalize H1 = H at hP hS ⊢
          have hP : va_P D classes [(a_said, .inl (cs 0, 123, .inl (o28.2 0))), (a_sign, .inl (cs 0, 2400, .inl a_sign_c)), (a_clause, .inl (cs 0, 360, .inl a_clause_c)), (a_clauses, .inl (cs 0, 6, .inl a_clauses_c)), (a, .inr (12, [.ref a_tape, .int a__taped, .int a__rules, .ref a_sign, .ref a_length, .ref a_clause, .ref a_clauses, .ref a_read, .int a__next, .int a__wrong, .int a__number, .int a__text, .int a__made, .int a__deep, .int a__lines, .ref a_open, .int a__opened, .ref a_stack, .int (o28.1 1), .ref a_word, .ref a_said, .int a__x, .ref a_worth, .ref a_mate, .ref a_wasSaid, .int a__undone, .int (o28.1 2), .ref a_wayBy, .ref a_wayThen, .int a__walkMost, .int a__walkGoing, .int a__walkSet, .ref a_kept, .long a__drawX, .ref a_images, .ref a_imageX, .ref a_isMade])), (a_kept, .inl (cs 0, 86, .inl k49_C_a_kept)), (a_word, .inl (cs 3, 13, .inr (.inl o30))), (a_stack, .inl (cs 3, 64, .inr (.inl o29)))] H := hP
          have hD : va_D A [(a_said, .inl (cs 0, 123, .inl (o28.2 0))), (a_sign, .inl (cs 0, 2400, .inl a_sign_c)), (a_clause, .inl (cs 0, 360, .inl a_clause_c)), (a_clauses, .inl (cs 0, 6, .inl a_clauses_c)), (a, .inr (12, [.ref a_tape, .int a__taped, .int a__rules, .ref a_sign, .ref a_length, .ref a_clause, .ref a_clauses, .ref a_read, .int a__next, .int a__wrong, .int a__number, .int a__text, .int a__made, .int a__deep, .int a__lines, .ref a_open, .int a__opened, .ref a_stack, .int (o28.1 1), .ref a_word, .ref a_said, .int a__x, .ref a_worth, .ref a_mate, .ref a_wasSaid, .int a__undone, .int (o28.1 2), .ref a_wayBy, .ref a_wayThen, .int a__walkMost, .int a__walkGoing, .int a__walkSet, .ref a_kept, .long a__drawX, .ref a_images, .ref a_imageX, .ref a_isMade])), (a_kept, .inl (cs 0, 86, .inl k49_C_a_kept)), (a_word, .inl (cs 3, 13, .inr (.inl o30))), (a_stack, .inl (cs 3, 64, .inr (.inl o29)))] := hD
          clear hk1 hFc hP1 hD1 hz1
          rcases hw with ⟨h31, h32, x33, x34, x35⟩
          have ii36 : (-1) ≤ r27.toInt ∧ r27.toInt ≤ 200 := h31
          have ii37 : 0 ≤ (o28.1 1).toInt ∧ (o28.1 1).toInt ≤ 64 := h32
          refine lv_istore (lv' := [(8, .int r27), (7, .int k49_L_7), (6, .int k49_L_6), (5, .int k49_L_5), (4, .int k49_L_4), (0, .ref a), (1, .int p0), (2, .int p1), (3, .int p2)]) hx hb dX12_bring_91 hl (by decide) rfl (fun ls hl => ?_)
          refine lv_iload hx hb dX12_bring_93 (lv_at hl 0 rfl) ?_
          refine lv_if_lt (tgt := 121) hx hb dX12_bring_95 (by decide) (fun c38 => ?_) (fun c38 => ?_)
          · have t39 : r27.toInt < 0 := lin_lt c38 rfl (by decide)
            have h40 : IV (-1) (-1) r27 := iv_lt1 c38 h31 (iv_c (a := 0) (b := 0) (by decide)) (by decide)
            have ii41 : (-1) ≤ r27.toInt ∧ r27.toInt ≤ (-1) := h40
            obtain ⟨v42, ev42⟩ : ∃ z : Int32, z = k49_L_7 + 1 := ⟨_, rfl⟩
            have hv42 : IV 1 8 v42 := iv_add ev42 h14 (iv_c (a := 1) (b := 1) (by decide)) (by decide) (by decide)
            have dv42 : v42.toInt = k49_L_7.toInt + 1 := iv_addE ev42 h14 (iv_c (a := 1) (b := 1) (by decide)) (by decide) (by decide) (by decide)
            refine lv_iinc (v := v42) (lv' := [(7, .int v42), (8, .int r27), (6, .int k49_L_6), (5, .int k49_L_5), (4, .int k49_L_4), (0, .ref a), (1, .int p0), (2, .int p1), (3, .int p2)]) hx hb dX12_bring_121 hl (k := 1) rfl (by rw [ev42]; rfl) (by decide) rfl (fun ls hl => ?_)
            refine lv_goto (tgt := 49) hx hb dX12_bring_124 (by decide) ?_
            exact ih49 v42 k49_L_6 k49_L_5 k49_L_4 o30 o29 k49_C_a_kept (o28.2 0) (o28.1 1) (o28.1 2) (by have h9 := hn; omega) q49_4 h32 q49_10 q49_11 q49_12 (iv_w hv42 (by decide) (by decide)) q49_14 q49_15 q49_16 x33 x34 x35 x49_3 x49_4 H locs (hP.sub (ws' := [(a_sign, .inl (cs 0, 2400, .inl a_sign_c)), (a_clause, .inl (cs 0, 360, .inl a_clause_c)), (a_clauses, .inl (cs 0, 6, .inl a_clauses_c)), (a_word, .inl (cs 3, 13, .inr (.inl o30))), (a_stack, .inl (cs 3, 64, .inr (.inl o29))), (a_kept, .inl (cs 0, 86, .inl k49_C_a_kept)), (a_said, .inl (cs 0, 123, .inl (o28.2 0))), (a, .inr (12, [.ref a_tape, .int a__taped, .int a__rules, .ref a_sign, .ref a_length, .ref a_clause, .ref a_clauses, .ref a_read, .int a__next, .int a__wrong, .int a__number, .int a__text, .int a__made, .int a__deep, .int a__lines, .ref a_open, .int a__opened, .ref a_stack, .int (o28.1 1), .ref a_word, .ref a_said, .int a__x, .ref a_worth, .ref a_mate, .ref a_wasSaid, .int a__undone, .int (o28.1 2), .ref a_wayBy, .ref a_wayThen, .int a__walkMost, .int a__walkGoing, .int a__walkSet, .ref a_kept, .long a__drawX, .ref a_images, .ref a_imageX, .ref a_isMade]))]) [1, 2, 3, 6, 7, 5, 0, 4] rfl) (hD.sub (ws' := [(a_sign, .inl (cs 0, 2400, .inl a_sign_c)), (a_clause, .inl (cs 0, 360, .inl a_clause_c)), (a_clauses, .inl (cs 0, 6, .inl a_clauses_c)), (a_word, .inl (cs 3, 13, .inr (.inl o30))), (a_stack, .inl (cs 3, 64, .inr (.inl o29))), (a_kept, .inl (cs 0, 86, .inl k49_C_a_kept)), (a_said, .inl (cs 0, 123, .inl (o28.2 0))), (a, .inr (12, [.ref a_tape, .int a__taped, .int a__rules, .ref a_sign, .ref a_length, .ref a_clause, .ref a_clauses, .ref a_read, .int a__next, .int a__wrong, .int a__number, .int a__text, .int a__made, .int a__deep, .int a__lines, .ref a_open, .int a__opened, .ref a_stack, .int (o28.1 1), .ref a_word, .ref a_said, .int a__x, .ref a_worth, .ref a_mate, .ref a_wasSaid, .int a__undone, .int (o28.1 2), .ref a_wayBy, .ref a_wayThen, .int a__walkMost, .int a__walkGoing, .int a__walkSet, .ref a_kept, .long a__drawX, .ref a_images, .ref a_imageX, .ref a_isMade]))]) [1, 2, 3, 6, 7, 5, 0, 4] (by decide) rfl) hS ls (lv_sub hl [0, 2, 3, 4, 5, 6, 7, 8] rfl)
          · have t43 : r27.toInt ≥ 0 := lin_ltN c38 rfl (by decide)
            have h44 : IV 0 200 r27 := iv_le2 (Int32.not_lt.mp c38) (iv_c (a := 0) (b := 0) (by decide)) h31 (by decide)
            have ii45 : 0 ≤ r27.toInt ∧ r27.toInt ≤ 200 := h44
            refine lv_iload hx hb dX12_bring_98 (lv_at hl 3 rfl) ?_
            refine lv_if_lt (tgt := 113) hx hb dX12_bring_100 (by decide) (fun c46 => ?_) (fun c46 => ?_)
            · have t47 : k49_L_5.toInt < 0 := lin_lt c46 rfl (by decide)
              have h48 : IV (-2) (-1) k49_L_5 := iv_lt1 c46 q49_11 (iv_c (a := 0) (b := 0) (by decide)) (by decide)
              have ii49 : (-2) ≤ k49_L_5.toInt ∧ k49_L_5.toInt ≤ (-1) := h48
              refine lv_iload hx hb dX12_bring_113 (lv_at hl 1 rfl) ?_
              refine lv_istore (lv' := [(5, .int k49_L_7), (8, .int r27), (7, .int k49_L_7), (6, .int k49_L_6), (4, .int k49_L_4), (0, .ref a), (1, .int p0), (2, .int p1), (3, .int p2)]) hx hb dX12_bring_115 hl (by decide) rfl (fun ls hl => ?_)
              refine lv_iload hx hb dX12_bring_117 (lv_at hl 1 rfl) ?_
              refine lv_istore (lv' := [(6, .int r27), (5, .int k49_L_7), (8, .int r27), (7, .int k49_L_7), (4, .int k49_L_4), (0, .ref a), (1, .int p0), (2, .int p1), (3, .int p2)]) hx hb dX12_bring_119 hl (by decide) rfl (fun ls hl => ?_)
              obtain ⟨v50, ev50⟩ : ∃ z : Int32, z = k49_L_7 + 1 := ⟨_, rfl⟩
              have hv50 : IV 1 8 v50 := iv_add ev50 h14 (iv_c (a := 1) (b := 1) (by decide)) (by decide) (by decide)
              have dv50 : v50.toInt = k49_L_7.toInt + 1 := iv_addE ev50 h14 (iv_c (a := 1) (b := 1) (by decide)) (by decide) (by decide) (by decide)
              refine lv_iinc (v := v50) (lv' := [(7, .int v50), (6, .int r27), (5, .int k49_L_7), (8, .int r27), (4, .int k49_L_4), (0, .ref a), (1, .int p0), (2, .int p1), (3, .int p2)]) hx hb dX12_bring_121 hl (k := 3) rfl (by rw [ev50]; rfl) (by decide) rfl (fun ls hl => ?_)
              refine lv_goto (tgt := 49) hx hb dX12_bring_124 (by decide) ?_
              exact ih49 v50 r27 k49_L_7 k49_L_4 o30 o29 k49_C_a_kept (o28.2 0) (o28.1 1) (o28.1 2) (by have h9 := hn; omega) q49_4 h32 q49_10 (iv_w h14 (by decide) (by decide)) (iv_w h44 (by decide) (by decide)) (iv_w hv50 (by decide) (by decide)) q49_14 q49_15 q49_16 x33 x34 x35 x49_3 x49_4 H locs (hP.sub (ws' := [(a_sign, .inl (cs 0, 2400, .inl a_sign_c)), (a_clause, .inl (cs 0, 360, .inl a_clause_c)), (a_clauses, .inl (cs 0, 6, .inl a_clauses_c)), (a_word, .inl (cs 3, 13, .inr (.inl o30))), (a_stack, .inl (cs 3, 64, .inr (.inl o29))), (a_kept, .inl (cs 0, 86, .inl k49_C_a_kept)), (a_said, .inl (cs 0, 123, .inl (o28.2 0))), (a, .inr (12, [.ref a_tape, .int a__taped, .int a__rules, .ref a_sign, .ref a_length, .ref a_clause, .ref a_clauses, .ref a_read, .int a__next, .int a__wrong, .int a__number, .int a__text, .int a__made, .int a__deep, .int a__lines, .ref a_open, .int a__opened, .ref a_stack, .int (o28.1 1), .ref a_word, .ref a_said, .int a__x, .ref a_worth, .ref a_mate, .ref a_wasSaid, .int a__undone, .int (o28.1 2), .ref a_wayBy, .ref a_wayThen, .int a__walkMost, .int a__walkGoing, .int a__walkSet, .ref a_kept, .long a__drawX, .ref a_images, .ref a_imageX, .ref a_isMade]))]) [1, 2, 3, 6, 7, 5, 0, 4] rfl) (hD.sub (ws' := [(a_sign, .inl (cs 0, 2400, .inl a_sign_c)), (a_clause, .inl (cs 0, 360, .inl a_clause_c)), (a_clauses, .inl (cs 0, 6, .inl a_clauses_c)), (a_word, .inl (cs 3, 13, .inr (.inl o30))), (a_stack, .inl (cs 3, 64, .inr (.inl o29))), (a_kept, .inl (cs 0, 86, .inl k49_C_a_kept)), (a_said, .inl (cs 0, 123, .inl (o28.2 0))), (a, .inr (12, [.ref a_tape, .int a__taped, .int a__rules, .ref a_sign, .ref a_length, .ref a_clause, .ref a_clauses, .ref a_read, .int a__next, .int a__wrong, .int a__number, .int a__text, .int a__made, .int a__deep, .int a__lines, .ref a_open, .int a__opened, .ref a_stack, .int (o28.1 1), .ref a_word, .ref a_said, .int a__x, .ref a_worth, .ref a_mate, .ref a_wasSaid, .int a__undone, .int (o28.1 2), .ref a_wayBy, .ref a_wayThen, .int a__walkMost, .int a__walkGoing, .int a__walkSet, .ref a_kept, .long a__drawX, .ref a_images, .ref a_imageX, .ref a_isMade]))]) [1, 2, 3, 6, 7, 5, 0, 4] (by decide) rfl) hS ls (lv_sub hl [0, 1, 2, 4, 5, 6, 7, 8] rfl)
            · have t51 : k49_L_5.toInt ≥ 0 := lin_ltN c46 rfl (by decide)
              have h52 : IV 0 7 k49_L_5 := iv_le2 (Int32.not_lt.mp c46) (iv_c (a := 0) (b := 0) (by decide)) q49_11 (by decide)
              have ii53 : 0 ≤ k49_L_5.toInt ∧ k49_L_5.toInt ≤ 7 := h52
              refine lv_iload hx hb dX12_bring_103 (lv_at hl 0 rfl) ?_
              refine lv_iload hx hb dX12_bring_105 (lv_at hl 2 rfl) ?_
              refine lv_icmp_lt (tgt := 113) hx hb dX12_bring_107 (by decide) (fun c54 => ?_) (fun c54 => ?_)
              · have t55 : r27.toInt < k49_L_6.toInt := lin_lt c54 rfl rfl
                have h56 : IV 0 199 r27 := iv_lt1 c54 h44 q49_12 (by decide)
                have ii57 : 0 ≤ r27.toInt ∧ r27.toInt ≤ 199 := h56
                have h58 : IV 1 200 k49_L_6 := iv_lt2 c54 h44 q49_12 (by decide)
                have ii59 : 1 ≤ k49_L_6.toInt ∧ k49_L_6.toInt ≤ 200 := h58
                refine lv_iload hx hb dX12_bring_113 (lv_at hl 1 rfl) ?_
                refine lv_istore (lv' := [(5, .int k49_L_7), (8, .int r27), (7, .int k49_L_7), (6, .int k49_L_6), (4, .int k49_L_4), (0, .ref a), (1, .int p0), (2, .int p1), (3, .int p2)]) hx hb dX12_bring_115 hl (by decide) rfl (fun ls hl => ?_)
                refine lv_iload hx hb dX12_bring_117 (lv_at hl 1 rfl) ?_
                refine lv_istore (lv' := [(6, .int r27), (5, .int k49_L_7), (8, .int r27), (7, .int k49_L_7), (4, .int k49_L_4), (0, .ref a), (1, .int p0), (2, .int p1), (3, .int p2)]) hx hb dX12_bring_119 hl (by decide) rfl (fun ls hl => ?_)
                obtain ⟨v60, ev60⟩ : ∃ z : Int32, z = k49_L_7 + 1 := ⟨_, rfl⟩
                have hv60 : IV 1 8 v60 := iv_add ev60 h14 (iv_c (a := 1) (b := 1) (by decide)) (by decide) (by decide)
                have dv60 : v60.toInt = k49_L_7.toInt + 1 := iv_addE ev60 h14 (iv_c (a := 1) (b := 1) (by decide)) (by decide) (by decide) (by decide)
                refine lv_iinc (v := v60) (lv' := [(7, .int v60), (6, .int r27), (5, .int k49_L_7), (8, .int r27), (4, .int k49_L_4), (0, .ref a), (1, .int p0), (2, .int p1), (3, .int p2)]) hx hb dX12_bring_121 hl (k := 3) rfl (by rw [ev60]; rfl) (by decide) rfl (fun ls hl => ?_)
                refine lv_goto (tgt := 49) hx hb dX12_bring_124 (by decide) ?_
                exact ih49 v60 r27 k49_L_7 k49_L_4 o30 o29 k49_C_a_kept (o28.2 0) (o28.1 1) (o28.1 2) (by have h9 := hn; omega) q49_4 h32 q49_10 (iv_w h14 (by decide) (by decide)) (iv_w h56 (by decide) (by decide)) (iv_w hv60 (by decide) (by decide)) q49_14 q49_15 q49_16 x33 x34 x35 x49_3 x49_4 H locs (hP.sub (ws' := [(a_sign, .inl (cs 0, 2400, .inl a_sign_c)), (a_clause, .inl (cs 0, 360, .inl a_clause_c)), (a_clauses, .inl (cs 0, 6, .inl a_clauses_c)), (a_word, .inl (cs 3, 13, .inr (.inl o30))), (a_stack, .inl (cs 3, 64, .inr (.inl o29))), (a_kept, .inl (cs 0, 86, .inl k49_C_a_kept)), (a_said, .inl (cs 0, 123, .inl (o28.2 0))), (a, .inr (12, [.ref a_tape, .int a__taped, .int a__rules, .ref a_sign, .ref a_length, .ref a_clause, .ref a_clauses, .ref a_read, .int a__next, .int a__wrong, .int a__number, .int a__text, .int a__made, .int a__deep, .int a__lines, .ref a_open, .int a__opened, .ref a_stack, .int (o28.1 1), .ref a_word, .ref a_said, .int a__x, .ref a_worth, .ref a_mate, .ref a_wasSaid, .int a__undone, .int (o28.1 2), .ref a_wayBy, .ref a_wayThen, .int a__walkMost, .int a__walkGoing, .int a__walkSet, .ref a_kept, .long a__drawX, .ref a_images, .ref a_imageX, .ref a_isMade]))]) [1, 2, 3, 6, 7, 5, 0, 4] rfl) (hD.sub (ws' := [(a_sign, .inl (cs 0, 2400, .inl a_sign_c)), (a_clause, .inl (cs 0, 360, .inl a_clause_c)), (a_clauses, .inl (cs 0, 6, .inl a_clauses_c)), (a_word, .inl (cs 3, 13, .inr (.inl o30))), (a_stack, .inl (cs 3, 64, .inr (.inl o29))), (a_kept, .inl (cs 0, 86, .inl k49_C_a_kept)), (a_said, .inl (cs 0, 123, .inl (o28.2 0))), (a, .inr (12, [.ref a_tape, .int a__taped, .int a__rules, .ref a_sign, .ref a_length, .ref a_clause, .ref a_clauses, .ref a_read, .int a__next, .int a__wrong, .int a__number, .int a__text, .int a__made, .int a__deep, .int a__lines, .ref a_open, .int a__opened, .ref a_stack, .int (o28.1 1), .ref a_word, .ref a_said, .int a__x, .ref a_worth, .ref a_mate, .ref a_wasSaid, .int a__undone, .int (o28.1 2), .ref a_wayBy, .ref a_wayThen, .int a__walkMost, .int a__walkGoing, .int a__walkSet, .ref a_kept, .long a__drawX, .ref a_images, .ref a_imageX, .ref a_isMade]))]) [1, 2, 3, 6, 7, 5, 0, 4] (by decide) rfl) hS ls (lv_sub hl [0, 1, 2, 4, 5, 6, 7, 8] rfl)
              · have t61 : r27.toInt ≥ k49_L_6.toInt := lin_ltN c54 rfl rfl
                refine lv_goto (tgt := 121) hx hb dX12_bring_110 (by decide) ?_
                obtain ⟨v62, ev62⟩ : ∃ z : Int32, z = k49_L_7 + 1 := ⟨_, rfl⟩
                have hv62 : IV 1 8 v62 := iv_add ev62 h14 (iv_c (a := 1) (b := 1) (by decide)) (by decide) (by decide)
                have dv62 : v62.toInt = k49_L_7.toInt + 1 := iv_addE ev62 h14 (iv_c (a := 1) (b := 1) (by decide)) (by decide) (by decide) (by decide)
                refine lv_iinc (v := v62) (lv' := [(7, .int v62), (8, .int r27), (6, .int k49_L_6), (5, .int k49_L_5), (4, .int k49_L_4), (0, .ref a), (1, .int p0), (2, .int p1), (3, .int p2)]) hx hb dX12_bring_121 hl (k := 1) rfl (by rw [ev62]; rfl) (by decide) rfl (fun ls hl => ?_)
                refine lv_goto (tgt := 49) hx hb dX12_bring_124 (by decide) ?_
                exact ih49 v62 k49_L_6 k49_L_5 k49_L_4 o30 o29 k49_C_a_kept (o28.2 0) (o28.1 1) (o28.1 2) (by have h9 := hn; omega) q49_4 h32 q49_10 (iv_w h52 (by decide) (by decide)) q49_12 (iv_w hv62 (by decide) (by decide)) q49_14 q49_15 q49_16 x33 x34 x35 x49_3 x49_4 H locs (hP.sub (ws' := [(a_sign, .inl (cs 0, 2400, .inl a_sign_c)), (a_clause, .inl (cs 0, 360, .inl a_clause_c)), (a_clauses, .inl (cs 0, 6, .inl a_clauses_c)), (a_word, .inl (cs 3, 13, .inr (.inl o30))), (a_stack, .inl (cs 3, 64, .inr (.inl o29))), (a_kept, .inl (cs 0, 86, .inl k49_C_a_kept)), (a_said, .inl (cs 0, 123, .inl (o28.2 0))), (a, .inr (12, [.ref a_tape, .int a__taped, .int a__rules, .ref a_sign, .ref a_length, .ref a_clause, .ref a_clauses, .ref a_read, .int a__next, .int a__wrong, .int a__number, .int a__text, .int a__made, .int a__deep, .int a__lines, .ref a_open, .int a__opened, .ref a_stack, .int (o28.1 1), .ref a_word, .ref a_said, .int a__x, .ref a_worth, .ref a_mate, .ref a_wasSaid, .int a__undone, .int (o28.1 2), .ref a_wayBy, .ref a_wayThen, .int a__walkMost, .int a__walkGoing, .int a__walkSet, .ref a_kept, .long a__drawX, .ref a_images, .ref a_imageX, .ref a_isMade]))]) [1, 2, 3, 6, 7, 5, 0, 4] rfl) (hD.sub (ws' := [(a_sign, .inl (cs 0, 2400, .inl a_sign_c)), (a_clause, .inl (cs 0, 360, .inl a_clause_c)), (a_clauses, .inl (cs 0, 6, .inl a_clauses_c)), (a_word, .inl (cs 3, 13, .inr (.inl o30))), (a_stack, .inl (cs 3, 64, .inr (.inl o29))), (a_kept, .inl (cs 0, 86, .inl k49_C_a_kept)), (a_said, .inl (cs 0, 123, .inl (o28.2 0))), (a, .inr (12, [.ref a_tape, .int a__taped, .int a__rules, .ref a_sign, .ref a_length, .ref a_clause, .ref a_clauses, .ref a_read, .int a__next, .int a__wrong, .int a__number, .int a__text, .int a__made, .int a__deep, .int a__lines, .ref a_open, .int a__opened, .ref a_stack, .int (o28.1 1), .ref a_word, .ref a_said, .int a__x, .ref a_worth, .ref a_mate, .ref a_wasSaid, .int a__undone, .int (o28.1 2), .ref a_wayBy, .ref a_wayThen, .int a__walkMost, .int a__walkGoing, .int a__walkSet, .ref a_kept, .long a__drawX, .ref a_images, .ref a_imageX, .ref a_isMade]))]) [1, 2, 3, 6, 7, 5, 0, 4] (by decide) rfl) hS ls (lv_sub hl [0, 2, 3, 4, 5, 6, 7, 8] rfl)
        · have t63 : k49_L_7.toInt = v24.toInt := lin_eqN c25 rfl rfl
          have h64 : IV 0 7 v24 := iv_eq2 c25 h14 iv_top (by decide) (by decide)
          have ii65 : 0 ≤ v24.toInt ∧ v24.toInt ≤ 7 := h64
          refine lv_goto (tgt := 121) hx hb dX12_bring_78 (by decide) ?_
          obtain ⟨v66, ev66⟩ : ∃ z : Int32, z = k49_L_7 + 1 := ⟨_, rfl⟩
          have hv66 : IV 1 8 v66 := iv_add ev66 h14 (iv_c (a := 1) (b := 1) (by decide)) (by decide) (by decide)
          have dv66 : v66.toInt = k49_L_7.toInt + 1 := iv_addE ev66 h14 (iv_c (a := 1) (b := 1) (by decide)) (by decide) (by decide) (by decide)
          refine lv_iinc (v := v66) (lv' := [(7, .int v66), (6, .int k49_L_6), (5, .int k49_L_5), (4, .int k49_L_4), (0, .ref a), (1, .int p0), (2, .int p1), (3, .int p2)]) hx hb dX12_bring_121 hl (k := 0) rfl (by rw [ev66]; rfl) (by decide) rfl (fun ls hl => ?_)
          refine lv_goto (tgt := 49) hx hb dX12_bring_124 (by decide) ?_
          exact ih49 v66 k49_L_6 k49_L_5 k49_L_4 k49_C_a_word k49_C_a_stack k49_C_a_kept k49_C_a_said k49_F_a_18 k49_F_a_26 (by have h9 := hn; omega) q49_4 q49_9 q49_10 q49_11 q49_12 (iv_w hv66 (by decide) (by decide)) q49_14 q49_15 q49_16 x49_0 x49_1 x49_2 x49_3 x49_4 H locs (hP.sub (ws' := [(a_sign, .inl (cs 0, 2400, .inl a_sign_c)), (a_clause, .inl (cs 0, 360, .inl a_clause_c)), (a_clauses, .inl (cs 0, 6, .inl a_clauses_c)), (a_word, .inl (cs 3, 13, .inr (.inl k49_C_a_word))), (a_stack, .inl (cs 3, 64, .inr (.inl k49_C_a_stack))), (a_kept, .inl (cs 0, 86, .inl k49_C_a_kept)), (a_said, .inl (cs 0, 123, .inl k49_C_a_said)), (a, .inr (12, [.ref a_tape, .int a__taped, .int a__rules, .ref a_sign, .ref a_length, .ref a_clause, .ref a_clauses, .ref a_read, .int a__next, .int a__wrong, .int a__number, .int a__text, .int a__made, .int a__deep, .int a__lines, .ref a_open, .int a__opened, .ref a_stack, .int k49_F_a_18, .ref a_word, .ref a_said, .int a__x, .ref a_worth, .ref a_mate, .ref a_wasSaid, .int a__undone, .int k49_F_a_26, .ref a_wayBy, .ref a_wayThen, .int a__walkMost, .int a__walkGoing, .int a__walkSet, .ref a_kept, .long a__drawX, .ref a_images, .ref a_imageX, .ref a_isMade]))]) [0, 1, 2, 3, 4, 5, 6, 7] rfl) (hD.sub (ws' := [(a_sign, .inl (cs 0, 2400, .inl a_sign_c)), (a_clause, .inl (cs 0, 360, .inl a_clause_c)), (a_clauses, .inl (cs 0, 6, .inl a_clauses_c)), (a_word, .inl (cs 3, 13, .inr (.inl k49_C_a_word))), (a_stack, .inl (cs 3, 64, .inr (.inl k49_C_a_stack))), (a_kept, .inl (cs 0, 86, .inl k49_C_a_kept)), (a_said, .inl (cs 0, 123, .inl k49_C_a_said)), (a, .inr (12, [.ref a_tape, .int a__taped, .int a__rules, .ref a_sign, .ref a_length, .ref a_clause, .ref a_clauses, .ref a_read, .int a__next, .int a__wrong, .int a__number, .int a__text, .int a__made, .int a__deep, .int a__lines, .ref a_open, .int a__opened, .ref a_stack, .int k49_F_a_18, .ref a_word, .ref a_said, .int a__x, .ref a_worth, .ref a_mate, .ref a_wasSaid, .int a__undone, .int k49_F_a_26, .ref a_wayBy, .ref a_wayThen, .int a__walkMost, .int a__walkGoing, .int a__walkSet, .ref a_kept, .long a__drawX, .ref a_images, .ref a_imageX, .ref a_isMade]))]) [0, 1, 2, 3, 4, 5, 6, 7] (by decide) rfl) hS ls (lv_sub hl [0, 1, 2, 3, 4, 5, 6, 7] rfl)
  refine lv_aload_n hx hb dX12_bring_0 rfl (lv_at hl 0 rfl) ?_
  refine lv_iload_n hx hb dX12_bring_1 rfl (lv_at hl 1 rfl) ?_
  refine va_calli (va_runV (As := [.int p0]) (rest := []) ⟨hx, hb, hml, hown, hT⟩ (c_X12_isRule l D cs kK kV a p0 a_tape a__taped a__rules a_sign a_length a_clause a_clauses a_read a__next a__wrong a__number a__text a__made a__deep a__lines a_open a__opened a_stack a__top a_word a_said a__x a_worth a_mate a_wasSaid a__undone a__boughtNow a_wayBy a_wayThen a__walkMost a__walkGoing a__walkSet a_kept a__drawX a_images a_imageX a_isMade h_a__taped h_a__rules h_a__next h_a__text h_a__made h_a__lines h_a__opened h_a__top h_a__x h_a__undone) (cwV 1 hT (hz_gV q_1235 q_1236 q_1237 q_701 q_1238) rfl rfl rfl (by decide +kernel) ⟨(Nat.le_of_ble_eq_true rfl), (Nat.le_of_ble_eq_true rfl)⟩) ⟨hz_P.blind, va_recv hK hP (ci := 12) (q0 := 4) rfl rfl, hz_P.mk (hP.sub (ws' := [(a, .inr (12, [.ref a_tape, .int a__taped, .int a__rules, .ref a_sign, .ref a_length, .ref a_clause, .ref a_clauses, .ref a_read, .int a__next, .int a__wrong, .int a__number, .int a__text, .int a__made, .int a__deep, .int a__lines, .ref a_open, .int a__opened, .ref a_stack, .int a__top, .ref a_word, .ref a_said, .int a__x, .ref a_worth, .ref a_mate, .ref a_wasSaid, .int a__undone, .int a__boughtNow, .ref a_wayBy, .ref a_wayThen, .int a__walkMost, .int a__walkGoing, .int a__walkSet, .ref a_kept, .long a__drawX, .ref a_images, .ref a_imageX, .ref a_isMade]))]) [4] rfl) hE hS⟩ rfl rfl hl.1 rfl (lv_room (Nat.le_of_ble_eq_true rfl)) dX12_bring_2 ⟨(Nat.le_of_ble_eq_true rfl), (Nat.le_of_ble_eq_true rfl)⟩) hS (fun _ _ h => h.elim) (fun _ h => h.elim) (fun r67 u t H1 locs ht hvm hw hB hz1 hk1 hS => ?_)
  have hP := hz_keep hP hk1
  clear hk1 hB hz1
  generalize H1 = H at hP hS ⊢
  rcases hw with ⟨rfl, h68⟩ | ⟨rfl, h69, h70, x71, x72⟩
  · have ii73 : (-2147483648) ≤ p0.toInt ∧ p0.toInt ≤ 2147483647 := h68
    refine lv_if_eq (tgt := 26) hx hb dX12_bring_5 (by decide) (fun _ => ?_) (fun z => absurd (by decide) z)
    refine lv_iconst (v := (-1)) hx hb dX12_bring_26 (by decide) ?_
    refine W.widen (k := 0) (n := 0) (Nat.le_of_ble_eq_true rfl) (Nat.le_of_ble_eq_true rfl) ?_
    exact W.iret (v := (-1)) hx hb hr (fun t ht hW => ⟨⟨(-1), (fun k => match k with | 0 => 0 | 1 => a__top | 2 => a__boughtNow | _ => 0, fun k => match k with | 0 => a_kept_c | 1 => a_said_c | _ => fun _ => 0), rfl, (Or.inl (⟨rfl, h68, h_a__top, hf0, hf1, hf2⟩)), a_stack_c, a_word_c, by rw [ht]; exact hP.sub [0, 1, 2, 3, 4, 5, 6, 7] rfl, hD.sub [0, 1, 2, 3, 4, 5, 6, 7] (by decide) rfl⟩, hS.F ht⟩) hS.2.2 dX12_bring_27
  · have ii74 : 1 ≤ a__rules.toInt ∧ a__rules.toInt ≤ 6 := h69
    have ii75 : 0 ≤ p0.toInt ∧ p0.toInt ≤ 5 := h70
    refine lv_if_eq (tgt := 26) hx hb dX12_bring_5 (by decide) (fun z => absurd z (by decide)) (fun _ => ?_)
    refine lv_aload_n hx hb dX12_bring_8 rfl (lv_at hl 0 rfl) ?_
    refine lv_iload_n hx hb dX12_bring_9 rfl (lv_at hl 2 rfl) ?_
    refine va_calli (va_runV (As := [.int p1]) (rest := []) ⟨hx, hb, hml, hown, hT⟩ (c_X12_isHalf l D cs kK kV a p1 a_said a_said_c a_tape a__taped a__rules a_sign a_length a_clause a_clauses a_read a__next a__wrong a__number a__text a__made a__deep a__lines a_open a__opened a_stack a__top a_word a__x a_worth a_mate a_wasSaid a__undone a__boughtNow a_wayBy a_wayThen a__walkMost a__walkGoing a__walkSet a_kept a__drawX a_images a_imageX a_isMade h_a__taped ((iv_w h69 (by decide) (by decide))) h_a__next h_a__text h_a__made h_a__lines h_a__opened h_a__top h_a__x h_a__undone hf0) (cwV 1 hT (hz_gV q_1148 q_1149 q_1150 q_701 q_1151) rfl rfl rfl (by decide +kernel) ⟨(Nat.le_of_ble_eq_true rfl), (Nat.le_of_ble_eq_true rfl)⟩) ⟨hz_P.blind, va_recv hK hP (ci := 12) (q0 := 4) rfl rfl, hz_P.mk (hP.sub (ws' := [(a_said, .inl (cs 0, 123, .inl a_said_c)), (a, .inr (12, [.ref a_tape, .int a__taped, .int a__rules, .ref a_sign, .ref a_length, .ref a_clause, .ref a_clauses, .ref a_read, .int a__next, .int a__wrong, .int a__number, .int a__text, .int a__made, .int a__deep, .int a__lines, .ref a_open, .int a__opened, .ref a_stack, .int a__top, .ref a_word, .ref a_said, .int a__x, .ref a_worth, .ref a_mate, .ref a_wasSaid, .int a__undone, .int a__boughtNow, .ref a_wayBy, .ref a_wayThen, .int a__walkMost, .int a__walkGoing, .int a__walkSet, .ref a_kept, .long a__drawX, .ref a_images, .ref a_imageX, .ref a_isMade]))]) [0,4] rfl) hE hS⟩ rfl rfl hl.1 rfl (lv_room (Nat.le_of_ble_eq_true rfl)) dX12_bring_10 ⟨(Nat.le_of_ble_eq_true rfl), (Nat.le_of_ble_eq_true rfl)⟩) hS (fun _ _ h => h.elim) (fun _ h => h.elim) (fun r76 u t H1 locs ht hvm hw hB hz1 hk1 hS => ?_)
    have hP := hz_keep hP hk1
    clear hk1 hB hz1
    generalize H1 = H at hP hS ⊢
    rcases hw with ⟨rfl, h77⟩ | ⟨rfl, h78, x79, x80⟩
    · have ii81 : (-2147483648) ≤ p1.toInt ∧ p1.toInt ≤ 2147483647 := h77
      refine lv_if_eq (tgt := 26) hx hb dX12_bring_13 (by decide) (fun _ => ?_) (fun z => absurd (by decide) z)
      refine lv_iconst (v := (-1)) hx hb dX12_bring_26 (by decide) ?_
      refine W.widen (k := 0) (n := 0) (Nat.le_of_ble_eq_true rfl) (Nat.le_of_ble_eq_true rfl) ?_
      exact W.iret (v := (-1)) hx hb hr (fun t ht hW => ⟨⟨(-1), (fun k => match k with | 0 => 0 | 1 => a__top | 2 => a__boughtNow | _ => 0, fun k => match k with | 0 => a_kept_c | 1 => a_said_c | _ => fun _ => 0), rfl, (Or.inl (⟨rfl, (iv_w h70 (by decide) (by decide)), h_a__top, hf0, hf1, hf2⟩)), a_stack_c, a_word_c, by rw [ht]; exact hP.sub [0, 1, 2, 3, 4, 5, 6, 7] rfl, hD.sub [0, 1, 2, 3, 4, 5, 6, 7] (by decide) rfl⟩, hS.F ht⟩) hS.2.2 dX12_bring_27
    · have ii82 : 0 ≤ p1.toInt ∧ p1.toInt ≤ 11 := h78
      refine lv_if_eq (tgt := 26) hx hb dX12_bring_13 (by decide) (fun z => absurd z (by decide)) (fun _ => ?_)
      refine lv_iload_n hx hb dX12_bring_16 rfl (lv_at hl 3 rfl) ?_
      refine lv_i2l (v := p2.toInt64) hx hb dX12_bring_17 rfl ?_
      refine lv_lconst (v := 0) hx hb dX12_bring_18 (by decide) ?_
      refine lv_lconst (v := 1) hx hb dX12_bring_19 (by decide) ?_
      refine va_calli (va_runS (As := [.long p2.toInt64, .long 0, .long 1]) (rest := []) ⟨hx, hb, hml, hown, hT⟩ (c_X12_in l D cs kK kV p2.toInt64 0 1) (va_cwS 3 hT (hz_gS q_964 q_965 q_701 q_966) rfl rfl rfl (by decide +kernel) ⟨(Nat.le_of_ble_eq_true rfl), (Nat.le_of_ble_eq_true rfl)⟩) ⟨hz_P.blind, hz_P.mk (hP.sub (ws' := []) [] rfl) hE hS⟩ rfl rfl hl.1 rfl (lv_room (Nat.le_of_ble_eq_true rfl)) dX12_bring_20 ⟨(Nat.le_of_ble_eq_true rfl), (Nat.le_of_ble_eq_true rfl)⟩) hS (fun _ _ h => h.elim) (fun _ h => h.elim) (fun r83 u t H1 locs ht hvm hw hB hz1 hk1 hS => ?_)
      have hP := hz_keep hP hk1
      clear hk1 hB hz1
      generalize H1 = H at hP hS ⊢
      rcases hw with ⟨rfl, x84⟩ | ⟨rfl, x85, x86⟩
      · have t87 : ¬ (0 ≤ p2.toInt ∧ p2.toInt ≤ 1) := fun z => x84 ⟨l64_clI z.1 (by decide), l64_lcI z.2 (by decide)⟩
        refine lv_if_ne (tgt := 28) hx hb dX12_bring_23 (by decide) (fun z => absurd (by decide) z) (fun _ => ?_)
        refine lv_iconst (v := (-1)) hx hb dX12_bring_26 (by decide) ?_
        refine W.widen (k := 0) (n := 0) (Nat.le_of_ble_eq_true rfl) (Nat.le_of_ble_eq_true rfl) ?_
        exact W.iret (v := (-1)) hx hb hr (fun t ht hW => ⟨⟨(-1), (fun k => match k with | 0 => 0 | 1 => a__top | 2 => a__boughtNow | _ => 0, fun k => match k with | 0 => a_kept_c | 1 => a_said_c | _ => fun _ => 0), rfl, (Or.inl (⟨rfl, (iv_w h70 (by decide) (by decide)), h_a__top, hf0, hf1, hf2⟩)), a_stack_c, a_word_c, by rw [ht]; exact hP.sub [0, 1, 2, 3, 4, 5, 6, 7] rfl, hD.sub [0, 1, 2, 3, 4, 5, 6, 7] (by decide) rfl⟩, hS.F ht⟩) hS.2.2 dX12_bring_27
      · have h88 : IV 0 2147483647 p2 := ⟨l64_cle x85 (by decide), iv_top.2⟩
        have ii89 : 0 ≤ p2.toInt ∧ p2.toInt ≤ 2147483647 := h88
        have h90 : IV 0 1 p2 := ⟨(h88).1, l64_lec x86 (by decide)⟩
        have ii91 : 0 ≤ p2.toInt ∧ p2.toInt ≤ 1 := h90
        refine lv_if_ne (tgt := 28) hx hb dX12_bring_23 (by decide) (fun _ => ?_) (fun z => absurd z (by decide))
        refine lv_aload_n hx hb dX12_bring_28 rfl (lv_at hl 0 rfl) ?_
        refine va_calli (va_runV (As := []) (rest := []) ⟨hx, hb, hml, hown, hT⟩ (c_X12_hoursAhead l D cs kK kV a a_tape a__taped a__rules a_sign a_length a_clause a_clauses a_read a__next a__wrong a__number a__text a__made a__deep a__lines a_open a__opened a_stack a__top a_word a_said a__x a_worth a_mate a_wasSaid a__undone a__boughtNow a_wayBy a_wayThen a__walkMost a__walkGoing a__walkSet a_kept a__drawX a_images a_imageX a_isMade a_said_c h_a__taped ((iv_w h69 (by decide) (by decide))) h_a__next h_a__text h_a__made h_a__lines h_a__opened h_a__top h_a__x h_a__undone) (cwV 0 hT (hz_gV q_1285 q_1286 q_1287 q_701 q_1288) rfl rfl rfl (by decide +kernel) ⟨(Nat.le_of_ble_eq_true rfl), (Nat.le_of_ble_eq_true rfl)⟩) ⟨hz_P.blind, va_recv hK hP (ci := 12) (q0 := 4) rfl rfl, hz_P.mk (hP.sub (ws' := [(a, .inr (12, [.ref a_tape, .int a__taped, .int a__rules, .ref a_sign, .ref a_length, .ref a_clause, .ref a_clauses, .ref a_read, .int a__next, .int a__wrong, .int a__number, .int a__text, .int a__made, .int a__deep, .int a__lines, .ref a_open, .int a__opened, .ref a_stack, .int a__top, .ref a_word, .ref a_said, .int a__x, .ref a_worth, .ref a_mate, .ref a_wasSaid, .int a__undone, .int a__boughtNow, .ref a_wayBy, .ref a_wayThen, .int a__walkMost, .int a__walkGoing, .int a__walkSet, .ref a_kept, .long a__drawX, .ref a_images, .ref a_imageX, .ref a_isMade])), (a_said, .inl (cs 0, 123, .inl a_said_c))]) [4,0] rfl) hE hS⟩ rfl rfl hl.1 rfl (lv_room (Nat.le_of_ble_eq_true rfl)) dX12_bring_29 ⟨(Nat.le_of_ble_eq_true rfl), (Nat.le_of_ble_eq_true rfl)⟩) hS (fun _ _ h => h.elim) (fun _ h => h.elim) (fun r92 u t H1 locs ht hvm hw hB hz1 hk1 hS => ?_)
        have hP := hz_keep hP hk1
        clear hk1 hB hz1
        generalize H1 = H at hP hS ⊢
        have hw_r92 := hw
        refine lv_istore (lv' := [(4, .int r92), (0, .ref a), (1, .int p0), (2, .int p1), (3, .int p2)]) hx hb dX12_bring_32 hl (by decide) rfl (fun ls hl => ?_)
        refine lv_bipush (v := (-2)) hx hb dX12_bring_34 (by decide) ?_
        refine lv_istore (lv' := [(5, .int (-2)), (4, .int r92), (0, .ref a), (1, .int p0), (2, .int p1), (3, .int p2)]) hx hb dX12_bring_36 hl (by decide) rfl (fun ls hl => ?_)
        refine lv_bipush (v := (-2)) hx hb dX12_bring_38 (by decide) ?_
        refine lv_istore (lv' := [(6, .int (-2)), (5, .int (-2)), (4, .int r92), (0, .ref a), (1, .int p0), (2, .int p1), (3, .int p2)]) hx hb dX12_bring_40 hl (by decide) rfl (fun ls hl => ?_)
        refine lv_aload_n hx hb dX12_bring_42 rfl (lv_at hl 3 rfl) ?_
        have hFc := va_free (wc := [(a_kept, .inl (cs 0, 86, .inl a_kept_c)), (a_said, .inl (cs 0, 123, .inl a_said_c)), (a, .inr (12, [.ref a_tape, .int a__taped, .int a__rules, .ref a_sign, .ref a_length, .ref a_clause, .ref a_clauses, .ref a_read, .int a__next, .int a__wrong, .int a__number, .int a__text, .int a__made, .int a__deep, .int a__lines, .ref a_open, .int a__opened, .ref a_stack, .int a__top, .ref a_word, .ref a_said, .int a__x, .ref a_worth, .ref a_mate, .ref a_wasSaid, .int a__undone, .int a__boughtNow, .ref a_wayBy, .ref a_wayThen, .int a__walkMost, .int a__walkGoing, .int a__walkSet, .ref a_kept, .long a__drawX, .ref a_images, .ref a_imageX, .ref a_isMade]))]) hD hS hA [5,0,4] rfl
        refine va_callv (va_runV (As := []) (rest := []) ⟨hx, hb, hml, hown, hT⟩ (c_X12_keeps l D cs kK kV a a_kept a_kept_c a_said a_said_c a_tape a__taped a__rules a_sign a_length a_clause a_clauses a_read a__next a__wrong a__number a__text a__made a__deep a__lines a_open a__opened a_stack a__top a_word a__x a_worth a_mate a_wasSaid a__undone a__boughtNow a_wayBy a_wayThen a__walkMost a__walkGoing a__walkSet a__drawX a_images a_imageX a_isMade h_a__taped ((iv_w h69 (by decide) (by decide))) h_a__next h_a__text h_a__made h_a__lines h_a__opened h_a__top h_a__x h_a__undone H.size) (cwV 0 hT (hz_gV q_1289 q_1290 q_1291 q_701 q_1292) rfl rfl rfl (by decide +kernel) ⟨(Nat.le_of_ble_eq_true rfl), (Nat.le_of_ble_eq_true rfl)⟩) ⟨hz_C.blind, va_recv hK hP (ci := 12) (q0 := 4) rfl rfl, hz_C.mk (hP.sub (ws' := [(a_kept, .inl (cs 0, 86, .inl a_kept_c)), (a_said, .inl (cs 0, 123, .inl a_said_c)), (a, .inr (12, [.ref a_tape, .int a__taped, .int a__rules, .ref a_sign, .ref a_length, .ref a_clause, .ref a_clauses, .ref a_read, .int a__next, .int a__wrong, .int a__number, .int a__text, .int a__made, .int a__deep, .int a__lines, .ref a_open, .int a__opened, .ref a_stack, .int a__top, .ref a_word, .ref a_said, .int a__x, .ref a_worth, .ref a_mate, .ref a_wasSaid, .int a__undone, .int a__boughtNow, .ref a_wayBy, .ref a_wayThen, .int a__walkMost, .int a__walkGoing, .int a__walkSet, .ref a_kept, .long a__drawX, .ref a_images, .ref a_imageX, .ref a_isMade]))]) [5,0,4] rfl) (hD.sub (ws' := [(a_kept, .inl (cs 0, 86, .inl a_kept_c)), (a_said, .inl (cs 0, 123, .inl a_said_c)), (a, .inr (12, [.ref a_tape, .int a__taped, .int a__rules, .ref a_sign, .ref a_length, .ref a_clause, .ref a_clauses, .ref a_read, .int a__next, .int a__wrong, .int a__number, .int a__text, .int a__made, .int a__deep, .int a__lines, .ref a_open, .int a__opened, .ref a_stack, .int a__top, .ref a_word, .ref a_said, .int a__x, .ref a_worth, .ref a_mate, .ref a_wasSaid, .int a__undone, .int a__boughtNow, .ref a_wayBy, .ref a_wayThen, .int a__walkMost, .int a__walkGoing, .int a__walkSet, .ref a_kept, .long a__drawX, .ref a_images, .ref a_imageX, .ref a_isMade]))]) [5,0,4] (by decide) rfl) hE hS hFc⟩ rfl rfl hl.1 rfl (lv_room (Nat.le_of_ble_eq_true rfl)) dX12_bring_43 ⟨(Nat.le_of_ble_eq_true rfl), (Nat.le_of_ble_eq_true rfl)⟩) hS (fun q _ h => hFc q h) hFc (fun o94 t H1 locs ht hvm hw hB hz1 hk1 hS => ?_)
        obtain ⟨hP1, hD1⟩ := hB
        rw [ht] at hP1
        obtain ⟨hP, hD⟩ := va_join (wr := [(a_sign, .inl (cs 0, 2400, .inl a_sign_c)), (a_clause, .inl (cs 0, 360, .inl a_clause_c)), (a_clauses, .inl (cs 0, 6, .inl a_clauses_c)), (a_word, .inl (cs 3, 13, .inr (.inl a_word_c))), (a_stack, .inl (cs 3, 64, .inr (.inl a_stack_c)))]) (w1 := [(a_kept, .inl (cs 0, 86, .inl (o94.2 0))), (a_said, .inl (cs 0, 123, .inl a_said_c)), (a, .inr (12, [.ref a_tape, .int a__taped, .int a__rules, .ref a_sign, .ref a_length, .ref a_clause, .ref a_clauses, .ref a_read, .int a__next, .int a__wrong, .int a__number, .int a__text, .int a__made, .int a__deep, .int a__lines, .ref a_open, .int a__opened, .ref a_stack, .int a__top, .ref a_word, .ref a_said, .int a__x, .ref a_worth, .ref a_mate, .ref a_wasSaid, .int a__undone, .int a__boughtNow, .ref a_wayBy, .ref a_wayThen, .int a__walkMost, .int a__walkGoing, .int a__walkSet, .ref a_kept, .long a__drawX, .ref a_images, .ref a_imageX, .ref a_isMade]))]) hP hD [5, 0, 4] [1, 2, 3, 6, 7] rfl rfl (by decide) (by decide) hk1 hFc hP1 hD1
        generalize H1 = H at hP hS ⊢
        have hP : va_P D classes [(a_sign, .inl (cs 0, 2400, .inl a_sign_c)), (a_clause, .inl (cs 0, 360, .inl a_clause_c)), (a_clauses, .inl (cs 0, 6, .inl a_clauses_c)), (a_word, .inl (cs 3, 13, .inr (.inl a_word_c))), (a_stack, .inl (cs 3, 64, .inr (.inl a_stack_c))), (a_kept, .inl (cs 0, 86, .inl (o94.2 0))), (a_said, .inl (cs 0, 123, .inl a_said_c)), (a, .inr (12, [.ref a_tape, .int a__taped, .int a__rules, .ref a_sign, .ref a_length, .ref a_clause, .ref a_clauses, .ref a_read, .int a__next, .int a__wrong, .int a__number, .int a__text, .int a__made, .int a__deep, .int a__lines, .ref a_open, .int a__opened, .ref a_stack, .int a__top, .ref a_word, .ref a_said, .int a__x, .ref a_worth, .ref a_mate, .ref a_wasSaid, .int a__undone, .int a__boughtNow, .ref a_wayBy, .ref a_wayThen, .int a__walkMost, .int a__walkGoing, .int a__walkSet, .ref a_kept, .long a__drawX, .ref a_images, .ref a_imageX, .ref a_isMade]))] H := hP
        have hD : va_D A [(a_sign, .inl (cs 0, 2400, .inl a_sign_c)), (a_clause, .inl (cs 0, 360, .inl a_clause_c)), (a_clauses, .inl (cs 0, 6, .inl a_clauses_c)), (a_word, .inl (cs 3, 13, .inr (.inl a_word_c))), (a_stack, .inl (cs 3, 64, .inr (.inl a_stack_c))), (a_kept, .inl (cs 0, 86, .inl (o94.2 0))), (a_said, .inl (cs 0, 123, .inl a_said_c)), (a, .inr (12, [.ref a_tape, .int a__taped, .int a__rules, .ref a_sign, .ref a_length, .ref a_clause, .ref a_clauses, .ref a_read, .int a__next, .int a__wrong, .int a__number, .int a__text, .int a__made, .int a__deep, .int a__lines, .ref a_open, .int a__opened, .ref a_stack, .int a__top, .ref a_word, .ref a_said, .int a__x, .ref a_worth, .ref a_mate, .ref a_wasSaid, .int a__undone, .int a__boughtNow, .ref a_wayBy, .ref a_wayThen, .int a__walkMost, .int a__walkGoing, .int a__walkSet, .ref a_kept, .long a__drawX, .ref a_images, .ref a_imageX, .ref a_isMade]))] := hD
        clear hk1 hFc hP1 hD1 hz1
        have x95 := hw
        refine lv_iconst (v := 0) hx hb dX12_bring_46 (by decide) ?_
        refine lv_istore (lv' := [(7, .int 0), (6, .int (-2)), (5, .int (-2)), (4, .int r92), (0, .ref a), (1, .int p0), (2, .int p1), (3, .int p2)]) hx hb dX12_bring_47 hl (by decide) rfl (fun ls hl => ?_)
        exact K49 _ ((0 : Int32)) (((-2) : Int32)) (((-2) : Int32)) r92 a_word_c a_stack_c (o94.2 0) a_said_c a__top a__boughtNow (Nat.le_refl _) h69 h_a__top hw_r92 (iv_c (by decide)) (iv_c (by decide)) (iv_c (by decide)) h70 h78 h90 hf0 hf1 hf2 (bs_congr (bs_99 hf0 (by omega)) (fun j hj => x95 j hj)) x72 H locs (hP.sub (ws' := [(a_sign, .inl (cs 0, 2400, .inl a_sign_c)), (a_clause, .inl (cs 0, 360, .inl a_clause_c)), (a_clauses, .inl (cs 0, 6, .inl a_clauses_c)), (a_word, .inl (cs 3, 13, .inr (.inl a_word_c))), (a_stack, .inl (cs 3, 64, .inr (.inl a_stack_c))), (a_kept, .inl (cs 0, 86, .inl (o94.2 0))), (a_said, .inl (cs 0, 123, .inl a_said_c)), (a, .inr (12, [.ref a_tape, .int a__taped, .int a__rules, .ref a_sign, .ref a_length, .ref a_clause, .ref a_clauses, .ref a_read, .int a__next, .int a__wrong, .int a__number, .int a__text, .int a__made, .int a__deep, .int a__lines, .ref a_open, .int a__opened, .ref a_stack, .int a__top, .ref a_word, .ref a_said, .int a__x, .ref a_worth, .ref a_mate, .ref a_wasSaid, .int a__undone, .int a__boughtNow, .ref a_wayBy, .ref a_wayThen, .int a__walkMost, .int a__walkGoing, .int a__walkSet, .ref a_kept, .long a__drawX, .ref a_images, .ref a_imageX, .ref a_isMade]))]) [0, 1, 2, 3, 4, 5, 6, 7] rfl) (hD.sub (ws' := [(a_sign, .inl (cs 0, 2400, .inl a_sign_c)), (a_clause, .inl (cs 0, 360, .inl a_clause_c)), (a_clauses, .inl (cs 0, 6, .inl a_clauses_c)), (a_word, .inl (cs 3, 13, .inr (.inl a_word_c))), (a_stack, .inl (cs 3, 64, .inr (.inl a_stack_c))), (a_kept, .inl (cs 0, 86, .inl (o94.2 0))), (a_said, .inl (cs 0, 123, .inl a_said_c)), (a, .inr (12, [.ref a_tape, .int a__taped, .int a__rules, .ref a_sign, .ref a_length, .ref a_clause, .ref a_clauses, .ref a_read, .int a__next, .int a__wrong, .int a__number, .int a__text, .int a__made, .int a__deep, .int a__lines, .ref a_open, .int a__opened, .ref a_stack, .int a__top, .ref a_word, .ref a_said, .int a__x, .ref a_worth, .ref a_mate, .ref a_wasSaid, .int a__undone, .int a__boughtNow, .ref a_wayBy, .ref a_wayThen, .int a__walkMost, .int a__walkGoing, .int a__walkSet, .ref a_kept, .long a__drawX, .ref a_images, .ref a_imageX, .ref a_isMade]))]) [0, 1, 2, 3, 4, 5, 6, 7] (by decide) rfl) hS ls (lv_sub hl [0, 1, 2, 3, 4, 5, 6, 7] rfl)
theorem dX12_trial_0 : decode cX12_trial 0 = .ok (.iload_n 1, 1) := by decide +kernel
theorem dX12_trial_1 : decode cX12_trial 1 = .ok (.iconst (-1), 1) := by decide +kernel
theorem dX12_trial_2 : decode cX12_trial 2 = .ok (.if_icmp .ne 13, 3) := by decide +kernel
theorem dX12_trial_5 : decode cX12_trial 5 = .ok (.aload_n 0, 1) := by decide +kernel
theorem dX12_trial_6 : decode cX12_trial 6 = .ok (.getfield 39, 3) := by decide +kernel
theorem dX12_trial_9 : decode cX12_trial 9 = .ok (.bipush 122, 2) := by decide +kernel
theorem dX12_trial_11 : decode cX12_trial 11 = .ok (.iconst 0, 1) := by decide +kernel
theorem dX12_trial_12 : decode cX12_trial 12 = .ok (.iastore, 1) := by decide +kernel
theorem dX12_trial_13 : decode cX12_trial 13 = .ok (.iconst 0, 1) := by decide +kernel
theorem dX12_trial_14 : decode cX12_trial 14 = .ok (.ireturn, 1) := by decide +kernel
theorem dX12_trial_15 : decode cX12_trial 15 = .ok (.aload_n 0, 1) := by decide +kernel
theorem dX12_trial_16 : decode cX12_trial 16 = .ok (.iload_n 1, 1) := by decide +kernel
theorem dX12_trial_17 : decode cX12_trial 17 = .ok (.invokevirtual 335, 3) := by decide +kernel
theorem dX12_trial_20 : decode cX12_trial 20 = .ok (.ifCond .eq 28, 3) := by decide +kernel
theorem dX12_trial_23 : decode cX12_trial 23 = .ok (.aload_n 0, 1) := by decide +kernel
theorem dX12_trial_24 : decode cX12_trial 24 = .ok (.iload_n 2, 1) := by decide +kernel
theorem dX12_trial_25 : decode cX12_trial 25 = .ok (.invokevirtual 335, 3) := by decide +kernel
theorem dX12_trial_28 : decode cX12_trial 28 = .ok (.ifCond .eq 20, 3) := by decide +kernel
theorem dX12_trial_31 : decode cX12_trial 31 = .ok (.iload_n 1, 1) := by decide +kernel
theorem dX12_trial_32 : decode cX12_trial 32 = .ok (.iload_n 2, 1) := by decide +kernel
theorem dX12_trial_33 : decode cX12_trial 33 = .ok (.if_icmp .eq 15, 3) := by decide +kernel
theorem dX12_trial_36 : decode cX12_trial 36 = .ok (.aload_n 0, 1) := by decide +kernel
theorem dX12_trial_37 : decode cX12_trial 37 = .ok (.getfield 39, 3) := by decide +kernel
theorem dX12_trial_40 : decode cX12_trial 40 = .ok (.bipush 122, 2) := by decide +kernel
theorem dX12_trial_42 : decode cX12_trial 42 = .ok (.iaload, 1) := by decide +kernel
theorem dX12_trial_43 : decode cX12_trial 43 = .ok (.bipush 12, 2) := by decide +kernel
theorem dX12_trial_45 : decode cX12_trial 45 = .ok (.if_icmp .ne 6, 3) := by decide +kernel
theorem dX12_trial_48 : decode cX12_trial 48 = .ok (.bipush (-2), 2) := by decide +kernel
theorem dX12_trial_50 : decode cX12_trial 50 = .ok (.ireturn, 1) := by decide +kernel
theorem dX12_trial_51 : decode cX12_trial 51 = .ok (.bipush 86, 2) := by decide +kernel
theorem dX12_trial_53 : decode cX12_trial 53 = .ok (.iconst 3, 1) := by decide +kernel
theorem dX12_trial_54 : decode cX12_trial 54 = .ok (.aload_n 0, 1) := by decide +kernel
theorem dX12_trial_55 : decode cX12_trial 55 = .ok (.getfield 39, 3) := by decide +kernel
theorem dX12_trial_58 : decode cX12_trial 58 = .ok (.bipush 122, 2) := by decide +kernel
theorem dX12_trial_60 : decode cX12_trial 60 = .ok (.iaload, 1) := by decide +kernel
theorem dX12_trial_61 : decode cX12_trial 61 = .ok (.imul, 1) := by decide +kernel
theorem dX12_trial_62 : decode cX12_trial 62 = .ok (.iadd, 1) := by decide +kernel
theorem dX12_trial_63 : decode cX12_trial 63 = .ok (.istore 4, 2) := by decide +kernel
theorem dX12_trial_65 : decode cX12_trial 65 = .ok (.aload_n 0, 1) := by decide +kernel
theorem dX12_trial_66 : decode cX12_trial 66 = .ok (.getfield 39, 3) := by decide +kernel
theorem dX12_trial_69 : decode cX12_trial 69 = .ok (.iload 4, 2) := by decide +kernel
theorem dX12_trial_71 : decode cX12_trial 71 = .ok (.iload_n 1, 1) := by decide +kernel
theorem dX12_trial_72 : decode cX12_trial 72 = .ok (.iastore, 1) := by decide +kernel
theorem dX12_trial_73 : decode cX12_trial 73 = .ok (.aload_n 0, 1) := by decide +kernel
theorem dX12_trial_74 : decode cX12_trial 74 = .ok (.getfield 39, 3) := by decide +kernel
theorem dX12_trial_77 : decode cX12_trial 77 = .ok (.iload 4, 2) := by decide +kernel
theorem dX12_trial_79 : decode cX12_trial 79 = .ok (.iconst 1, 1) := by decide +kernel
theorem dX12_trial_80 : decode cX12_trial 80 = .ok (.iadd, 1) := by decide +kernel
theorem dX12_trial_81 : decode cX12_trial 81 = .ok (.iload_n 2, 1) := by decide +kernel
theorem dX12_trial_82 : decode cX12_trial 82 = .ok (.iastore, 1) := by decide +kernel
theorem dX12_trial_83 : decode cX12_trial 83 = .ok (.aload_n 0, 1) := by decide +kernel
theorem dX12_trial_84 : decode cX12_trial 84 = .ok (.getfield 39, 3) := by decide +kernel
theorem dX12_trial_87 : decode cX12_trial 87 = .ok (.iload 4, 2) := by decide +kernel
theorem dX12_trial_89 : decode cX12_trial 89 = .ok (.iconst 2, 1) := by decide +kernel
theorem dX12_trial_90 : decode cX12_trial 90 = .ok (.iadd, 1) := by decide +kernel
theorem dX12_trial_91 : decode cX12_trial 91 = .ok (.iload_n 3, 1) := by decide +kernel
theorem dX12_trial_92 : decode cX12_trial 92 = .ok (.ifCond .eq 7, 3) := by decide +kernel
theorem dX12_trial_95 : decode cX12_trial 95 = .ok (.iconst 1, 1) := by decide +kernel
theorem dX12_trial_96 : decode cX12_trial 96 = .ok (.goto 4, 3) := by decide +kernel
theorem dX12_trial_99 : decode cX12_trial 99 = .ok (.iconst 0, 1) := by decide +kernel
theorem dX12_trial_100 : decode cX12_trial 100 = .ok (.iastore, 1) := by decide +kernel
theorem dX12_trial_101 : decode cX12_trial 101 = .ok (.aload_n 0, 1) := by decide +kernel
theorem dX12_trial_102 : decode cX12_trial 102 = .ok (.getfield 39, 3) := by decide +kernel
theorem dX12_trial_105 : decode cX12_trial 105 = .ok (.bipush 122, 2) := by decide +kernel
theorem dX12_trial_107 : decode cX12_trial 107 = .ok (.dup2, 1) := by decide +kernel
theorem dX12_trial_108 : decode cX12_trial 108 = .ok (.iaload, 1) := by decide +kernel
theorem dX12_trial_109 : decode cX12_trial 109 = .ok (.iconst 1, 1) := by decide +kernel
theorem dX12_trial_110 : decode cX12_trial 110 = .ok (.iadd, 1) := by decide +kernel
theorem dX12_trial_111 : decode cX12_trial 111 = .ok (.iastore, 1) := by decide +kernel
theorem dX12_trial_112 : decode cX12_trial 112 = .ok (.aload_n 0, 1) := by decide +kernel
theorem dX12_trial_113 : decode cX12_trial 113 = .ok (.getfield 39, 3) := by decide +kernel
theorem dX12_trial_116 : decode cX12_trial 116 = .ok (.bipush 122, 2) := by decide +kernel
theorem dX12_trial_118 : decode cX12_trial 118 = .ok (.iaload, 1) := by decide +kernel
theorem dX12_trial_119 : decode cX12_trial 119 = .ok (.ireturn, 1) := by decide +kernel
set_option maxHeartbeats 4000000 in
set_option maxRecDepth 100000 in
theorem c_X12_trial (l : Launch) (D : va_G) (cs : Nat → ClassId) (kK kV : Nat → Nat) (a : Nat) (p0 : Int32) (p1 : Int32) (p2 : Int32) (a_said : Nat) (a_said_c : Nat → Int32) (a_tape : Nat) (a__taped : Int32) (a__rules : Int32) (a_sign : Nat) (a_length : Nat) (a_clause : Nat) (a_clauses : Nat) (a_read : Nat) (a__next : Int32) (a__wrong : Int32) (a__number : Int32) (a__text : Int32) (a__made : Int32) (a__deep : Int32) (a__lines : Int32) (a_open : Nat) (a__opened : Int32) (a_stack : Nat) (a__top : Int32) (a_word : Nat) (a__x : Int32) (a_worth : Nat) (a_mate : Nat) (a_wasSaid : Nat) (a__undone : Int32) (a__boughtNow : Int32) (a_wayBy : Nat) (a_wayThen : Nat) (a__walkMost : Int32) (a__walkGoing : Int32) (a__walkSet : Int32) (a_kept : Nat) (a__drawX : Int64) (a_images : Nat) (a_imageX : Nat) (a_isMade : Nat) (h_p2 : IV 0 1 p2) (h_a__taped : IV 0 400 a__taped) (h_a__rules : IV 0 6 a__rules) (h_a__next : IV 0 400 a__next) (h_a__text : IV 0 6 a__text) (h_a__made : IV 0 60 a__made) (h_a__lines : IV 0 40 a__lines) (h_a__opened : IV 0 400 a__opened) (h_a__top : IV 0 64 a__top) (h_a__x : IV 0 2147483647 a__x) (h_a__undone : IV 0 20 a__undone) (hf0 : BS a_said_c 200) (hf1 : TR a_said_c) (hf2 : (a_said_c 3).toInt ≤ 99) (sz : Nat) : Met l yX12_trial (hz_w yX12_trial cX12_trial 5 (some .int)) ({ frames := 1, cells := 0, slots := 0, locals := 21 }) (va_Pc [.ref a, .int p0, .int p1, .int p2] (hz_C D cs kK kV sz [(a_said, .inl (cs 0, 123, .inl a_said_c)), (a, .inr (12, [.ref a_tape, .int a__taped, .int a__rules, .ref a_sign, .ref a_length, .ref a_clause, .ref a_clauses, .ref a_read, .int a__next, .int a__wrong, .int a__number, .int a__text, .int a__made, .int a__deep, .int a__lines, .ref a_open, .int a__opened, .ref a_stack, .int a__top, .ref a_word, .ref a_said, .int a__x, .ref a_worth, .ref a_mate, .ref a_wasSaid, .int a__undone, .int a__boughtNow, .ref a_wayBy, .ref a_wayThen, .int a__walkMost, .int a__walkGoing, .int a__walkSet, .ref a_kept, .long a__drawX, .ref a_images, .ref a_imageX, .ref a_isMade]))])) (va_Qi (fun (r : Int32) (u : (Nat → Int32) × (Nat → Nat → Int32)) => (r = (-2) ∧ IV (-2147483648) 2147483647 p0 ∧ (BS (u.2 0) 200) ∧ (TR (u.2 0)) ∧ (((u.2 0) 3).toInt ≤ 99)) ∨ (r = 0 ∧ IV (-1) (-1) p0 ∧ (BS (u.2 0) 200) ∧ (TR (u.2 0)) ∧ (((u.2 0) 3).toInt ≤ 99)) ∨ (IV 0 11 p0 ∧ IV 0 11 p1 ∧ (BS (u.2 0) 200) ∧ (TR (u.2 0)) ∧ (((u.2 0) 3).toInt ≤ 99))) (fun u t => va_P D classes [(a_said, .inl (cs 0, 123, .inl (u.2 0))), (a, .inr (12, [.ref a_tape, .int a__taped, .int a__rules, .ref a_sign, .ref a_length, .ref a_clause, .ref a_clauses, .ref a_read, .int a__next, .int a__wrong, .int a__number, .int a__text, .int a__made, .int a__deep, .int a__lines, .ref a_open, .int a__opened, .ref a_stack, .int a__top, .ref a_word, .ref a_said, .int a__x, .ref a_worth, .ref a_mate, .ref a_wasSaid, .int a__undone, .int a__boughtNow, .ref a_wayBy, .ref a_wayThen, .int a__walkMost, .int a__walkGoing, .int a__walkSet, .ref a_kept, .long a__drawX, .ref a_images, .ref a_imageX, .ref a_isMade]))] t.heap ∧ va_D (va_A [(a_said, .inl (cs 0, 123, .inl a_said_c)), (a, .inr (12, [.ref a_tape, .int a__taped, .int a__rules, .ref a_sign, .ref a_length, .ref a_clause, .ref a_clauses, .ref a_read, .int a__next, .int a__wrong, .int a__number, .int a__text, .int a__made, .int a__deep, .int a__lines, .ref a_open, .int a__opened, .ref a_stack, .int a__top, .ref a_word, .ref a_said, .int a__x, .ref a_worth, .ref a_mate, .ref a_wasSaid, .int a__undone, .int a__boughtNow, .ref a_wayBy, .ref a_wayThen, .int a__walkMost, .int a__walkGoing, .int a__walkSet, .ref a_kept, .long a__drawX, .ref a_images, .ref a_imageX, .ref a_isMade]))] sz) [(a_said, .inl (cs 0, 123, .inl (u.2 0))), (a, .inr (12, [.ref a_tape, .int a__taped, .int a__rules, .ref a_sign, .ref a_length, .ref a_clause, .ref a_clauses, .ref a_read, .int a__next, .int a__wrong, .int a__number, .int a__text, .int a__made, .int a__deep, .int a__lines, .ref a_open, .int a__opened, .ref a_stack, .int a__top, .ref a_word, .ref a_said, .int a__x, .ref a_worth, .ref a_mate, .ref a_wasSaid, .int a__undone, .int a__boughtNow, .ref a_wayBy, .ref a_wayThen, .int a__walkMost, .int a__walkGoing, .int a__walkSet, .ref a_kept, .long a__drawX, .ref a_images, .ref a_imageX, .ref a_isMade]))]) (va_A [(a_said, .inl (cs 0, 123, .inl a_said_c)), (a, .inr (12, [.ref a_tape, .int a__taped, .int a__rules, .ref a_sign, .ref a_length, .ref a_clause, .ref a_clauses, .ref a_read, .int a__next, .int a__wrong, .int a__number, .int a__text, .int a__made, .int a__deep, .int a__lines, .ref a_open, .int a__opened, .ref a_stack, .int a__top, .ref a_word, .ref a_said, .int a__x, .ref a_worth, .ref a_mate, .ref a_wasSaid, .int a__undone, .int a__boughtNow, .ref a_wayBy, .ref a_wayThen, .int a__walkMost, .int a__walkGoing, .int a__walkSet, .ref a_kept, .long a__drawX, .ref a_images, .ref a_imageX, .ref a_isMade]))] sz)) 0 0 (va_A [(a_said, .inl (cs 0, 123, .inl a_said_c)), (a, .inr (12, [.ref a_tape, .int a__taped, .int a__rules, .ref a_sign, .ref a_length, .ref a_clause, .ref a_clauses, .ref a_read, .int a__next, .int a__wrong, .int a__number, .int a__text, .int a__made, .int a__deep, .int a__lines, .ref a_open, .int a__opened, .ref a_stack, .int a__top, .ref a_word, .ref a_said, .int a__x, .ref a_worth, .ref a_mate, .ref a_wasSaid, .int a__undone, .int a__boughtNow, .ref a_wayBy, .ref a_wayThen, .int a__walkMost, .int a__walkGoing, .int a__walkSet, .ref a_kept, .long a__drawX, .ref a_images, .ref a_imageX, .ref a_isMade]))] sz) := by
  refine Met.ofW (cc := cX12_trial) (maxL := 5) (ret := (some .int)) (by decide) rfl ?_
  intro p e s m args below meth c s₁ B hml hv
  obtain ⟨rfl, hsz, hP, hD0, hE⟩ := hv
  have hx := B.exec
  have hb := B.bytes
  have hr := B.returns
  have hT : ∀ w ∈ TB, w.before _ s = true := fun w h => atoms_spec (ws := hz_w yX12_trial cX12_trial 5 (some .int)) B.pre w (List.mem_cons_of_mem _ h)
  have hown : s.vm.findClass RX12 = some m.cls := findClass_of_methodNamed B.named
  have hlocks := B.notSynchronized
  clear B
  subst hsz
  have hD := hD0.self (sz := s.heap.size)
  generalize hAe : va_A [(a_said, .inl (cs 0, 123, .inl a_said_c)), (a, .inr (12, [.ref a_tape, .int a__taped, .int a__rules, .ref a_sign, .ref a_length, .ref a_clause, .ref a_clauses, .ref a_read, .int a__next, .int a__wrong, .int a__number, .int a__text, .int a__made, .int a__deep, .int a__lines, .ref a_open, .int a__opened, .ref a_stack, .int a__top, .ref a_word, .ref a_said, .int a__x, .ref a_worth, .ref a_mate, .ref a_wasSaid, .int a__undone, .int a__boughtNow, .ref a_wayBy, .ref a_wayThen, .int a__walkMost, .int a__walkGoing, .int a__walkSet, .ref a_kept, .long a__drawX, .ref a_images, .ref a_imageX, .ref a_isMade]))] s.heap.size = A at hD hE ⊢
  have hA : ∀ q : Nat, s.heap.size ≤ q → A q := fun q h => by rw [← hAe]; exact Or.inr h
  clear hAe hD0
  have hS : va_S A s.heap s.heap [] := va_S.rf
  have hK := hE.1
  have hl := lv_entry ([.ref a, .int p0, .int p1, .int p2]) (n := 5) (Nat.le_of_ble_eq_true rfl)
  rw [lg_entry_eq]
  generalize (lg_sl ([.ref a, .int p0, .int p1, .int p2]) ++ List.replicate (5 - (lg_sl ([.ref a, .int p0, .int p1, .int p2])).length) Slot.unset).toArray = ls at hl ⊢
  have hl : lv_has ls 5 [(0, .ref a), (1, .int p0), (2, .int p1), (3, .int p2)] := hl
  obtain ⟨H, eH⟩ : ∃ z, z = s.heap := ⟨_, rfl⟩
  have hP : va_P D classes [(a_said, .inl (cs 0, 123, .inl a_said_c)), (a, .inr (12, [.ref a_tape, .int a__taped, .int a__rules, .ref a_sign, .ref a_length, .ref a_clause, .ref a_clauses, .ref a_read, .int a__next, .int a__wrong, .int a__number, .int a__text, .int a__made, .int a__deep, .int a__lines, .ref a_open, .int a__opened, .ref a_stack, .int a__top, .ref a_word, .ref a_said, .int a__x, .ref a_worth, .ref a_mate, .ref a_wasSaid, .int a__undone, .int a__boughtNow, .ref a_wayBy, .ref a_wayThen, .int a__walkMost, .int a__walkGoing, .int a__walkSet, .ref a_kept, .long a__drawX, .ref a_images, .ref a_imageX, .ref a_isMade]))] H := by rw [eH]; exact hP
  have hS : va_S A s.heap H [] := by rw [eH]; exact hS
  rw [← eH]
  clear eH
  obtain ⟨locs, el⟩ : ∃ z : List Loc, z = [] := ⟨_, rfl⟩
  rw [← el] at hS ⊢
  clear el
  have z0 : (0 : Int32).toInt = 0 := by decide
  have z1 : (1 : Int32).toInt = 1 := by decide
  have zm1 : (-1 : Int32).toInt = -1 := by decide
  have i_a__lines : 0 ≤ a__lines.toInt ∧ a__lines.toInt ≤ 40 := h_a__lines
  have i_a__made : 0 ≤ a__made.toInt ∧ a__made.toInt ≤ 60 := h_a__made
  have i_a__next : 0 ≤ a__next.toInt ∧ a__next.toInt ≤ 400 := h_a__next
  have i_a__opened : 0 ≤ a__opened.toInt ∧ a__opened.toInt ≤ 400 := h_a__opened
  have i_a__rules : 0 ≤ a__rules.toInt ∧ a__rules.toInt ≤ 6 := h_a__rules
  have i_a__taped : 0 ≤ a__taped.toInt ∧ a__taped.toInt ≤ 400 := h_a__taped
  have i_a__text : 0 ≤ a__text.toInt ∧ a__text.toInt ≤ 6 := h_a__text
  have i_a__top : 0 ≤ a__top.toInt ∧ a__top.toInt ≤ 64 := h_a__top
  have i_a__undone : 0 ≤ a__undone.toInt ∧ a__undone.toInt ≤ 20 := h_a__undone
  have i_a__x : 0 ≤ a__x.toInt ∧ a__x.toInt ≤ 2147483647 := h_a__x
  have i_p2 : 0 ≤ p2.toInt ∧ p2.toInt ≤ 1 := h_p2
  refine lv_iload_n hx hb dX12_trial_0 rfl (lv_at hl 1 rfl) ?_
  refine lv_iconst (v := (-1)) hx hb dX12_trial_1 (by decide) ?_
  refine lv_icmp_ne (tgt := 15) hx hb dX12_trial_2 (by decide) (fun c1 => ?_) (fun c1 => ?_)
  · have t2 : p0.toInt ≠ (-1) := lin_ne c1 rfl (by decide)
    refine lv_aload_n hx hb dX12_trial_15 rfl (lv_at hl 0 rfl) ?_
    refine lv_iload_n hx hb dX12_trial_16 rfl (lv_at hl 1 rfl) ?_
    refine va_calli (va_runV (As := [.int p0]) (rest := []) ⟨hx, hb, hml, hown, hT⟩ (c_X12_isHalf l D cs kK kV a p0 a_said a_said_c a_tape a__taped a__rules a_sign a_length a_clause a_clauses a_read a__next a__wrong a__number a__text a__made a__deep a__lines a_open a__opened a_stack a__top a_word a__x a_worth a_mate a_wasSaid a__undone a__boughtNow a_wayBy a_wayThen a__walkMost a__walkGoing a__walkSet a_kept a__drawX a_images a_imageX a_isMade h_a__taped h_a__rules h_a__next h_a__text h_a__made h_a__lines h_a__opened h_a__top h_a__x h_a__undone hf0) (cwV 1 hT (hz_gV q_1148 q_1149 q_1150 q_701 q_1151) rfl rfl rfl (by decide +kernel) ⟨(Nat.le_of_ble_eq_true rfl), (Nat.le_of_ble_eq_true rfl)⟩) ⟨hz_P.blind, va_recv hK hP (ci := 12) (q0 := 1) rfl rfl, hz_P.mk (hP.sub (ws' := [(a_said, .inl (cs 0, 123, .inl a_said_c)), (a, .inr (12, [.ref a_tape, .int a__taped, .int a__rules, .ref a_sign, .ref a_length, .ref a_clause, .ref a_clauses, .ref a_read, .int a__next, .int a__wrong, .int a__number, .int a__text, .int a__made, .int a__deep, .int a__lines, .ref a_open, .int a__opened, .ref a_stack, .int a__top, .ref a_word, .ref a_said, .int a__x, .ref a_worth, .ref a_mate, .ref a_wasSaid, .int a__undone, .int a__boughtNow, .ref a_wayBy, .ref a_wayThen, .int a__walkMost, .int a__walkGoing, .int a__walkSet, .ref a_kept, .long a__drawX, .ref a_images, .ref a_imageX, .ref a_isMade]))]) [0,1] rfl) hE hS⟩ rfl rfl hl.1 rfl (lv_room (Nat.le_of_ble_eq_true rfl)) dX12_trial_17 ⟨(Nat.le_of_ble_eq_true rfl), (Nat.le_of_ble_eq_true rfl)⟩) hS (fun _ _ h => h.elim) (fun _ h => h.elim) (fun r3 u t H1 locs ht hvm hw hB hz1 hk1 hS => ?_)
    have hP := hz_keep hP hk1
    clear hk1 hB hz1
    generalize H1 = H at hP hS ⊢
    rcases hw with ⟨rfl, h4⟩ | ⟨rfl, h5, x6, x7⟩
    · have ii8 : (-2147483648) ≤ p0.toInt ∧ p0.toInt ≤ 2147483647 := h4
      refine lv_if_eq (tgt := 48) hx hb dX12_trial_20 (by decide) (fun _ => ?_) (fun z => absurd (by decide) z)
      refine lv_bipush (v := (-2)) hx hb dX12_trial_48 (by decide) ?_
      refine W.widen (k := 0) (n := 0) (Nat.le_of_ble_eq_true rfl) (Nat.le_of_ble_eq_true rfl) ?_
      exact W.iret (v := (-2)) hx hb hr (fun t ht hW => ⟨⟨(-2), (fun k => match k with | 0 => 0 | _ => 0, fun k => match k with | 0 => a_said_c | _ => fun _ => 0), rfl, (Or.inl (⟨rfl, h4, hf0, hf1, hf2⟩)), by rw [ht]; exact hP.sub [0, 1] rfl, hD.sub [0, 1] (by decide) rfl⟩, hS.F ht⟩) hS.2.2 dX12_trial_50
    · have ii9 : 0 ≤ p0.toInt ∧ p0.toInt ≤ 11 := h5
      refine lv_if_eq (tgt := 48) hx hb dX12_trial_20 (by decide) (fun z => absurd z (by decide)) (fun _ => ?_)
      refine lv_aload_n hx hb dX12_trial_23 rfl (lv_at hl 0 rfl) ?_
      refine lv_iload_n hx hb dX12_trial_24 rfl (lv_at hl 2 rfl) ?_
      refine va_calli (va_runV (As := [.int p1]) (rest := []) ⟨hx, hb, hml, hown, hT⟩ (c_X12_isHalf l D cs kK kV a p1 a_said a_said_c a_tape a__taped a__rules a_sign a_length a_clause a_clauses a_read a__next a__wrong a__number a__text a__made a__deep a__lines a_open a__opened a_stack a__top a_word a__x a_worth a_mate a_wasSaid a__undone a__boughtNow a_wayBy a_wayThen a__walkMost a__walkGoing a__walkSet a_kept a__drawX a_images a_imageX a_isMade h_a__taped h_a__rules h_a__next h_a__text h_a__made h_a__lines h_a__opened h_a__top h_a__x h_a__undone hf0) (cwV 1 hT (hz_gV q_1148 q_1149 q_1150 q_701 q_1151) rfl rfl rfl (by decide +kernel) ⟨(Nat.le_of_ble_eq_true rfl), (Nat.le_of_ble_eq_true rfl)⟩) ⟨hz_P.blind, va_recv hK hP (ci := 12) (q0 := 1) rfl rfl, hz_P.mk (hP.sub (ws' := [(a_said, .inl (cs 0, 123, .inl a_said_c)), (a, .inr (12, [.ref a_tape, .int a__taped, .int a__rules, .ref a_sign, .ref a_length, .ref a_clause, .ref a_clauses, .ref a_read, .int a__next, .int a__wrong, .int a__number, .int a__text, .int a__made, .int a__deep, .int a__lines, .ref a_open, .int a__opened, .ref a_stack, .int a__top, .ref a_word, .ref a_said, .int a__x, .ref a_worth, .ref a_mate, .ref a_wasSaid, .int a__undone, .int a__boughtNow, .ref a_wayBy, .ref a_wayThen, .int a__walkMost, .int a__walkGoing, .int a__walkSet, .ref a_kept, .long a__drawX, .ref a_images, .ref a_imageX, .ref a_isMade]))]) [0,1] rfl) hE hS⟩ rfl rfl hl.1 rfl (lv_room (Nat.le_of_ble_eq_true rfl)) dX12_trial_25 ⟨(Nat.le_of_ble_eq_true rfl), (Nat.le_of_ble_eq_true rfl)⟩) hS (fun _ _ h => h.elim) (fun _ h => h.elim) (fun r10 u t H1 locs ht hvm hw hB hz1 hk1 hS => ?_)
      have hP := hz_keep hP hk1
      clear hk1 hB hz1
      generalize H1 = H at hP hS ⊢
      rcases hw with ⟨rfl, h11⟩ | ⟨rfl, h12, x13, x14⟩
      · have ii15 : (-2147483648) ≤ p1.toInt ∧ p1.toInt ≤ 2147483647 := h11
        refine lv_if_eq (tgt := 48) hx hb dX12_trial_28 (by decide) (fun _ => ?_) (fun z => absurd (by decide) z)
        refine lv_bipush (v := (-2)) hx hb dX12_trial_48 (by decide) ?_
        refine W.widen (k := 0) (n := 0) (Nat.le_of_ble_eq_true rfl) (Nat.le_of_ble_eq_true rfl) ?_
        exact W.iret (v := (-2)) hx hb hr (fun t ht hW => ⟨⟨(-2), (fun k => match k with | 0 => 0 | _ => 0, fun k => match k with | 0 => a_said_c | _ => fun _ => 0), rfl, (Or.inl (⟨rfl, (iv_w h5 (by decide) (by decide)), hf0, hf1, hf2⟩)), by rw [ht]; exact hP.sub [0, 1] rfl, hD.sub [0, 1] (by decide) rfl⟩, hS.F ht⟩) hS.2.2 dX12_trial_50
      · have ii16 : 0 ≤ p1.toInt ∧ p1.toInt ≤ 11 := h12
        refine lv_if_eq (tgt := 48) hx hb dX12_trial_28 (by decide) (fun z => absurd z (by decide)) (fun _ => ?_)
        refine lv_iload_n hx hb dX12_trial_31 rfl (lv_at hl 1 rfl) ?_
        refine lv_iload_n hx hb dX12_trial_32 rfl (lv_at hl 2 rfl) ?_
        refine lv_icmp_eq (tgt := 48) hx hb dX12_trial_33 (by decide) (fun c17 => ?_) (fun c17 => ?_)
        · have t18 : p0.toInt = p1.toInt := lin_eq c17 rfl rfl
          refine lv_bipush (v := (-2)) hx hb dX12_trial_48 (by decide) ?_
          refine W.widen (k := 0) (n := 0) (Nat.le_of_ble_eq_true rfl) (Nat.le_of_ble_eq_true rfl) ?_
          exact W.iret (v := (-2)) hx hb hr (fun t ht hW => ⟨⟨(-2), (fun k => match k with | 0 => 0 | _ => 0, fun k => match k with | 0 => a_said_c | _ => fun _ => 0), rfl, (Or.inl (⟨rfl, (iv_w h5 (by decide) (by decide)), hf0, hf1, hf2⟩)), by rw [ht]; exact hP.sub [0, 1] rfl, hD.sub [0, 1] (by decide) rfl⟩, hS.F ht⟩) hS.2.2 dX12_trial_50
        · have t19 : p0.toInt ≠ p1.toInt := lin_ne c17 rfl rfl
          refine lv_aload_n hx hb dX12_trial_36 rfl (lv_at hl 0 rfl) ?_
          refine va_get (D := D) (ci := 12) (v := .ref a_said) (C := RX12) (T := TX12) (N := 37) hx hb hT i_X12 hown hK hP 1 rfl rfl 20 (by decide) (hT _ q_185) (fun _ h9 => h9) rfl dX12_trial_37 ?_
          refine lv_bipush (v := 122) hx hb dX12_trial_40 (by decide) ?_
          refine va_iald hx hb hK hP 0 0 rfl rfl (iv_vc (by decide)) dX12_trial_42 ?_
          refine lv_topi (fun v20 ev20 => ?_)
          have lv20 : v20.toInt = (a_said_c 122).toInt := by rw [ev20]; rfl
          have h21 : IV 0 12 v20 := (by rw [ev20]; exact hf1.1)
          have ii22 : 0 ≤ v20.toInt ∧ v20.toInt ≤ 12 := h21
          refine lv_bipush (v := 12) hx hb dX12_trial_43 (by decide) ?_
          refine lv_icmp_ne (tgt := 51) hx hb dX12_trial_45 (by decide) (fun c23 => ?_) (fun c23 => ?_)
          · have t24 : v20.toInt ≠ 12 := lin_ne c23 rfl (by decide)
            have h25 : IV 0 11 v20 := iv_neR c23 h21 (by decide)
            have ii26 : 0 ≤ v20.toInt ∧ v20.toInt ≤ 11 := h25
            refine lv_bipush (v := 86) hx hb dX12_trial_51 (by decide) ?_
            refine lv_iconst (v := 3) hx hb dX12_trial_53 (by decide) ?_
            refine lv_aload_n hx hb dX12_trial_54 rfl (lv_at hl 0 rfl) ?_
            refine va_get (D := D) (ci := 12) (v := .ref a_said) (C := RX12) (T := TX12) (N := 37) hx hb hT i_X12 hown hK hP 1 rfl rfl 20 (by decide) (hT _ q_185) (fun _ h9 => h9) rfl dX12_trial_55 ?_
            refine lv_bipush (v := 122) hx hb dX12_trial_58 (by decide) ?_
            refine va_iald hx hb hK hP 0 0 rfl rfl (iv_vc (by decide)) dX12_trial_60 ?_
            refine hz_ev v20 ev20.symm ?_
            refine lv_imul hx hb dX12_trial_61 ?_
            refine lv_topi (fun v27 ev27 => ?_)
            have hv27 : IV 0 33 v27 := iv_mul ev27 (iv_c (a := 3) (b := 3) (by decide)) h25 (by decide) (by decide) (by decide) (by decide)
            have ii28 : 0 ≤ v27.toInt ∧ v27.toInt ≤ 33 := hv27
            have lv27 : v27.toInt = 3 * v20.toInt := lin_mul ev27 (iv_c (a := 3) (b := 3) (by decide)) h25 (by decide) rfl (by decide) (by decide) (by decide) (by decide)
            refine lv_iadd hx hb dX12_trial_62 ?_
            refine lv_topi (fun v29 ev29 => ?_)
            have hv29 : IV 86 119 v29 := iv_add ev29 (iv_c (a := 86) (b := 86) (by decide)) hv27 (by decide) (by decide)
            have ii30 : 86 ≤ v29.toInt ∧ v29.toInt ≤ 119 := hv29
            have lv29 : v29.toInt = 86 + v27.toInt := lin_add ev29 (iv_c (a := 86) (b := 86) (by decide)) hv27 (by decide) rfl (by decide) (by decide)
            refine lv_istore (lv' := [(4, .int v29), (0, .ref a), (1, .int p0), (2, .int p1), (3, .int p2)]) hx hb dX12_trial_63 hl (by decide) rfl (fun ls hl => ?_)
            refine lv_aload_n hx hb dX12_trial_65 rfl (lv_at hl 1 rfl) ?_
            refine va_get (D := D) (ci := 12) (v := .ref a_said) (C := RX12) (T := TX12) (N := 37) hx hb hT i_X12 hown hK hP 1 rfl rfl 20 (by decide) (hT _ q_185) (fun _ h9 => h9) rfl dX12_trial_66 ?_
            refine lv_iload hx hb dX12_trial_69 (lv_at hl 0 rfl) ?_
            refine lv_iload_n hx hb dX12_trial_71 rfl (lv_at hl 2 rfl) ?_
            refine va_iast hx hb hK hP hD hS 0 0 rfl rfl (iv_v hv29 (by decide) (by decide)) dX12_trial_72 (fun H locs hP hD hS => ?_)
            have hP : va_P D classes [(a_said, .inl (cs 0, 123, .inl (upd a_said_c (Int32.toNatClampNeg v29) p0))), (a, .inr (12, [.ref a_tape, .int a__taped, .int a__rules, .ref a_sign, .ref a_length, .ref a_clause, .ref a_clauses, .ref a_read, .int a__next, .int a__wrong, .int a__number, .int a__text, .int a__made, .int a__deep, .int a__lines, .ref a_open, .int a__opened, .ref a_stack, .int a__top, .ref a_word, .ref a_said, .int a__x, .ref a_worth, .ref a_mate, .ref a_wasSaid, .int a__undone, .int a__boughtNow, .ref a_wayBy, .ref a_wayThen, .int a__walkMost, .int a__walkGoing, .int a__walkSet, .ref a_kept, .long a__drawX, .ref a_images, .ref a_imageX, .ref a_isMade]))] H := hP
            have hD : va_D A [(a_said, .inl (cs 0, 123, .inl (upd a_said_c (Int32.toNatClampNeg v29) p0))), (a, .inr (12, [.ref a_tape, .int a__taped, .int a__rules, .ref a_sign, .ref a_length, .ref a_clause, .ref a_clauses, .ref a_read, .int a__next, .int a__wrong, .int a__number, .int a__text, .int a__made, .int a__deep, .int a__lines, .ref a_open, .int a__opened, .ref a_stack, .int a__top, .ref a_word, .ref a_said, .int a__x, .ref a_worth, .ref a_mate, .ref a_wasSaid, .int a__undone, .int a__boughtNow, .ref a_wayBy, .ref a_wayThen, .int a__walkMost, .int a__walkGoing, .int a__walkSet, .ref a_kept, .long a__drawX, .ref a_images, .ref a_imageX, .ref a_isMade]))] := hD
            obtain ⟨f31, uf31⟩ : ∃ z, z = upd a_said_c (Int32.toNatClampNeg v29) p0 := ⟨_, rfl⟩
            rw [← uf31] at hP hD
            have wf31 : (f31 (Int32.toNatClampNeg v29)).toInt = p0.toInt := lin_us uf31 rfl
            have kk32 : (f31 0).toInt = (a_said_c 0).toInt := congrArg Int32.toInt (by rw [uf31, pk_un (show 0 ≠ Int32.toNatClampNeg v29 from by (have q : Int32.toNatClampNeg v29 = v29.toInt.toNat := rfl); omega)])
            have kk33 : (f31 1).toInt = (a_said_c 1).toInt := congrArg Int32.toInt (by rw [uf31, pk_un (show 1 ≠ Int32.toNatClampNeg v29 from by (have q : Int32.toNatClampNeg v29 = v29.toInt.toNat := rfl); omega)])
            have kk34 : (f31 2).toInt = (a_said_c 2).toInt := congrArg Int32.toInt (by rw [uf31, pk_un (show 2 ≠ Int32.toNatClampNeg v29 from by (have q : Int32.toNatClampNeg v29 = v29.toInt.toNat := rfl); omega)])
            have kk35 : (f31 3).toInt = (a_said_c 3).toInt := congrArg Int32.toInt (by rw [uf31, pk_un (show 3 ≠ Int32.toNatClampNeg v29 from by (have q : Int32.toNatClampNeg v29 = v29.toInt.toNat := rfl); omega)])
            have fb36 : BS f31 200 := (bs_upd hf0 uf31 (show Int32.toNatClampNeg v29 ≠ 0 ∧ Int32.toNatClampNeg v29 ≠ 1 ∧ Int32.toNatClampNeg v29 ≠ 2 ∧ Int32.toNatClampNeg v29 ≠ 3 ∧ Int32.toNatClampNeg v29 ≠ 4 ∧ Int32.toNatClampNeg v29 ≠ 71 ∧ Int32.toNatClampNeg v29 ≠ 75 ∧ Int32.toNatClampNeg v29 ≠ 79 ∧ Int32.toNatClampNeg v29 ≠ 83 from by (have q : Int32.toNatClampNeg v29 = v29.toInt.toNat := rfl); omega))
            have fa37 : TR f31 := (tr_a hf1 uf31 ⟨by omega, by omega⟩)
            refine lv_aload_n hx hb dX12_trial_73 rfl (lv_at hl 1 rfl) ?_
            refine va_get (D := D) (ci := 12) (v := .ref a_said) (C := RX12) (T := TX12) (N := 37) hx hb hT i_X12 hown hK hP 1 rfl rfl 20 (by decide) (hT _ q_185) (fun _ h9 => h9) rfl dX12_trial_74 ?_
            refine lv_iload hx hb dX12_trial_77 (lv_at hl 0 rfl) ?_
            refine lv_iconst (v := 1) hx hb dX12_trial_79 (by decide) ?_
            refine lv_iadd hx hb dX12_trial_80 ?_
            refine lv_topi (fun v38 ev38 => ?_)
            have hv38 : IV 87 120 v38 := iv_add ev38 hv29 (iv_c (a := 1) (b := 1) (by decide)) (by decide) (by decide)
            have ii39 : 87 ≤ v38.toInt ∧ v38.toInt ≤ 120 := hv38
            have dv38 : v38.toInt = v29.toInt + 1 := iv_addE ev38 hv29 (iv_c (a := 1) (b := 1) (by decide)) (by decide) (by decide) (by decide)
            have lv38 : v38.toInt = v29.toInt + 1 := lin_add ev38 hv29 (iv_c (a := 1) (b := 1) (by decide)) rfl (by decide) (by decide) (by decide)
            refine lv_iload_n hx hb dX12_trial_81 rfl (lv_at hl 3 rfl) ?_
            refine va_iast hx hb hK hP hD hS 0 0 rfl rfl (iv_v hv38 (by decide) (by decide)) dX12_trial_82 (fun H locs hP hD hS => ?_)
            have hP : va_P D classes [(a_said, .inl (cs 0, 123, .inl (upd f31 (Int32.toNatClampNeg v38) p1))), (a, .inr (12, [.ref a_tape, .int a__taped, .int a__rules, .ref a_sign, .ref a_length, .ref a_clause, .ref a_clauses, .ref a_read, .int a__next, .int a__wrong, .int a__number, .int a__text, .int a__made, .int a__deep, .int a__lines, .ref a_open, .int a__opened, .ref a_stack, .int a__top, .ref a_word, .ref a_said, .int a__x, .ref a_worth, .ref a_mate, .ref a_wasSaid, .int a__undone, .int a__boughtNow, .ref a_wayBy, .ref a_wayThen, .int a__walkMost, .int a__walkGoing, .int a__walkSet, .ref a_kept, .long a__drawX, .ref a_images, .ref a_imageX, .ref a_isMade]))] H := hP
            have hD : va_D A [(a_said, .inl (cs 0, 123, .inl (upd f31 (Int32.toNatClampNeg v38) p1))), (a, .inr (12, [.ref a_tape, .int a__taped, .int a__rules, .ref a_sign, .ref a_length, .ref a_clause, .ref a_clauses, .ref a_read, .int a__next, .int a__wrong, .int a__number, .int a__text, .int a__made, .int a__deep, .int a__lines, .ref a_open, .int a__opened, .ref a_stack, .int a__top, .ref a_word, .ref a_said, .int a__x, .ref a_worth, .ref a_mate, .ref a_wasSaid, .int a__undone, .int a__boughtNow, .ref a_wayBy, .ref a_wayThen, .int a__walkMost, .int a__walkGoing, .int a__walkSet, .ref a_kept, .long a__drawX, .ref a_images, .ref a_imageX, .ref a_isMade]))] := hD
            obtain ⟨f40, uf40⟩ : ∃ z, z = upd f31 (Int32.toNatClampNeg v38) p1 := ⟨_, rfl⟩
            rw [← uf40] at hP hD
            have wf40 : (f40 (Int32.toNatClampNeg v38)).toInt = p1.toInt := lin_us uf40 rfl
            have kk41 : (f40 0).toInt = (f31 0).toInt := congrArg Int32.toInt (by rw [uf40, pk_un (show 0 ≠ Int32.toNatClampNeg v38 from by (have q : Int32.toNatClampNeg v38 = v38.toInt.toNat := rfl); omega)])
            have kk42 : (f40 1).toInt = (f31 1).toInt := congrArg Int32.toInt (by rw [uf40, pk_un (show 1 ≠ Int32.toNatClampNeg v38 from by (have q : Int32.toNatClampNeg v38 = v38.toInt.toNat := rfl); omega)])
            have kk43 : (f40 2).toInt = (f31 2).toInt := congrArg Int32.toInt (by rw [uf40, pk_un (show 2 ≠ Int32.toNatClampNeg v38 from by (have q : Int32.toNatClampNeg v38 = v38.toInt.toNat := rfl); omega)])
            have kk44 : (f40 3).toInt = (f31 3).toInt := congrArg Int32.toInt (by rw [uf40, pk_un (show 3 ≠ Int32.toNatClampNeg v38 from by (have q : Int32.toNatClampNeg v38 = v38.toInt.toNat := rfl); omega)])
            have fb45 : BS f40 200 := (bs_upd fb36 uf40 (show Int32.toNatClampNeg v38 ≠ 0 ∧ Int32.toNatClampNeg v38 ≠ 1 ∧ Int32.toNatClampNeg v38 ≠ 2 ∧ Int32.toNatClampNeg v38 ≠ 3 ∧ Int32.toNatClampNeg v38 ≠ 4 ∧ Int32.toNatClampNeg v38 ≠ 71 ∧ Int32.toNatClampNeg v38 ≠ 75 ∧ Int32.toNatClampNeg v38 ≠ 79 ∧ Int32.toNatClampNeg v38 ≠ 83 from by (have q : Int32.toNatClampNeg v38 = v38.toInt.toNat := rfl); omega))
            have fa46 : TR f40 := (tr_a fa37 uf40 ⟨by omega, by omega⟩)
            refine lv_aload_n hx hb dX12_trial_83 rfl (lv_at hl 1 rfl) ?_
            refine va_get (D := D) (ci := 12) (v := .ref a_said) (C := RX12) (T := TX12) (N := 37) hx hb hT i_X12 hown hK hP 1 rfl rfl 20 (by decide) (hT _ q_185) (fun _ h9 => h9) rfl dX12_trial_84 ?_
            refine lv_iload hx hb dX12_trial_87 (lv_at hl 0 rfl) ?_
            refine lv_iconst (v := 2) hx hb dX12_trial_89 (by decide) ?_
            refine lv_iadd hx hb dX12_trial_90 ?_
            refine lv_topi (fun v47 ev47 => ?_)
            have hv47 : IV 88 121 v47 := iv_add ev47 hv29 (iv_c (a := 2) (b := 2) (by decide)) (by decide) (by decide)
            have ii48 : 88 ≤ v47.toInt ∧ v47.toInt ≤ 121 := hv47
            have dv47 : v47.toInt = v29.toInt + 2 := iv_addE ev47 hv29 (iv_c (a := 2) (b := 2) (by decide)) (by decide) (by decide) (by decide)
            have lv47 : v47.toInt = v29.toInt + 2 := lin_add ev47 hv29 (iv_c (a := 2) (b := 2) (by decide)) rfl (by decide) (by decide) (by decide)
            refine lv_iload_n hx hb dX12_trial_91 rfl (lv_at hl 4 rfl) ?_
            refine lv_if_eq (tgt := 99) hx hb dX12_trial_92 (by decide) (fun c49 => ?_) (fun c49 => ?_)
            · have t50 : p2.toInt = 0 := lin_eq c49 rfl (by decide)
              have h51 : IV 0 0 p2 := iv_eq1 c49 h_p2 (iv_c (a := 0) (b := 0) (by decide)) (by decide) (by decide)
              have ii52 : 0 ≤ p2.toInt ∧ p2.toInt ≤ 0 := h51
              refine lv_iconst (v := 0) hx hb dX12_trial_99 (by decide) ?_
              refine va_iast hx hb hK hP hD hS 0 0 rfl rfl (iv_v hv47 (by decide) (by decide)) dX12_trial_100 (fun H locs hP hD hS => ?_)
              have hP : va_P D classes [(a_said, .inl (cs 0, 123, .inl (upd f40 (Int32.toNatClampNeg v47) (0 : Int32)))), (a, .inr (12, [.ref a_tape, .int a__taped, .int a__rules, .ref a_sign, .ref a_length, .ref a_clause, .ref a_clauses, .ref a_read, .int a__next, .int a__wrong, .int a__number, .int a__text, .int a__made, .int a__deep, .int a__lines, .ref a_open, .int a__opened, .ref a_stack, .int a__top, .ref a_word, .ref a_said, .int a__x, .ref a_worth, .ref a_mate, .ref a_wasSaid, .int a__undone, .int a__boughtNow, .ref a_wayBy, .ref a_wayThen, .int a__walkMost, .int a__walkGoing, .int a__walkSet, .ref a_kept, .long a__drawX, .ref a_images, .ref a_imageX, .ref a_isMade]))] H := hP
              have hD : va_D A [(a_said, .inl (cs 0, 123, .inl (upd f40 (Int32.toNatClampNeg v47) (0 : Int32)))), (a, .inr (12, [.ref a_tape, .int a__taped, .int a__rules, .ref a_sign, .ref a_length, .ref a_clause, .ref a_clauses, .ref a_read, .int a__next, .int a__wrong, .int a__number, .int a__text, .int a__made, .int a__deep, .int a__lines, .ref a_open, .int a__opened, .ref a_stack, .int a__top, .ref a_word, .ref a_said, .int a__x, .ref a_worth, .ref a_mate, .ref a_wasSaid, .int a__undone, .int a__boughtNow, .ref a_wayBy, .ref a_wayThen, .int a__walkMost, .int a__walkGoing, .int a__walkSet, .ref a_kept, .long a__drawX, .ref a_images, .ref a_imageX, .ref a_isMade]))] := hD
              obtain ⟨f53, uf53⟩ : ∃ z, z = upd f40 (Int32.toNatClampNeg v47) (0 : Int32) := ⟨_, rfl⟩
              rw [← uf53] at hP hD
              have wf53 : (f53 (Int32.toNatClampNeg v47)).toInt = 0 := lin_us uf53 (by decide)
              have kk54 : (f53 0).toInt = (f40 0).toInt := congrArg Int32.toInt (by rw [uf53, pk_un (show 0 ≠ Int32.toNatClampNeg v47 from by (have q : Int32.toNatClampNeg v47 = v47.toInt.toNat := rfl); omega)])
              have kk55 : (f53 1).toInt = (f40 1).toInt := congrArg Int32.toInt (by rw [uf53, pk_un (show 1 ≠ Int32.toNatClampNeg v47 from by (have q : Int32.toNatClampNeg v47 = v47.toInt.toNat := rfl); omega)])
              have kk56 : (f53 2).toInt = (f40 2).toInt := congrArg Int32.toInt (by rw [uf53, pk_un (show 2 ≠ Int32.toNatClampNeg v47 from by (have q : Int32.toNatClampNeg v47 = v47.toInt.toNat := rfl); omega)])
              have kk57 : (f53 3).toInt = (f40 3).toInt := congrArg Int32.toInt (by rw [uf53, pk_un (show 3 ≠ Int32.toNatClampNeg v47 from by (have q : Int32.toNatClampNeg v47 = v47.toInt.toNat := rfl); omega)])
              have fb58 : BS f53 200 := (bs_upd fb45 uf53 (show Int32.toNatClampNeg v47 ≠ 0 ∧ Int32.toNatClampNeg v47 ≠ 1 ∧ Int32.toNatClampNeg v47 ≠ 2 ∧ Int32.toNatClampNeg v47 ≠ 3 ∧ Int32.toNatClampNeg v47 ≠ 4 ∧ Int32.toNatClampNeg v47 ≠ 71 ∧ Int32.toNatClampNeg v47 ≠ 75 ∧ Int32.toNatClampNeg v47 ≠ 79 ∧ Int32.toNatClampNeg v47 ≠ 83 from by (have q : Int32.toNatClampNeg v47 = v47.toInt.toNat := rfl); omega))
              have fa59 : TR f53 := (tr_a fa46 uf53 (by decide))
              have k122 : (f53 122).toInt = (a_said_c 122).toInt := congrArg Int32.toInt (by rw [uf53, pk_un (show 122 ≠ Int32.toNatClampNeg v47 from by (have q : Int32.toNatClampNeg v47 = v47.toInt.toNat := rfl; omega)), uf40, pk_un (show 122 ≠ Int32.toNatClampNeg v38 from by (have q : Int32.toNatClampNeg v38 = v38.toInt.toNat := rfl; omega)), uf31, pk_un (show 122 ≠ Int32.toNatClampNeg v29 from by (have q : Int32.toNatClampNeg v29 = v29.toInt.toNat := rfl; omega))])
              refine lv_aload_n hx hb dX12_trial_101 rfl (lv_at hl 1 rfl) ?_
              refine va_get (D := D) (ci := 12) (v := .ref a_said) (C := RX12) (T := TX12) (N := 37) hx hb hT i_X12 hown hK hP 1 rfl rfl 20 (by decide) (hT _ q_185) (fun _ h9 => h9) rfl dX12_trial_102 ?_
              refine lv_bipush (v := 122) hx hb dX12_trial_105 (by decide) ?_
              refine lv_dup2_11 hx hb dX12_trial_107 rfl rfl ?_
              refine va_iald hx hb hK hP 0 0 rfl rfl (iv_vc (by decide)) dX12_trial_108 ?_
              refine lv_topi (fun v60 ev60 => ?_)
              have lv60 : v60.toInt = (f53 122).toInt := by rw [ev60]; rfl
              have h61 : IV 0 11 v60 := ⟨by omega, by omega⟩
              have ii62 : 0 ≤ v60.toInt ∧ v60.toInt ≤ 11 := h61
              refine lv_iconst (v := 1) hx hb dX12_trial_109 (by decide) ?_
              refine lv_iadd hx hb dX12_trial_110 ?_
              refine lv_topi (fun v63 ev63 => ?_)
              have hv63 : IV 1 12 v63 := iv_add ev63 h61 (iv_c (a := 1) (b := 1) (by decide)) (by decide) (by decide)
              have ii64 : 1 ≤ v63.toInt ∧ v63.toInt ≤ 12 := hv63
              have dv63 : v63.toInt = v60.toInt + 1 := iv_addE ev63 h61 (iv_c (a := 1) (b := 1) (by decide)) (by decide) (by decide) (by decide)
              have lv63 : v63.toInt = v60.toInt + 1 := lin_add ev63 h61 (iv_c (a := 1) (b := 1) (by decide)) rfl (by decide) (by decide) (by decide)
              refine va_iast hx hb hK hP hD hS 0 0 rfl rfl (iv_vc (by decide)) dX12_trial_111 (fun H locs hP hD hS => ?_)
              have hP : va_P D classes [(a_said, .inl (cs 0, 123, .inl (upd f53 (Int32.toNatClampNeg (122 : Int32)) v63))), (a, .inr (12, [.ref a_tape, .int a__taped, .int a__rules, .ref a_sign, .ref a_length, .ref a_clause, .ref a_clauses, .ref a_read, .int a__next, .int a__wrong, .int a__number, .int a__text, .int a__made, .int a__deep, .int a__lines, .ref a_open, .int a__opened, .ref a_stack, .int a__top, .ref a_word, .ref a_said, .int a__x, .ref a_worth, .ref a_mate, .ref a_wasSaid, .int a__undone, .int a__boughtNow, .ref a_wayBy, .ref a_wayThen, .int a__walkMost, .int a__walkGoing, .int a__walkSet, .ref a_kept, .long a__drawX, .ref a_images, .ref a_imageX, .ref a_isMade]))] H := hP
              have hD : va_D A [(a_said, .inl (cs 0, 123, .inl (upd f53 (Int32.toNatClampNeg (122 : Int32)) v63))), (a, .inr (12, [.ref a_tape, .int a__taped, .int a__rules, .ref a_sign, .ref a_length, .ref a_clause, .ref a_clauses, .ref a_read, .int a__next, .int a__wrong, .int a__number, .int a__text, .int a__made, .int a__deep, .int a__lines, .ref a_open, .int a__opened, .ref a_stack, .int a__top, .ref a_word, .ref a_said, .int a__x, .ref a_worth, .ref a_mate, .ref a_wasSaid, .int a__undone, .int a__boughtNow, .ref a_wayBy, .ref a_wayThen, .int a__walkMost, .int a__walkGoing, .int a__walkSet, .ref a_kept, .long a__drawX, .ref a_images, .ref a_imageX, .ref a_isMade]))] := hD
              obtain ⟨f65, uf65⟩ : ∃ z, z = upd f53 (Int32.toNatClampNeg (122 : Int32)) v63 := ⟨_, rfl⟩
              rw [← uf65] at hP hD
              have uf65 : f65 = upd f53 122 v63 := uf65
              have wf65 : (f65 122).toInt = v63.toInt := lin_us uf65 rfl
              have kk66 : (f65 0).toInt = (f53 0).toInt := congrArg Int32.toInt (by rw [uf65, pk_un (by decide)])
              have kk67 : (f65 1).toInt = (f53 1).toInt := congrArg Int32.toInt (by rw [uf65, pk_un (by decide)])
              have kk68 : (f65 2).toInt = (f53 2).toInt := congrArg Int32.toInt (by rw [uf65, pk_un (by decide)])
              have kk69 : (f65 3).toInt = (f53 3).toInt := congrArg Int32.toInt (by rw [uf65, pk_un (by decide)])
              have fb70 : BS f65 200 := (bs_upd fb58 uf65 (by decide))
              have fa71 : TR f65 := (tr_n fa59 uf65 ⟨by omega, by omega⟩)
              refine lv_aload_n hx hb dX12_trial_112 rfl (lv_at hl 1 rfl) ?_
              refine va_get (D := D) (ci := 12) (v := .ref a_said) (C := RX12) (T := TX12) (N := 37) hx hb hT i_X12 hown hK hP 1 rfl rfl 20 (by decide) (hT _ q_185) (fun _ h9 => h9) rfl dX12_trial_113 ?_
              refine lv_bipush (v := 122) hx hb dX12_trial_116 (by decide) ?_
              refine va_iald hx hb hK hP 0 0 rfl rfl (iv_vc (by decide)) dX12_trial_118 ?_
              refine lv_topi (fun v72 ev72 => ?_)
              have lv72 : v72.toInt = (f65 122).toInt := by rw [ev72]; rfl
              refine W.widen (k := 0) (n := 0) (Nat.le_of_ble_eq_true rfl) (Nat.le_of_ble_eq_true rfl) ?_
              have g73 : (f65 3).toInt ≤ 99 := (by omega)
              exact W.iret (v := v72) hx hb hr (fun t ht hW => ⟨⟨v72, (fun k => match k with | 0 => 0 | _ => 0, fun k => match k with | 0 => f65 | _ => fun _ => 0), rfl, (Or.inr (Or.inr ((⟨h5, h12, fb70, fa71, g73⟩)))), by rw [ht]; exact hP.sub [0, 1] rfl, hD.sub [0, 1] (by decide) rfl⟩, hS.F ht⟩) hS.2.2 dX12_trial_119
            · have t74 : p2.toInt ≠ 0 := lin_ne c49 rfl (by decide)
              have h75 : IV 1 1 p2 := iv_neL c49 h_p2 (by decide)
              have ii76 : 1 ≤ p2.toInt ∧ p2.toInt ≤ 1 := h75
              refine lv_iconst (v := 1) hx hb dX12_trial_95 (by decide) ?_
              refine lv_goto (tgt := 100) hx hb dX12_trial_96 (by decide) ?_
              refine va_iast hx hb hK hP hD hS 0 0 rfl rfl (iv_v hv47 (by decide) (by decide)) dX12_trial_100 (fun H locs hP hD hS => ?_)
              have hP : va_P D classes [(a_said, .inl (cs 0, 123, .inl (upd f40 (Int32.toNatClampNeg v47) (1 : Int32)))), (a, .inr (12, [.ref a_tape, .int a__taped, .int a__rules, .ref a_sign, .ref a_length, .ref a_clause, .ref a_clauses, .ref a_read, .int a__next, .int a__wrong, .int a__number, .int a__text, .int a__made, .int a__deep, .int a__lines, .ref a_open, .int a__opened, .ref a_stack, .int a__top, .ref a_word, .ref a_said, .int a__x, .ref a_worth, .ref a_mate, .ref a_wasSaid, .int a__undone, .int a__boughtNow, .ref a_wayBy, .ref a_wayThen, .int a__walkMost, .int a__walkGoing, .int a__walkSet, .ref a_kept, .long a__drawX, .ref a_images, .ref a_imageX, .ref a_isMade]))] H := hP
              have hD : va_D A [(a_said, .inl (cs 0, 123, .inl (upd f40 (Int32.toNatClampNeg v47) (1 : Int32)))), (a, .inr (12, [.ref a_tape, .int a__taped, .int a__rules, .ref a_sign, .ref a_length, .ref a_clause, .ref a_clauses, .ref a_read, .int a__next, .int a__wrong, .int a__number, .int a__text, .int a__made, .int a__deep, .int a__lines, .ref a_open, .int a__opened, .ref a_stack, .int a__top, .ref a_word, .ref a_said, .int a__x, .ref a_worth, .ref a_mate, .ref a_wasSaid, .int a__undone, .int a__boughtNow, .ref a_wayBy, .ref a_wayThen, .int a__walkMost, .int a__walkGoing, .int a__walkSet, .ref a_kept, .long a__drawX, .ref a_images, .ref a_imageX, .ref a_isMade]))] := hD
              obtain ⟨f77, uf77⟩ : ∃ z, z = upd f40 (Int32.toNatClampNeg v47) (1 : Int32) := ⟨_, rfl⟩
              rw [← uf77] at hP hD
              have wf77 : (f77 (Int32.toNatClampNeg v47)).toInt = 1 := lin_us uf77 (by decide)
              have kk78 : (f77 0).toInt = (f40 0).toInt := congrArg Int32.toInt (by rw [uf77, pk_un (show 0 ≠ Int32.toNatClampNeg v47 from by (have q : Int32.toNatClampNeg v47 = v47.toInt.toNat := rfl); omega)])
              have kk79 : (f77 1).toInt = (f40 1).toInt := congrArg Int32.toInt (by rw [uf77, pk_un (show 1 ≠ Int32.toNatClampNeg v47 from by (have q : Int32.toNatClampNeg v47 = v47.toInt.toNat := rfl); omega)])
              have kk80 : (f77 2).toInt = (f40 2).toInt := congrArg Int32.toInt (by rw [uf77, pk_un (show 2 ≠ Int32.toNatClampNeg v47 from by (have q : Int32.toNatClampNeg v47 = v47.toInt.toNat := rfl); omega)])
              have kk81 : (f77 3).toInt = (f40 3).toInt := congrArg Int32.toInt (by rw [uf77, pk_un (show 3 ≠ Int32.toNatClampNeg v47 from by (have q : Int32.toNatClampNeg v47 = v47.toInt.toNat := rfl); omega)])
              have fb82 : BS f77 200 := (bs_upd fb45 uf77 (show Int32.toNatClampNeg v47 ≠ 0 ∧ Int32.toNatClampNeg v47 ≠ 1 ∧ Int32.toNatClampNeg v47 ≠ 2 ∧ Int32.toNatClampNeg v47 ≠ 3 ∧ Int32.toNatClampNeg v47 ≠ 4 ∧ Int32.toNatClampNeg v47 ≠ 71 ∧ Int32.toNatClampNeg v47 ≠ 75 ∧ Int32.toNatClampNeg v47 ≠ 79 ∧ Int32.toNatClampNeg v47 ≠ 83 from by (have q : Int32.toNatClampNeg v47 = v47.toInt.toNat := rfl); omega))
              have fa83 : TR f77 := (tr_a fa46 uf77 (by decide))
              have k122 : (f77 122).toInt = (a_said_c 122).toInt := congrArg Int32.toInt (by rw [uf77, pk_un (show 122 ≠ Int32.toNatClampNeg v47 from by (have q : Int32.toNatClampNeg v47 = v47.toInt.toNat := rfl; omega)), uf40, pk_un (show 122 ≠ Int32.toNatClampNeg v38 from by (have q : Int32.toNatClampNeg v38 = v38.toInt.toNat := rfl; omega)), uf31, pk_un (show 122 ≠ Int32.toNatClampNeg v29 from by (have q : Int32.toNatClampNeg v29 = v29.toInt.toNat := rfl; omega))])
              refine lv_aload_n hx hb dX12_trial_101 rfl (lv_at hl 1 rfl) ?_
              refine va_get (D := D) (ci := 12) (v := .ref a_said) (C := RX12) (T := TX12) (N := 37) hx hb hT i_X12 hown hK hP 1 rfl rfl 20 (by decide) (hT _ q_185) (fun _ h9 => h9) rfl dX12_trial_102 ?_
              refine lv_bipush (v := 122) hx hb dX12_trial_105 (by decide) ?_
              refine lv_dup2_11 hx hb dX12_trial_107 rfl rfl ?_
              refine va_iald hx hb hK hP 0 0 rfl rfl (iv_vc (by decide)) dX12_trial_108 ?_
              refine lv_topi (fun v84 ev84 => ?_)
              have lv84 : v84.toInt = (f77 122).toInt := by rw [ev84]; rfl
              have h85 : IV 0 11 v84 := ⟨by omega, by omega⟩
              have ii86 : 0 ≤ v84.toInt ∧ v84.toInt ≤ 11 := h85
              refine lv_iconst (v := 1) hx hb dX12_trial_109 (by decide) ?_
              refine lv_iadd hx hb dX12_trial_110 ?_
              refine lv_topi (fun v87 ev87 => ?_)
              have hv87 : IV 1 12 v87 := iv_add ev87 h85 (iv_c (a := 1) (b := 1) (by decide)) (by decide) (by decide)
              have ii88 : 1 ≤ v87.toInt ∧ v87.toInt ≤ 12 := hv87
              have dv87 : v87.toInt = v84.toInt + 1 := iv_addE ev87 h85 (iv_c (a := 1) (b := 1) (by decide)) (by decide) (by decide) (by decide)
              have lv87 : v87.toInt = v84.toInt + 1 := lin_add ev87 h85 (iv_c (a := 1) (b := 1) (by decide)) rfl (by decide) (by decide) (by decide)
              refine va_iast hx hb hK hP hD hS 0 0 rfl rfl (iv_vc (by decide)) dX12_trial_111 (fun H locs hP hD hS => ?_)
              have hP : va_P D classes [(a_said, .inl (cs 0, 123, .inl (upd f77 (Int32.toNatClampNeg (122 : Int32)) v87))), (a, .inr (12, [.ref a_tape, .int a__taped, .int a__rules, .ref a_sign, .ref a_length, .ref a_clause, .ref a_clauses, .ref a_read, .int a__next, .int a__wrong, .int a__number, .int a__text, .int a__made, .int a__deep, .int a__lines, .ref a_open, .int a__opened, .ref a_stack, .int a__top, .ref a_word, .ref a_said, .int a__x, .ref a_worth, .ref a_mate, .ref a_wasSaid, .int a__undone, .int a__boughtNow, .ref a_wayBy, .ref a_wayThen, .int a__walkMost, .int a__walkGoing, .int a__walkSet, .ref a_kept, .long a__drawX, .ref a_images, .ref a_imageX, .ref a_isMade]))] H := hP
              have hD : va_D A [(a_said, .inl (cs 0, 123, .inl (upd f77 (Int32.toNatClampNeg (122 : Int32)) v87))), (a, .inr (12, [.ref a_tape, .int a__taped, .int a__rules, .ref a_sign, .ref a_length, .ref a_clause, .ref a_clauses, .ref a_read, .int a__next, .int a__wrong, .int a__number, .int a__text, .int a__made, .int a__deep, .int a__lines, .ref a_open, .int a__opened, .ref a_stack, .int a__top, .ref a_word, .ref a_said, .int a__x, .ref a_worth, .ref a_mate, .ref a_wasSaid, .int a__undone, .int a__boughtNow, .ref a_wayBy, .ref a_wayThen, .int a__walkMost, .int a__walkGoing, .int a__walkSet, .ref a_kept, .long a__drawX, .ref a_images, .ref a_imageX, .ref a_isMade]))] := hD
              obtain ⟨f89, uf89⟩ : ∃ z, z = upd f77 (Int32.toNatClampNeg (122 : Int32)) v87 := ⟨_, rfl⟩
              rw [← uf89] at hP hD
              have uf89 : f89 = upd f77 122 v87 := uf89
              have wf89 : (f89 122).toInt = v87.toInt := lin_us uf89 rfl
              have kk90 : (f89 0).toInt = (f77 0).toInt := congrArg Int32.toInt (by rw [uf89, pk_un (by decide)])
              have kk91 : (f89 1).toInt = (f77 1).toInt := congrArg Int32.toInt (by rw [uf89, pk_un (by decide)])
              have kk92 : (f89 2).toInt = (f77 2).toInt := congrArg Int32.toInt (by rw [uf89, pk_un (by decide)])
              have kk93 : (f89 3).toInt = (f77 3).toInt := congrArg Int32.toInt (by rw [uf89, pk_un (by decide)])
              have fb94 : BS f89 200 := (bs_upd fb82 uf89 (by decide))
              have fa95 : TR f89 := (tr_n fa83 uf89 ⟨by omega, by omega⟩)
              refine lv_aload_n hx hb dX12_trial_112 rfl (lv_at hl 1 rfl) ?_
              refine va_get (D := D) (ci := 12) (v := .ref a_said) (C := RX12) (T := TX12) (N := 37) hx hb hT i_X12 hown hK hP 1 rfl rfl 20 (by decide) (hT _ q_185) (fun _ h9 => h9) rfl dX12_trial_113 ?_
              refine lv_bipush (v := 122) hx hb dX12_trial_116 (by decide) ?_
              refine va_iald hx hb hK hP 0 0 rfl rfl (iv_vc (by decide)) dX12_trial_118 ?_
              refine lv_topi (fun v96 ev96 => ?_)
              have lv96 : v96.toInt = (f89 122).toInt := by rw [ev96]; rfl
              refine W.widen (k := 0) (n := 0) (Nat.le_of_ble_eq_true rfl) (Nat.le_of_ble_eq_true rfl) ?_
              have g97 : (f89 3).toInt ≤ 99 := (by omega)
              exact W.iret (v := v96) hx hb hr (fun t ht hW => ⟨⟨v96, (fun k => match k with | 0 => 0 | _ => 0, fun k => match k with | 0 => f89 | _ => fun _ => 0), rfl, (Or.inr (Or.inr ((⟨h5, h12, fb94, fa95, g97⟩)))), by rw [ht]; exact hP.sub [0, 1] rfl, hD.sub [0, 1] (by decide) rfl⟩, hS.F ht⟩) hS.2.2 dX12_trial_119
          · have t98 : v20.toInt = 12 := lin_eqN c23 rfl (by decide)
            have h99 : IV 12 12 v20 := iv_eq1 c23 h21 (iv_c (a := 12) (b := 12) (by decide)) (by decide) (by decide)
            have ii100 : 12 ≤ v20.toInt ∧ v20.toInt ≤ 12 := h99
            refine lv_bipush (v := (-2)) hx hb dX12_trial_48 (by decide) ?_
            refine W.widen (k := 0) (n := 0) (Nat.le_of_ble_eq_true rfl) (Nat.le_of_ble_eq_true rfl) ?_
            exact W.iret (v := (-2)) hx hb hr (fun t ht hW => ⟨⟨(-2), (fun k => match k with | 0 => 0 | _ => 0, fun k => match k with | 0 => a_said_c | _ => fun _ => 0), rfl, (Or.inl (⟨rfl, (iv_w h5 (by decide) (by decide)), hf0, hf1, hf2⟩)), by rw [ht]; exact hP.sub [0, 1] rfl, hD.sub [0, 1] (by decide) rfl⟩, hS.F ht⟩) hS.2.2 dX12_trial_50
  · have t101 : p0.toInt = (-1) := lin_eqN c1 rfl (by decide)
    have h102 : IV (-1) (-1) p0 := iv_eq1 c1 iv_top (iv_c (a := (-1)) (b := (-1)) (by decide)) (by decide) (by decide)
    have ii103 : (-1) ≤ p0.toInt ∧ p0.toInt ≤ (-1) := h102
    refine lv_aload_n hx hb dX12_trial_5 rfl (lv_at hl 0 rfl) ?_
    refine va_get (D := D) (ci := 12) (v := .ref a_said) (C := RX12) (T := TX12) (N := 37) hx hb hT i_X12 hown hK hP 1 rfl rfl 20 (by decide) (hT _ q_185) (fun _ h9 => h9) rfl dX12_trial_6 ?_
    refine lv_bipush (v := 122) hx hb dX12_trial_9 (by decide) ?_
    refine lv_iconst (v := 0) hx hb dX12_trial_11 (by decide) ?_
    refine va_iast hx hb hK hP hD hS 0 0 rfl rfl (iv_vc (by decide)) dX12_trial_12 (fun H locs hP hD hS => ?_)
    have hP : va_P D classes [(a_said, .inl (cs 0, 123, .inl (upd a_said_c (Int32.toNatClampNeg (122 : Int32)) (0 : Int32)))), (a, .inr (12, [.ref a_tape, .int a__taped, .int a__rules, .ref a_sign, .ref a_length, .ref a_clause, .ref a_clauses, .ref a_read, .int a__next, .int a__wrong, .int a__number, .int a__text, .int a__made, .int a__deep, .int a__lines, .ref a_open, .int a__opened, .ref a_stack, .int a__top, .ref a_word, .ref a_said, .int a__x, .ref a_worth, .ref a_mate, .ref a_wasSaid, .int a__undone, .int a__boughtNow, .ref a_wayBy, .ref a_wayThen, .int a__walkMost, .int a__walkGoing, .int a__walkSet, .ref a_kept, .long a__drawX, .ref a_images, .ref a_imageX, .ref a_isMade]))] H := hP
    have hD : va_D A [(a_said, .inl (cs 0, 123, .inl (upd a_said_c (Int32.toNatClampNeg (122 : Int32)) (0 : Int32)))), (a, .inr (12, [.ref a_tape, .int a__taped, .int a__rules, .ref a_sign, .ref a_length, .ref a_clause, .ref a_clauses, .ref a_read, .int a__next, .int a__wrong, .int a__number, .int a__text, .int a__made, .int a__deep, .int a__lines, .ref a_open, .int a__opened, .ref a_stack, .int a__top, .ref a_word, .ref a_said, .int a__x, .ref a_worth, .ref a_mate, .ref a_wasSaid, .int a__undone, .int a__boughtNow, .ref a_wayBy, .ref a_wayThen, .int a__walkMost, .int a__walkGoing, .int a__walkSet, .ref a_kept, .long a__drawX, .ref a_images, .ref a_imageX, .ref a_isMade]))] := hD
    obtain ⟨f104, uf104⟩ : ∃ z, z = upd a_said_c (Int32.toNatClampNeg (122 : Int32)) (0 : Int32) := ⟨_, rfl⟩
    rw [← uf104] at hP hD
    have uf104 : f104 = upd a_said_c 122 (0 : Int32) := uf104
    have wf104 : (f104 122).toInt = 0 := lin_us uf104 (by decide)
    have kk105 : (f104 0).toInt = (a_said_c 0).toInt := congrArg Int32.toInt (by rw [uf104, pk_un (by decide)])
    have kk106 : (f104 1).toInt = (a_said_c 1).toInt := congrArg Int32.toInt (by rw [uf104, pk_un (by decide)])
    have kk107 : (f104 2).toInt = (a_said_c 2).toInt := congrArg Int32.toInt (by rw [uf104, pk_un (by decide)])
    have kk108 : (f104 3).toInt = (a_said_c 3).toInt := congrArg Int32.toInt (by rw [uf104, pk_un (by decide)])
    have fb109 : BS f104 200 := (bs_upd hf0 uf104 (by decide))
    have fa110 : TR f104 := (tr_n hf1 uf104 ⟨by decide, by decide⟩)
    refine lv_iconst (v := 0) hx hb dX12_trial_13 (by decide) ?_
    refine W.widen (k := 0) (n := 0) (Nat.le_of_ble_eq_true rfl) (Nat.le_of_ble_eq_true rfl) ?_
    have g111 : (f104 3).toInt ≤ 99 := (by omega)
    exact W.iret (v := 0) hx hb hr (fun t ht hW => ⟨⟨0, (fun k => match k with | 0 => 0 | _ => 0, fun k => match k with | 0 => f104 | _ => fun _ => 0), rfl, (Or.inr (Or.inl (⟨rfl, h102, fb109, fa110, g111⟩))), by rw [ht]; exact hP.sub [0, 1] rfl, hD.sub [0, 1] (by decide) rfl⟩, hS.F ht⟩) hS.2.2 dX12_trial_14
