set_option maxHeartbeats 4000000 in
set_option maxRecDepth 100000 in
theorem c_X12_readsAll_F (l : Launch) (D : va_G) (cs : Nat → ClassId) (kK kV : Nat → Nat) (a : Nat) (a_read : Nat) (a_read_c : Nat → Int32) (a_tape : Nat) (a__taped : Int32) (a__rules : Int32) (a_sign : Nat) (a_length : Nat) (a_clause : Nat) (a_clauses : Nat) (a__next : Int32) (a__wrong : Int32) (a__number : Int32) (a__text : Int32) (a__made : Int32) (a__deep : Int32) (a__lines : Int32) (a_open : Nat) (a__opened : Int32) (a_stack : Nat) (a__top : Int32) (a_word : Nat) (a_said : Nat) (a__x : Int32) (a_worth : Nat) (a_mate : Nat) (a_wasSaid : Nat) (a__undone : Int32) (a__boughtNow : Int32) (a_wayBy : Nat) (a_wayThen : Nat) (a__walkMost : Int32) (a__walkGoing : Int32) (a__walkSet : Int32) (a_kept : Nat) (a__drawX : Int64) (a_images : Nat) (a_imageX : Nat) (a_isMade : Nat) (a_length_c : Nat → Int32) (a_tape_c : Nat → Int32) (h_a__taped : IV 0 400 a__taped) (h_a__rules : IV 0 6 a__rules) (h_a__next : IV 0 400 a__next) (h_a__text : IV 6 6 a__text) (h_a__made : IV 0 60 a__made) (h_a__lines : IV 0 40 a__lines) (h_a__opened : IV 0 400 a__opened) (h_a__top : IV 0 64 a__top) (h_a__x : IV 0 2147483647 a__x) (h_a__undone : IV 0 20 a__undone) (hf0 : BS a_read_c 0) (sz : Nat) : Met l yX12_readsAll (hz_w yX12_readsAll cX12_readsAll 2 (some .boolean)) ({ frames := 6, cells := 0, slots := 0, locals := 139 }) (va_Pc [.ref a] (hz_C D cs kK kV sz [(a_read, .inl (cs 0, 86, .inl a_read_c)), (a, .inr (12, [.ref a_tape, .int a__taped, .int a__rules, .ref a_sign, .ref a_length, .ref a_clause, .ref a_clauses, .ref a_read, .int a__next, .int a__wrong, .int a__number, .int a__text, .int a__made, .int a__deep, .int a__lines, .ref a_open, .int a__opened, .ref a_stack, .int a__top, .ref a_word, .ref a_said, .int a__x, .ref a_worth, .ref a_mate, .ref a_wasSaid, .int a__undone, .int a__boughtNow, .ref a_wayBy, .ref a_wayThen, .int a__walkMost, .int a__walkGoing, .int a__walkSet, .ref a_kept, .long a__drawX, .ref a_images, .ref a_imageX, .ref a_isMade])), (a_length, .inl (cs 0, 7, .inl a_length_c)), (a_tape, .inl (cs 1, 400, .inl a_tape_c))])) (va_Qi (fun (r : Int32) (u : (Nat → Int32) × (Nat → Nat → Int32)) => (r = 0 ∧ IV 0 40 (u.1 2) ∧ IV 0 400 (u.1 3) ∧ (BS (u.2 1) 0)) ∨ (r = 1 ∧ IV 0 40 (u.1 2) ∧ IV 0 400 (u.1 3) ∧ IV 0 0 (u.1 4) ∧ (BS (u.2 1) 0))) (fun u t => va_P D classes [(a_read, .inl (cs 0, 86, .inl (u.2 1))), (a, .inr (12, [.ref a_tape, .int 0, .int a__rules, .ref a_sign, .ref a_length, .ref a_clause, .ref a_clauses, .ref a_read, .int (u.1 3), .int (u.1 4), .int (u.1 1), .int a__text, .int 0, .int a__deep, .int (u.1 2), .ref a_open, .int a__opened, .ref a_stack, .int a__top, .ref a_word, .ref a_said, .int a__x, .ref a_worth, .ref a_mate, .ref a_wasSaid, .int a__undone, .int a__boughtNow, .ref a_wayBy, .ref a_wayThen, .int a__walkMost, .int a__walkGoing, .int a__walkSet, .ref a_kept, .long a__drawX, .ref a_images, .ref a_imageX, .ref a_isMade])), (a_length, .inl (cs 0, 7, .inl (u.2 0))), (a_tape, .inl (cs 1, 400, .inl a_tape_c))] t.heap ∧ va_D (va_A [(a_read, .inl (cs 0, 86, .inl a_read_c)), (a, .inr (12, [.ref a_tape, .int a__taped, .int a__rules, .ref a_sign, .ref a_length, .ref a_clause, .ref a_clauses, .ref a_read, .int a__next, .int a__wrong, .int a__number, .int a__text, .int a__made, .int a__deep, .int a__lines, .ref a_open, .int a__opened, .ref a_stack, .int a__top, .ref a_word, .ref a_said, .int a__x, .ref a_worth, .ref a_mate, .ref a_wasSaid, .int a__undone, .int a__boughtNow, .ref a_wayBy, .ref a_wayThen, .int a__walkMost, .int a__walkGoing, .int a__walkSet, .ref a_kept, .long a__drawX, .ref a_images, .ref a_imageX, .ref a_isMade])), (a_length, .inl (cs 0, 7, .inl a_length_c)), (a_tape, .inl (cs 1, 400, .inl a_tape_c))] sz) [(a_read, .inl (cs 0, 86, .inl (u.2 1))), (a, .inr (12, [.ref a_tape, .int 0, .int a__rules, .ref a_sign, .ref a_length, .ref a_clause, .ref a_clauses, .ref a_read, .int (u.1 3), .int (u.1 4), .int (u.1 1), .int a__text, .int 0, .int a__deep, .int (u.1 2), .ref a_open, .int a__opened, .ref a_stack, .int a__top, .ref a_word, .ref a_said, .int a__x, .ref a_worth, .ref a_mate, .ref a_wasSaid, .int a__undone, .int a__boughtNow, .ref a_wayBy, .ref a_wayThen, .int a__walkMost, .int a__walkGoing, .int a__walkSet, .ref a_kept, .long a__drawX, .ref a_images, .ref a_imageX, .ref a_isMade])), (a_length, .inl (cs 0, 7, .inl (u.2 0))), (a_tape, .inl (cs 1, 400, .inl a_tape_c))]) (va_A [(a_read, .inl (cs 0, 86, .inl a_read_c)), (a, .inr (12, [.ref a_tape, .int a__taped, .int a__rules, .ref a_sign, .ref a_length, .ref a_clause, .ref a_clauses, .ref a_read, .int a__next, .int a__wrong, .int a__number, .int a__text, .int a__made, .int a__deep, .int a__lines, .ref a_open, .int a__opened, .ref a_stack, .int a__top, .ref a_word, .ref a_said, .int a__x, .ref a_worth, .ref a_mate, .ref a_wasSaid, .int a__undone, .int a__boughtNow, .ref a_wayBy, .ref a_wayThen, .int a__walkMost, .int a__walkGoing, .int a__walkSet, .ref a_kept, .long a__drawX, .ref a_images, .ref a_imageX, .ref a_isMade])), (a_length, .inl (cs 0, 7, .inl a_length_c)), (a_tape, .inl (cs 1, 400, .inl a_tape_c))] sz)) 0 0 (va_A [(a_read, .inl (cs 0, 86, .inl a_read_c)), (a, .inr (12, [.ref a_tape, .int a__taped, .int a__rules, .ref a_sign, .ref a_length, .ref a_clause, .ref a_clauses, .ref a_read, .int a__next, .int a__wrong, .int a__number, .int a__text, .int a__made, .int a__deep, .int a__lines, .ref a_open, .int a__opened, .ref a_stack, .int a__top, .ref a_word, .ref a_said, .int a__x, .ref a_worth, .ref a_mate, .ref a_wasSaid, .int a__undone, .int a__boughtNow, .ref a_wayBy, .ref a_wayThen, .int a__walkMost, .int a__walkGoing, .int a__walkSet, .ref a_kept, .long a__drawX, .ref a_images, .ref a_imageX, .ref a_isMade])), (a_length, .inl (cs 0, 7, .inl a_length_c)), (a_tape, .inl (cs 1, 400, .inl a_tape_c))] sz) := by
  refine Met.ofW (cc := cX12_readsAll) (maxL := 2) (ret := (some .boolean)) (by decide) rfl ?_
  intro p e s m args below meth c s₁ B hml hv
  obtain ⟨rfl, hsz, hP, hD0, hE⟩ := hv
  have hx := B.exec
  have hb := B.bytes
  have hr := B.returns
  have hT : ∀ w ∈ TB, w.before _ s = true := fun w h => atoms_spec (ws := hz_w yX12_readsAll cX12_readsAll 2 (some .boolean)) B.pre w (List.mem_cons_of_mem _ h)
  have hown : s.vm.findClass RX12 = some m.cls := findClass_of_methodNamed B.named
  have hlocks := B.notSynchronized
  clear B
  subst hsz
  have hD := hD0.self (sz := s.heap.size)
  generalize hAe : va_A [(a_read, .inl (cs 0, 86, .inl a_read_c)), (a, .inr (12, [.ref a_tape, .int a__taped, .int a__rules, .ref a_sign, .ref a_length, .ref a_clause, .ref a_clauses, .ref a_read, .int a__next, .int a__wrong, .int a__number, .int a__text, .int a__made, .int a__deep, .int a__lines, .ref a_open, .int a__opened, .ref a_stack, .int a__top, .ref a_word, .ref a_said, .int a__x, .ref a_worth, .ref a_mate, .ref a_wasSaid, .int a__undone, .int a__boughtNow, .ref a_wayBy, .ref a_wayThen, .int a__walkMost, .int a__walkGoing, .int a__walkSet, .ref a_kept, .long a__drawX, .ref a_images, .ref a_imageX, .ref a_isMade])), (a_length, .inl (cs 0, 7, .inl a_length_c)), (a_tape, .inl (cs 1, 400, .inl a_tape_c))] s.heap.size = A at hD hE ⊢
  have hA : ∀ q : Nat, s.heap.size ≤ q → A q := fun q h => by rw [← hAe]; exact Or.inr h
  clear hAe hD0
  have hS : va_S A s.heap s.heap [] := va_S.rf
  have hK := hE.1
  have hl := lv_entry ([.ref a]) (n := 2) (Nat.le_of_ble_eq_true rfl)
  rw [lg_entry_eq]
  generalize (lg_sl ([.ref a]) ++ List.replicate (2 - (lg_sl ([.ref a])).length) Slot.unset).toArray = ls at hl ⊢
  have hl : lv_has ls 2 [(0, .ref a)] := hl
  obtain ⟨H, eH⟩ : ∃ z, z = s.heap := ⟨_, rfl⟩
  have hP : va_P D classes [(a_read, .inl (cs 0, 86, .inl a_read_c)), (a, .inr (12, [.ref a_tape, .int a__taped, .int a__rules, .ref a_sign, .ref a_length, .ref a_clause, .ref a_clauses, .ref a_read, .int a__next, .int a__wrong, .int a__number, .int a__text, .int a__made, .int a__deep, .int a__lines, .ref a_open, .int a__opened, .ref a_stack, .int a__top, .ref a_word, .ref a_said, .int a__x, .ref a_worth, .ref a_mate, .ref a_wasSaid, .int a__undone, .int a__boughtNow, .ref a_wayBy, .ref a_wayThen, .int a__walkMost, .int a__walkGoing, .int a__walkSet, .ref a_kept, .long a__drawX, .ref a_images, .ref a_imageX, .ref a_isMade])), (a_length, .inl (cs 0, 7, .inl a_length_c)), (a_tape, .inl (cs 1, 400, .inl a_tape_c))] H := by rw [eH]; exact hP
  have hS : va_S A s.heap H [] := by rw [eH]; exact hS
  rw [← eH]
  clear eH
  obtain ⟨locs, el⟩ : ∃ z : List Loc, z = [] := ⟨_, rfl⟩
  rw [← el] at hS ⊢
  clear el
  have z0 : (0 : Int32).toInt = 0 := by decide
  have z1 : (1 : Int32).toInt = 1 := by decide
  have zm1 : (-1 : Int32).toInt = -1 := by decide
  have i_a__lines : 0 ≤ a__lines.toInt ∧ a__lines.toInt ≤ 40 := h_a__lines
  have i_a__made : 0 ≤ a__made.toInt ∧ a__made.toInt ≤ 60 := h_a__made
  have i_a__next : 0 ≤ a__next.toInt ∧ a__next.toInt ≤ 400 := h_a__next
  have i_a__opened : 0 ≤ a__opened.toInt ∧ a__opened.toInt ≤ 400 := h_a__opened
  have i_a__rules : 0 ≤ a__rules.toInt ∧ a__rules.toInt ≤ 6 := h_a__rules
  have i_a__taped : 0 ≤ a__taped.toInt ∧ a__taped.toInt ≤ 400 := h_a__taped
  have i_a__text : 6 ≤ a__text.toInt ∧ a__text.toInt ≤ 6 := h_a__text
  have i_a__top : 0 ≤ a__top.toInt ∧ a__top.toInt ≤ 64 := h_a__top
  have i_a__undone : 0 ≤ a__undone.toInt ∧ a__undone.toInt ≤ 20 := h_a__undone
  have i_a__x : 0 ≤ a__x.toInt ∧ a__x.toInt ≤ 2147483647 := h_a__x
  have K35 : ∀ (n : Nat) (k35_L_1 : Int32) (k35_C_a_length : Nat → Int32) (k35_C_a_read : Nat → Int32) (k35_F_a_8 : Int32) (k35_F_a_9 : Int32) (k35_F_a_10 : Int32) (k35_F_a_14 : Int32), (401 - k35_F_a_8.toInt).toNat ≤ n → IV 0 40 k35_F_a_14 → IV 0 400 k35_F_a_8 → IV 0 1 k35_L_1 → (BS k35_C_a_read 0) → ∀ (H : Heap) (locs : List Loc), va_P D classes [(a_length, .inl (cs 0, 7, .inl k35_C_a_length)), (a_read, .inl (cs 0, 86, .inl k35_C_a_read)), (a, .inr (12, [.ref a_tape, .int a__taped, .int a__rules, .ref a_sign, .ref a_length, .ref a_clause, .ref a_clauses, .ref a_read, .int k35_F_a_8, .int k35_F_a_9, .int k35_F_a_10, .int a__text, .int 0, .int a__deep, .int k35_F_a_14, .ref a_open, .int a__opened, .ref a_stack, .int a__top, .ref a_word, .ref a_said, .int a__x, .ref a_worth, .ref a_mate, .ref a_wasSaid, .int a__undone, .int a__boughtNow, .ref a_wayBy, .ref a_wayThen, .int a__walkMost, .int a__walkGoing, .int a__walkSet, .ref a_kept, .long a__drawX, .ref a_images, .ref a_imageX, .ref a_isMade])), (a_tape, .inl (cs 1, 400, .inl a_tape_c))] H → va_D A [(a_length, .inl (cs 0, 7, .inl k35_C_a_length)), (a_read, .inl (cs 0, 86, .inl k35_C_a_read)), (a, .inr (12, [.ref a_tape, .int a__taped, .int a__rules, .ref a_sign, .ref a_length, .ref a_clause, .ref a_clauses, .ref a_read, .int k35_F_a_8, .int k35_F_a_9, .int k35_F_a_10, .int a__text, .int 0, .int a__deep, .int k35_F_a_14, .ref a_open, .int a__opened, .ref a_stack, .int a__top, .ref a_word, .ref a_said, .int a__x, .ref a_worth, .ref a_mate, .ref a_wasSaid, .int a__undone, .int a__boughtNow, .ref a_wayBy, .ref a_wayThen, .int a__walkMost, .int a__walkGoing, .int a__walkSet, .ref a_kept, .long a__drawX, .ref a_images, .ref a_imageX, .ref a_isMade])), (a_tape, .inl (cs 1, 400, .inl a_tape_c))] → va_S A s.heap H locs → ∀ ls : Array Slot, lv_has ls 2 [(1, .int k35_L_1), (0, .ref a)] → W p l e (headSpec (hz_w yX12_readsAll cX12_readsAll 2 (some .boolean)) ({ frames := 6, cells := 0, slots := 0, locals := 139 })).room s m [.ref a].toArray below meth c H locs 0 0 (MQ below (va_Qi (fun (r : Int32) (u : (Nat → Int32) × (Nat → Nat → Int32)) => (r = 0 ∧ IV 0 40 (u.1 2) ∧ IV 0 400 (u.1 3) ∧ (BS (u.2 1) 0)) ∨ (r = 1 ∧ IV 0 40 (u.1 2) ∧ IV 0 400 (u.1 3) ∧ IV 0 0 (u.1 4) ∧ (BS (u.2 1) 0))) (fun u t => va_P D classes [(a_read, .inl (cs 0, 86, .inl (u.2 1))), (a, .inr (12, [.ref a_tape, .int 0, .int a__rules, .ref a_sign, .ref a_length, .ref a_clause, .ref a_clauses, .ref a_read, .int (u.1 3), .int (u.1 4), .int (u.1 1), .int a__text, .int 0, .int a__deep, .int (u.1 2), .ref a_open, .int a__opened, .ref a_stack, .int a__top, .ref a_word, .ref a_said, .int a__x, .ref a_worth, .ref a_mate, .ref a_wasSaid, .int a__undone, .int a__boughtNow, .ref a_wayBy, .ref a_wayThen, .int a__walkMost, .int a__walkGoing, .int a__walkSet, .ref a_kept, .long a__drawX, .ref a_images, .ref a_imageX, .ref a_isMade])), (a_length, .inl (cs 0, 7, .inl (u.2 0))), (a_tape, .inl (cs 1, 400, .inl a_tape_c))] t.heap ∧ va_D A [(a_read, .inl (cs 0, 86, .inl (u.2 1))), (a, .inr (12, [.ref a_tape, .int 0, .int a__rules, .ref a_sign, .ref a_length, .ref a_clause, .ref a_clauses, .ref a_read, .int (u.1 3), .int (u.1 4), .int (u.1 1), .int a__text, .int 0, .int a__deep, .int (u.1 2), .ref a_open, .int a__opened, .ref a_stack, .int a__top, .ref a_word, .ref a_said, .int a__x, .ref a_worth, .ref a_mate, .ref a_wasSaid, .int a__undone, .int a__boughtNow, .ref a_wayBy, .ref a_wayThen, .int a__walkMost, .int a__walkGoing, .int a__walkSet, .ref a_kept, .long a__drawX, .ref a_images, .ref a_imageX, .ref a_isMade])), (a_length, .inl (cs 0, 7, .inl (u.2 0))), (a_tape, .inl (cs 1, 400, .inl a_tape_c))]) A) [.ref a].toArray s 0 0 A) (F0 m 35 ls []) := by
    intro n
    induction n with
    | zero =>
      intro k35_L_1 k35_C_a_length k35_C_a_read k35_F_a_8 k35_F_a_9 k35_F_a_10 k35_F_a_14 hn q35_7 q35_8 q35_9 x35_0 H locs hP hD hS ls hl
      have i_a__opened : 0 ≤ a__opened.toInt ∧ a__opened.toInt ≤ 400 := h_a__opened
      have i_a__rules : 0 ≤ a__rules.toInt ∧ a__rules.toInt ≤ 6 := h_a__rules
      have i_a__taped : 0 ≤ a__taped.toInt ∧ a__taped.toInt ≤ 400 := h_a__taped
      have i_a__text : 6 ≤ a__text.toInt ∧ a__text.toInt ≤ 6 := h_a__text
      have i_a__top : 0 ≤ a__top.toInt ∧ a__top.toInt ≤ 64 := h_a__top
      have i_a__undone : 0 ≤ a__undone.toInt ∧ a__undone.toInt ≤ 20 := h_a__undone
      have i_a__x : 0 ≤ a__x.toInt ∧ a__x.toInt ≤ 2147483647 := h_a__x
      have i_k35_F_a_14 : 0 ≤ k35_F_a_14.toInt ∧ k35_F_a_14.toInt ≤ 40 := q35_7
      have i_k35_F_a_8 : 0 ≤ k35_F_a_8.toInt ∧ k35_F_a_8.toInt ≤ 400 := q35_8
      have i_k35_L_1 : 0 ≤ k35_L_1.toInt ∧ k35_L_1.toInt ≤ 1 := q35_9
      exact absurd hn (by omega)
    | succ n ih35 =>
      intro k35_L_1 k35_C_a_length k35_C_a_read k35_F_a_8 k35_F_a_9 k35_F_a_10 k35_F_a_14 hn q35_7 q35_8 q35_9 x35_0 H locs hP hD hS ls hl
      have i_a__opened : 0 ≤ a__opened.toInt ∧ a__opened.toInt ≤ 400 := h_a__opened
      have i_a__rules : 0 ≤ a__rules.toInt ∧ a__rules.toInt ≤ 6 := h_a__rules
      have i_a__taped : 0 ≤ a__taped.toInt ∧ a__taped.toInt ≤ 400 := h_a__taped
      have i_a__text : 6 ≤ a__text.toInt ∧ a__text.toInt ≤ 6 := h_a__text
      have i_a__top : 0 ≤ a__top.toInt ∧ a__top.toInt ≤ 64 := h_a__top
      have i_a__undone : 0 ≤ a__undone.toInt ∧ a__undone.toInt ≤ 20 := h_a__undone
      have i_a__x : 0 ≤ a__x.toInt ∧ a__x.toInt ≤ 2147483647 := h_a__x
      have i_k35_F_a_14 : 0 ≤ k35_F_a_14.toInt ∧ k35_F_a_14.toInt ≤ 40 := q35_7
      have i_k35_F_a_8 : 0 ≤ k35_F_a_8.toInt ∧ k35_F_a_8.toInt ≤ 400 := q35_8
      have i_k35_L_1 : 0 ≤ k35_L_1.toInt ∧ k35_L_1.toInt ≤ 1 := q35_9
      refine lv_iload_n hx hb dX12_readsAll_35 rfl (lv_at hl 0 rfl) ?_
      refine lv_if_eq (tgt := 66) hx hb dX12_readsAll_36 (by decide) (fun c1 => ?_) (fun c1 => ?_)
      · have t2 : k35_L_1.toInt = 0 := lin_eq c1 rfl (by decide)
        have h3 : IV 0 0 k35_L_1 := iv_eq1 c1 q35_9 (iv_c (a := 0) (b := 0) (by decide)) (by decide) (by decide)
        have ii4 : 0 ≤ k35_L_1.toInt ∧ k35_L_1.toInt ≤ 0 := h3
        refine lv_iload_n hx hb dX12_readsAll_66 rfl (lv_at hl 0 rfl) ?_
        refine lv_if_eq (tgt := 88) hx hb dX12_readsAll_67 (by decide) (fun _ => ?_) (fun z => absurd (iv_eqT h3 (iv_c (a := 0) (b := 0) (by decide)) (by decide)) z)
        refine lv_aload_n hx hb dX12_readsAll_88 rfl (lv_at hl 1 rfl) ?_
        refine lv_iconst (v := 0) hx hb dX12_readsAll_89 (by decide) ?_
        refine va_put (D := D) (ci := 12) (v := .int 0) (ty := .int) (C := RX12) (T := TX12) (N := 37) hx hb hT i_X12 tyX12 tyX12_ok nmX12 hown hK hP hD hS 2 rfl rfl 1 (by decide) (hT _ q_195) (fun _ h9 => h9) rfl (by decide +kernel) rfl rfl (Nat.le_of_ble_eq_true rfl) dX12_readsAll_90 (fun H locs hP hD hS => ?_)
        have hP : va_P D classes [(a_length, .inl (cs 0, 7, .inl k35_C_a_length)), (a_read, .inl (cs 0, 86, .inl k35_C_a_read)), (a, .inr (12, [.ref a_tape, .int 0, .int a__rules, .ref a_sign, .ref a_length, .ref a_clause, .ref a_clauses, .ref a_read, .int k35_F_a_8, .int k35_F_a_9, .int k35_F_a_10, .int a__text, .int 0, .int a__deep, .int k35_F_a_14, .ref a_open, .int a__opened, .ref a_stack, .int a__top, .ref a_word, .ref a_said, .int a__x, .ref a_worth, .ref a_mate, .ref a_wasSaid, .int a__undone, .int a__boughtNow, .ref a_wayBy, .ref a_wayThen, .int a__walkMost, .int a__walkGoing, .int a__walkSet, .ref a_kept, .long a__drawX, .ref a_images, .ref a_imageX, .ref a_isMade])), (a_tape, .inl (cs 1, 400, .inl a_tape_c))] H := hP
        have hD : va_D A [(a_length, .inl (cs 0, 7, .inl k35_C_a_length)), (a_read, .inl (cs 0, 86, .inl k35_C_a_read)), (a, .inr (12, [.ref a_tape, .int 0, .int a__rules, .ref a_sign, .ref a_length, .ref a_clause, .ref a_clauses, .ref a_read, .int k35_F_a_8, .int k35_F_a_9, .int k35_F_a_10, .int a__text, .int 0, .int a__deep, .int k35_F_a_14, .ref a_open, .int a__opened, .ref a_stack, .int a__top, .ref a_word, .ref a_said, .int a__x, .ref a_worth, .ref a_mate, .ref a_wasSaid, .int a__undone, .int a__boughtNow, .ref a_wayBy, .ref a_wayThen, .int a__walkMost, .int a__walkGoing, .int a__walkSet, .ref a_kept, .long a__drawX, .ref a_images, .ref a_imageX, .ref a_isMade])), (a_tape, .inl (cs 1, 400, .inl a_tape_c))] := hD
        refine lv_aload_n hx hb dX12_readsAll_93 rfl (lv_at hl 1 rfl) ?_
        refine va_get (D := D) (ci := 12) (v := .int k35_F_a_9) (C := RX12) (T := TX12) (N := 37) hx hb hT i_X12 hown hK hP 2 rfl rfl 9 (by decide) (hT _ q_196) (fun _ h9 => h9) rfl dX12_readsAll_94 ?_
        refine lv_if_ne (tgt := 104) hx hb dX12_readsAll_97 (by decide) (fun c5 => ?_) (fun c5 => ?_)
        · have t6 : k35_F_a_9.toInt ≠ 0 := lin_ne c5 rfl (by decide)
          refine lv_iconst (v := 0) hx hb dX12_readsAll_104 (by decide) ?_
          refine W.widen (k := 0) (n := 0) (Nat.le_of_ble_eq_true rfl) (Nat.le_of_ble_eq_true rfl) ?_
          exact W.zret (v := 0) hx hb hr rfl (fun t ht hW => ⟨⟨0, (fun k => match k with | 0 => 0 | 1 => k35_F_a_10 | 2 => k35_F_a_14 | 3 => k35_F_a_8 | 4 => k35_F_a_9 | _ => 0, fun k => match k with | 0 => k35_C_a_length | 1 => k35_C_a_read | _ => fun _ => 0), rfl, (Or.inl (⟨rfl, q35_7, q35_8, x35_0⟩)), by rw [ht]; exact hP.sub [1, 2, 0, 3] rfl, hD.sub [1, 2, 0, 3] (by decide) rfl⟩, hS.F ht⟩) hS.2.2 dX12_readsAll_105
        · have t7 : k35_F_a_9.toInt = 0 := lin_eqN c5 rfl (by decide)
          have h8 : IV 0 0 k35_F_a_9 := iv_eq1 c5 iv_top (iv_c (a := 0) (b := 0) (by decide)) (by decide) (by decide)
          have ii9 : 0 ≤ k35_F_a_9.toInt ∧ k35_F_a_9.toInt ≤ 0 := h8
          refine lv_iconst (v := 1) hx hb dX12_readsAll_100 (by decide) ?_
          refine lv_goto (tgt := 105) hx hb dX12_readsAll_101 (by decide) ?_
          refine W.widen (k := 0) (n := 0) (Nat.le_of_ble_eq_true rfl) (Nat.le_of_ble_eq_true rfl) ?_
          exact W.zret (v := 1) hx hb hr rfl (fun t ht hW => ⟨⟨1, (fun k => match k with | 0 => 0 | 1 => k35_F_a_10 | 2 => k35_F_a_14 | 3 => k35_F_a_8 | 4 => k35_F_a_9 | _ => 0, fun k => match k with | 0 => k35_C_a_length | 1 => k35_C_a_read | _ => fun _ => 0), rfl, (Or.inr ((⟨rfl, q35_7, q35_8, h8, x35_0⟩))), by rw [ht]; exact hP.sub [1, 2, 0, 3] rfl, hD.sub [1, 2, 0, 3] (by decide) rfl⟩, hS.F ht⟩) hS.2.2 dX12_readsAll_105
      · have t10 : k35_L_1.toInt ≠ 0 := lin_ne c1 rfl (by decide)
        have h11 : IV 1 1 k35_L_1 := iv_neL c1 q35_9 (by decide)
        have ii12 : 1 ≤ k35_L_1.toInt ∧ k35_L_1.toInt ≤ 1 := h11
        refine lv_aload_n hx hb dX12_readsAll_39 rfl (lv_at hl 1 rfl) ?_
        have hFc := va_free (wc := [(a, .inr (12, [.ref a_tape, .int a__taped, .int a__rules, .ref a_sign, .ref a_length, .ref a_clause, .ref a_clauses, .ref a_read, .int k35_F_a_8, .int k35_F_a_9, .int k35_F_a_10, .int a__text, .int 0, .int a__deep, .int k35_F_a_14, .ref a_open, .int a__opened, .ref a_stack, .int a__top, .ref a_word, .ref a_said, .int a__x, .ref a_worth, .ref a_mate, .ref a_wasSaid, .int a__undone, .int a__boughtNow, .ref a_wayBy, .ref a_wayThen, .int a__walkMost, .int a__walkGoing, .int a__walkSet, .ref a_kept, .long a__drawX, .ref a_images, .ref a_imageX, .ref a_isMade])), (a_tape, .inl (cs 1, 400, .inl a_tape_c))]) hD hS hA [2,3] rfl
        refine va_calli (va_runV (As := []) (rest := []) ⟨hx, hb, hml, hown, hT⟩ (c_X12_see l D cs kK kV a a_tape a__taped a__rules a_sign a_length a_clause a_clauses a_read k35_F_a_8 k35_F_a_9 k35_F_a_10 a__text 0 a__deep k35_F_a_14 a_open a__opened a_stack a__top a_word a_said a__x a_worth a_mate a_wasSaid a__undone a__boughtNow a_wayBy a_wayThen a__walkMost a__walkGoing a__walkSet a_kept a__drawX a_images a_imageX a_isMade a_tape_c h_a__taped h_a__rules q35_8 ((iv_w h_a__text (by decide) (by decide))) ((iv_c (by decide))) q35_7 h_a__opened h_a__top h_a__x h_a__undone H.size) (cwV 0 hT (hz_gV q_940 q_941 q_942 q_701 q_943) rfl rfl rfl (by decide +kernel) ⟨(Nat.le_of_ble_eq_true rfl), (Nat.le_of_ble_eq_true rfl)⟩) ⟨hz_C.blind, va_recv hK hP (ci := 12) (q0 := 2) rfl rfl, hz_C.mk (hP.sub (ws' := [(a, .inr (12, [.ref a_tape, .int a__taped, .int a__rules, .ref a_sign, .ref a_length, .ref a_clause, .ref a_clauses, .ref a_read, .int k35_F_a_8, .int k35_F_a_9, .int k35_F_a_10, .int a__text, .int 0, .int a__deep, .int k35_F_a_14, .ref a_open, .int a__opened, .ref a_stack, .int a__top, .ref a_word, .ref a_said, .int a__x, .ref a_worth, .ref a_mate, .ref a_wasSaid, .int a__undone, .int a__boughtNow, .ref a_wayBy, .ref a_wayThen, .int a__walkMost, .int a__walkGoing, .int a__walkSet, .ref a_kept, .long a__drawX, .ref a_images, .ref a_imageX, .ref a_isMade])), (a_tape, .inl (cs 1, 400, .inl a_tape_c))]) [2,3] rfl) (hD.sub (ws' := [(a, .inr (12, [.ref a_tape, .int a__taped, .int a__rules, .ref a_sign, .ref a_length, .ref a_clause, .ref a_clauses, .ref a_read, .int k35_F_a_8, .int k35_F_a_9, .int k35_F_a_10, .int a__text, .int 0, .int a__deep, .int k35_F_a_14, .ref a_open, .int a__opened, .ref a_stack, .int a__top, .ref a_word, .ref a_said, .int a__x, .ref a_worth, .ref a_mate, .ref a_wasSaid, .int a__undone, .int a__boughtNow, .ref a_wayBy, .ref a_wayThen, .int a__walkMost, .int a__walkGoing, .int a__walkSet, .ref a_kept, .long a__drawX, .ref a_images, .ref a_imageX, .ref a_isMade])), (a_tape, .inl (cs 1, 400, .inl a_tape_c))]) [2,3] (by decide) rfl) hE hS hFc⟩ rfl rfl hl.1 rfl (lv_room (Nat.le_of_ble_eq_true rfl)) dX12_readsAll_40 ⟨(Nat.le_of_ble_eq_true rfl), (Nat.le_of_ble_eq_true rfl)⟩) hS (fun q _ h => hFc q h) hFc (fun r13 o14 t H1 locs ht hvm hw hB hz1 hk1 hS => ?_)
        obtain ⟨hP1, hD1⟩ := hB
        rw [ht] at hP1
        obtain ⟨hP, hD⟩ := va_join (wr := [(a_length, .inl (cs 0, 7, .inl k35_C_a_length)), (a_read, .inl (cs 0, 86, .inl k35_C_a_read))]) (w1 := [(a, .inr (12, [.ref a_tape, .int a__taped, .int a__rules, .ref a_sign, .ref a_length, .ref a_clause, .ref a_clauses, .ref a_read, .int (o14.1 1), .int k35_F_a_9, .int k35_F_a_10, .int a__text, .int 0, .int a__deep, .int k35_F_a_14, .ref a_open, .int a__opened, .ref a_stack, .int a__top, .ref a_word, .ref a_said, .int a__x, .ref a_worth, .ref a_mate, .ref a_wasSaid, .int a__undone, .int a__boughtNow, .ref a_wayBy, .ref a_wayThen, .int a__walkMost, .int a__walkGoing, .int a__walkSet, .ref a_kept, .long a__drawX, .ref a_images, .ref a_imageX, .ref a_isMade])), (a_tape, .inl (cs 1, 400, .inl a_tape_c))]) hP hD [2, 3] [0, 1] rfl rfl (by decide) (by decide) hk1 hFc hP1 hD1
        generalize H1 = H at hP hS ⊢
        have hP : va_P D classes [(a_length, .inl (cs 0, 7, .inl k35_C_a_length)), (a_read, .inl (cs 0, 86, .inl k35_C_a_read)), (a, .inr (12, [.ref a_tape, .int a__taped, .int a__rules, .ref a_sign, .ref a_length, .ref a_clause, .ref a_clauses, .ref a_read, .int (o14.1 1), .int k35_F_a_9, .int k35_F_a_10, .int a__text, .int 0, .int a__deep, .int k35_F_a_14, .ref a_open, .int a__opened, .ref a_stack, .int a__top, .ref a_word, .ref a_said, .int a__x, .ref a_worth, .ref a_mate, .ref a_wasSaid, .int a__undone, .int a__boughtNow, .ref a_wayBy, .ref a_wayThen, .int a__walkMost, .int a__walkGoing, .int a__walkSet, .ref a_kept, .long a__drawX, .ref a_images, .ref a_imageX, .ref a_isMade])), (a_tape, .inl (cs 1, 400, .inl a_tape_c))] H := hP
        have hD : va_D A [(a_length, .inl (cs 0, 7, .inl k35_C_a_length)), (a_read, .inl (cs 0, 86, .inl k35_C_a_read)), (a, .inr (12, [.ref a_tape, .int a__taped, .int a__rules, .ref a_sign, .ref a_length, .ref a_clause, .ref a_clauses, .ref a_read, .int (o14.1 1), .int k35_F_a_9, .int k35_F_a_10, .int a__text, .int 0, .int a__deep, .int k35_F_a_14, .ref a_open, .int a__opened, .ref a_stack, .int a__top, .ref a_word, .ref a_said, .int a__x, .ref a_worth, .ref a_mate, .ref a_wasSaid, .int a__undone, .int a__boughtNow, .ref a_wayBy, .ref a_wayThen, .int a__walkMost, .int a__walkGoing, .int a__walkSet, .ref a_kept, .long a__drawX, .ref a_images, .ref a_imageX, .ref a_isMade])), (a_tape, .inl (cs 1, 400, .inl a_tape_c))] := hD
        clear hk1 hFc hP1 hD1 hz1
        rcases hw with ⟨rfl, h15, x16, x17⟩ | ⟨h18, h19, h20, x21, x22, x23⟩
        · have ii24 : 0 ≤ (o14.1 1).toInt ∧ (o14.1 1).toInt ≤ 400 := h15
          refine lv_bipush (v := 59) hx hb dX12_readsAll_43 (by decide) ?_
          refine lv_icmp_ne (tgt := 66) hx hb dX12_readsAll_45 (by decide) (fun _ => ?_) (fun z => absurd z (by decide))
          refine lv_iload_n hx hb dX12_readsAll_66 rfl (lv_at hl 0 rfl) ?_
          refine lv_if_eq (tgt := 88) hx hb dX12_readsAll_67 (by decide) (fun z => absurd z (iv_eqF h11 (iv_c (a := 0) (b := 0) (by decide)) (by decide))) (fun _ => ?_)
          refine lv_aload_n hx hb dX12_readsAll_70 rfl (lv_at hl 1 rfl) ?_
          have hFc := va_free (wc := [(a, .inr (12, [.ref a_tape, .int a__taped, .int a__rules, .ref a_sign, .ref a_length, .ref a_clause, .ref a_clauses, .ref a_read, .int (o14.1 1), .int k35_F_a_9, .int k35_F_a_10, .int a__text, .int 0, .int a__deep, .int k35_F_a_14, .ref a_open, .int a__opened, .ref a_stack, .int a__top, .ref a_word, .ref a_said, .int a__x, .ref a_worth, .ref a_mate, .ref a_wasSaid, .int a__undone, .int a__boughtNow, .ref a_wayBy, .ref a_wayThen, .int a__walkMost, .int a__walkGoing, .int a__walkSet, .ref a_kept, .long a__drawX, .ref a_images, .ref a_imageX, .ref a_isMade])), (a_tape, .inl (cs 1, 400, .inl a_tape_c))]) hD hS hA [2,3] rfl
          refine va_calli (va_runV (As := []) (rest := []) ⟨hx, hb, hml, hown, hT⟩ (c_X12_see l D cs kK kV a a_tape a__taped a__rules a_sign a_length a_clause a_clauses a_read (o14.1 1) k35_F_a_9 k35_F_a_10 a__text 0 a__deep k35_F_a_14 a_open a__opened a_stack a__top a_word a_said a__x a_worth a_mate a_wasSaid a__undone a__boughtNow a_wayBy a_wayThen a__walkMost a__walkGoing a__walkSet a_kept a__drawX a_images a_imageX a_isMade a_tape_c h_a__taped h_a__rules h15 ((iv_w h_a__text (by decide) (by decide))) ((iv_c (by decide))) q35_7 h_a__opened h_a__top h_a__x h_a__undone H.size) (cwV 0 hT (hz_gV q_940 q_941 q_942 q_701 q_943) rfl rfl rfl (by decide +kernel) ⟨(Nat.le_of_ble_eq_true rfl), (Nat.le_of_ble_eq_true rfl)⟩) ⟨hz_C.blind, va_recv hK hP (ci := 12) (q0 := 2) rfl rfl, hz_C.mk (hP.sub (ws' := [(a, .inr (12, [.ref a_tape, .int a__taped, .int a__rules, .ref a_sign, .ref a_length, .ref a_clause, .ref a_clauses, .ref a_read, .int (o14.1 1), .int k35_F_a_9, .int k35_F_a_10, .int a__text, .int 0, .int a__deep, .int k35_F_a_14, .ref a_open, .int a__opened, .ref a_stack, .int a__top, .ref a_word, .ref a_said, .int a__x, .ref a_worth, .ref a_mate, .ref a_wasSaid, .int a__undone, .int a__boughtNow, .ref a_wayBy, .ref a_wayThen, .int a__walkMost, .int a__walkGoing, .int a__walkSet, .ref a_kept, .long a__drawX, .ref a_images, .ref a_imageX, .ref a_isMade])), (a_tape, .inl (cs 1, 400, .inl a_tape_c))]) [2,3] rfl) (hD.sub (ws' := [(a, .inr (12, [.ref a_tape, .int a__taped, .int a__rules, .ref a_sign, .ref a_length, .ref a_clause, .ref a_clauses, .ref a_read, .int (o14.1 1), .int k35_F_a_9, .int k35_F_a_10, .int a__text, .int 0, .int a__deep, .int k35_F_a_14, .ref a_open, .int a__opened, .ref a_stack, .int a__top, .ref a_word, .ref a_said, .int a__x, .ref a_worth, .ref a_mate, .ref a_wasSaid, .int a__undone, .int a__boughtNow, .ref a_wayBy, .ref a_wayThen, .int a__walkMost, .int a__walkGoing, .int a__walkSet, .ref a_kept, .long a__drawX, .ref a_images, .ref a_imageX, .ref a_isMade])), (a_tape, .inl (cs 1, 400, .inl a_tape_c))]) [2,3] (by decide) rfl) hE hS hFc⟩ rfl rfl hl.1 rfl (lv_room (Nat.le_of_ble_eq_true rfl)) dX12_readsAll_71 ⟨(Nat.le_of_ble_eq_true rfl), (Nat.le_of_ble_eq_true rfl)⟩) hS (fun q _ h => hFc q h) hFc (fun r25 o26 t H1 locs ht hvm hw hB hz1 hk1 hS => ?_)
          obtain ⟨hP1, hD1⟩ := hB
          rw [ht] at hP1
          obtain ⟨hP, hD⟩ := va_join (wr := [(a_length, .inl (cs 0, 7, .inl k35_C_a_length)), (a_read, .inl (cs 0, 86, .inl k35_C_a_read))]) (w1 := [(a, .inr (12, [.ref a_tape, .int a__taped, .int a__rules, .ref a_sign, .ref a_length, .ref a_clause, .ref a_clauses, .ref a_read, .int (o26.1 1), .int k35_F_a_9, .int k35_F_a_10, .int a__text, .int 0, .int a__deep, .int k35_F_a_14, .ref a_open, .int a__opened, .ref a_stack, .int a__top, .ref a_word, .ref a_said, .int a__x, .ref a_worth, .ref a_mate, .ref a_wasSaid, .int a__undone, .int a__boughtNow, .ref a_wayBy, .ref a_wayThen, .int a__walkMost, .int a__walkGoing, .int a__walkSet, .ref a_kept, .long a__drawX, .ref a_images, .ref a_imageX, .ref a_isMade])), (a_tape, .inl (cs 1, 400, .inl a_tape_c))]) hP hD [2, 3] [0, 1] rfl rfl (by decide) (by decide) hk1 hFc hP1 hD1
          generalize H1 = H at hP hS ⊢
          have hP : va_P D classes [(a_length, .inl (cs 0, 7, .inl k35_C_a_length)), (a_read, .inl (cs 0, 86, .inl k35_C_a_read)), (a, .inr (12, [.ref a_tape, .int a__taped, .int a__rules, .ref a_sign, .ref a_length, .ref a_clause, .ref a_clauses, .ref a_read, .int (o26.1 1), .int k35_F_a_9, .int k35_F_a_10, .int a__text, .int 0, .int a__deep, .int k35_F_a_14, .ref a_open, .int a__opened, .ref a_stack, .int a__top, .ref a_word, .ref a_said, .int a__x, .ref a_worth, .ref a_mate, .ref a_wasSaid, .int a__undone, .int a__boughtNow, .ref a_wayBy, .ref a_wayThen, .int a__walkMost, .int a__walkGoing, .int a__walkSet, .ref a_kept, .long a__drawX, .ref a_images, .ref a_imageX, .ref a_isMade])), (a_tape, .inl (cs 1, 400, .inl a_tape_c))] H := hP
          have hD : va_D A [(a_length, .inl (cs 0, 7, .inl k35_C_a_length)), (a_read, .inl (cs 0, 86, .inl k35_C_a_read)), (a, .inr (12, [.ref a_tape, .int a__taped, .int a__rules, .ref a_sign, .ref a_length, .ref a_clause, .ref a_clauses, .ref a_read, .int (o26.1 1), .int k35_F_a_9, .int k35_F_a_10, .int a__text, .int 0, .int a__deep, .int k35_F_a_14, .ref a_open, .int a__opened, .ref a_stack, .int a__top, .ref a_word, .ref a_said, .int a__x, .ref a_worth, .ref a_mate, .ref a_wasSaid, .int a__undone, .int a__boughtNow, .ref a_wayBy, .ref a_wayThen, .int a__walkMost, .int a__walkGoing, .int a__walkSet, .ref a_kept, .long a__drawX, .ref a_images, .ref a_imageX, .ref a_isMade])), (a_tape, .inl (cs 1, 400, .inl a_tape_c))] := hD
          clear hk1 hFc hP1 hD1 hz1
          rcases hw with ⟨rfl, h27, x28, x29⟩ | ⟨h30, h31, h32, x33, x34, x35⟩
          · have ii36 : 0 ≤ (o26.1 1).toInt ∧ (o26.1 1).toInt ≤ 400 := h27
            refine lv_iconst (v := (-1)) hx hb dX12_readsAll_74 (by decide) ?_
            refine lv_icmp_eq (tgt := 88) hx hb dX12_readsAll_75 (by decide) (fun _ => ?_) (fun z => absurd (by decide) z)
            refine lv_aload_n hx hb dX12_readsAll_88 rfl (lv_at hl 1 rfl) ?_
            refine lv_iconst (v := 0) hx hb dX12_readsAll_89 (by decide) ?_
            refine va_put (D := D) (ci := 12) (v := .int 0) (ty := .int) (C := RX12) (T := TX12) (N := 37) hx hb hT i_X12 tyX12 tyX12_ok nmX12 hown hK hP hD hS 2 rfl rfl 1 (by decide) (hT _ q_195) (fun _ h9 => h9) rfl (by decide +kernel) rfl rfl (Nat.le_of_ble_eq_true rfl) dX12_readsAll_90 (fun H locs hP hD hS => ?_)
            have hP : va_P D classes [(a_length, .inl (cs 0, 7, .inl k35_C_a_length)), (a_read, .inl (cs 0, 86, .inl k35_C_a_read)), (a, .inr (12, [.ref a_tape, .int 0, .int a__rules, .ref a_sign, .ref a_length, .ref a_clause, .ref a_clauses, .ref a_read, .int (o26.1 1), .int k35_F_a_9, .int k35_F_a_10, .int a__text, .int 0, .int a__deep, .int k35_F_a_14, .ref a_open, .int a__opened, .ref a_stack, .int a__top, .ref a_word, .ref a_said, .int a__x, .ref a_worth, .ref a_mate, .ref a_wasSaid, .int a__undone, .int a__boughtNow, .ref a_wayBy, .ref a_wayThen, .int a__walkMost, .int a__walkGoing, .int a__walkSet, .ref a_kept, .long a__drawX, .ref a_images, .ref a_imageX, .ref a_isMade])), (a_tape, .inl (cs 1, 400, .inl a_tape_c))] H := hP
            have hD : va_D A [(a_length, .inl (cs 0, 7, .inl k35_C_a_length)), (a_read, .inl (cs 0, 86, .inl k35_C_a_read)), (a, .inr (12, [.ref a_tape, .int 0, .int a__rules, .ref a_sign, .ref a_length, .ref a_clause, .ref a_clauses, .ref a_read, .int (o26.1 1), .int k35_F_a_9, .int k35_F_a_10, .int a__text, .int 0, .int a__deep, .int k35_F_a_14, .ref a_open, .int a__opened, .ref a_stack, .int a__top, .ref a_word, .ref a_said, .int a__x, .ref a_worth, .ref a_mate, .ref a_wasSaid, .int a__undone, .int a__boughtNow, .ref a_wayBy, .ref a_wayThen, .int a__walkMost, .int a__walkGoing, .int a__walkSet, .ref a_kept, .long a__drawX, .ref a_images, .ref a_imageX, .ref a_isMade])), (a_tape, .inl (cs 1, 400, .inl a_tape_c))] := hD
            refine lv_aload_n hx hb dX12_readsAll_93 rfl (lv_at hl 1 rfl) ?_
            refine va_get (D := D) (ci := 12) (v := .int k35_F_a_9) (C := RX12) (T := TX12) (N := 37) hx hb hT i_X12 hown hK hP 2 rfl rfl 9 (by decide) (hT _ q_196) (fun _ h9 => h9) rfl dX12_readsAll_94 ?_
            refine lv_if_ne (tgt := 104) hx hb dX12_readsAll_97 (by decide) (fun c37 => ?_) (fun c37 => ?_)
            · have t38 : k35_F_a_9.toInt ≠ 0 := lin_ne c37 rfl (by decide)
              refine lv_iconst (v := 0) hx hb dX12_readsAll_104 (by decide) ?_
              refine W.widen (k := 0) (n := 0) (Nat.le_of_ble_eq_true rfl) (Nat.le_of_ble_eq_true rfl) ?_
              exact W.zret (v := 0) hx hb hr rfl (fun t ht hW => ⟨⟨0, (fun k => match k with | 0 => 0 | 1 => k35_F_a_10 | 2 => k35_F_a_14 | 3 => o26.1 1 | 4 => k35_F_a_9 | _ => 0, fun k => match k with | 0 => k35_C_a_length | 1 => k35_C_a_read | _ => fun _ => 0), rfl, (Or.inl (⟨rfl, q35_7, h27, x35_0⟩)), by rw [ht]; exact hP.sub [1, 2, 0, 3] rfl, hD.sub [1, 2, 0, 3] (by decide) rfl⟩, hS.F ht⟩) hS.2.2 dX12_readsAll_105
            · have t39 : k35_F_a_9.toInt = 0 := lin_eqN c37 rfl (by decide)
              have h40 : IV 0 0 k35_F_a_9 := iv_eq1 c37 iv_top (iv_c (a := 0) (b := 0) (by decide)) (by decide) (by decide)
              have ii41 : 0 ≤ k35_F_a_9.toInt ∧ k35_F_a_9.toInt ≤ 0 := h40
              refine lv_iconst (v := 1) hx hb dX12_readsAll_100 (by decide) ?_
              refine lv_goto (tgt := 105) hx hb dX12_readsAll_101 (by decide) ?_
              refine W.widen (k := 0) (n := 0) (Nat.le_of_ble_eq_true rfl) (Nat.le_of_ble_eq_true rfl) ?_
              exact W.zret (v := 1) hx hb hr rfl (fun t ht hW => ⟨⟨1, (fun k => match k with | 0 => 0 | 1 => k35_F_a_10 | 2 => k35_F_a_14 | 3 => o26.1 1 | 4 => k35_F_a_9 | _ => 0, fun k => match k with | 0 => k35_C_a_length | 1 => k35_C_a_read | _ => fun _ => 0), rfl, (Or.inr ((⟨rfl, q35_7, h27, h40, x35_0⟩))), by rw [ht]; exact hP.sub [1, 2, 0, 3] rfl, hD.sub [1, 2, 0, 3] (by decide) rfl⟩, hS.F ht⟩) hS.2.2 dX12_readsAll_105
          · have ii42 : 0 ≤ r25.toInt ∧ r25.toInt ≤ 255 := h30
            have ii43 : 1 ≤ a__taped.toInt ∧ a__taped.toInt ≤ 400 := h31
            have ii44 : 0 ≤ (o26.1 1).toInt ∧ (o26.1 1).toInt ≤ 399 := h32
            refine lv_iconst (v := (-1)) hx hb dX12_readsAll_74 (by decide) ?_
            refine lv_icmp_eq (tgt := 88) hx hb dX12_readsAll_75 (by decide) (fun z => absurd z (iv_eqF h30 (iv_c (a := (-1)) (b := (-1)) (by decide)) (by decide))) (fun _ => ?_)
            refine lv_aload_n hx hb dX12_readsAll_78 rfl (lv_at hl 1 rfl) ?_
            refine lv_iconst (v := 0) hx hb dX12_readsAll_79 (by decide) ?_
            refine lv_aload_n hx hb dX12_readsAll_80 rfl (lv_at hl 1 rfl) ?_
            refine va_get (D := D) (ci := 12) (v := .int (o26.1 1)) (C := RX12) (T := TX12) (N := 37) hx hb hT i_X12 hown hK hP 2 rfl rfl 8 (by decide) (hT _ q_197) (fun _ h9 => h9) rfl dX12_readsAll_81 ?_
            have hFc := va_free (wc := [(a, .inr (12, [.ref a_tape, .int a__taped, .int a__rules, .ref a_sign, .ref a_length, .ref a_clause, .ref a_clauses, .ref a_read, .int (o26.1 1), .int k35_F_a_9, .int k35_F_a_10, .int a__text, .int 0, .int a__deep, .int k35_F_a_14, .ref a_open, .int a__opened, .ref a_stack, .int a__top, .ref a_word, .ref a_said, .int a__x, .ref a_worth, .ref a_mate, .ref a_wasSaid, .int a__undone, .int a__boughtNow, .ref a_wayBy, .ref a_wayThen, .int a__walkMost, .int a__walkGoing, .int a__walkSet, .ref a_kept, .long a__drawX, .ref a_images, .ref a_imageX, .ref a_isMade]))]) hD hS hA [2] rfl
            refine va_calli (va_runV (As := [.int 0, .int (o26.1 1)]) (rest := []) ⟨hx, hb, hml, hown, hT⟩ (c_X12_fails l D cs kK kV a 0 (o26.1 1) a_tape a__taped a__rules a_sign a_length a_clause a_clauses a_read (o26.1 1) k35_F_a_9 k35_F_a_10 a__text 0 a__deep k35_F_a_14 a_open a__opened a_stack a__top a_word a_said a__x a_worth a_mate a_wasSaid a__undone a__boughtNow a_wayBy a_wayThen a__walkMost a__walkGoing a__walkSet a_kept a__drawX a_images a_imageX a_isMade ((iv_c (by decide))) ((iv_w h32 (by decide) (by decide))) ((iv_w h31 (by decide) (by decide))) h_a__rules ((iv_w h32 (by decide) (by decide))) ((iv_w h_a__text (by decide) (by decide))) ((iv_c (by decide))) q35_7 h_a__opened h_a__top h_a__x h_a__undone H.size) (cwV 2 hT (hz_gV q_960 q_961 q_962 q_701 q_963) rfl rfl rfl (by decide +kernel) ⟨(Nat.le_of_ble_eq_true rfl), (Nat.le_of_ble_eq_true rfl)⟩) ⟨hz_C.blind, va_recv hK hP (ci := 12) (q0 := 2) rfl rfl, hz_C.mk (hP.sub (ws' := [(a, .inr (12, [.ref a_tape, .int a__taped, .int a__rules, .ref a_sign, .ref a_length, .ref a_clause, .ref a_clauses, .ref a_read, .int (o26.1 1), .int k35_F_a_9, .int k35_F_a_10, .int a__text, .int 0, .int a__deep, .int k35_F_a_14, .ref a_open, .int a__opened, .ref a_stack, .int a__top, .ref a_word, .ref a_said, .int a__x, .ref a_worth, .ref a_mate, .ref a_wasSaid, .int a__undone, .int a__boughtNow, .ref a_wayBy, .ref a_wayThen, .int a__walkMost, .int a__walkGoing, .int a__walkSet, .ref a_kept, .long a__drawX, .ref a_images, .ref a_imageX, .ref a_isMade]))]) [2] rfl) (hD.sub (ws' := [(a, .inr (12, [.ref a_tape, .int a__taped, .int a__rules, .ref a_sign, .ref a_length, .ref a_clause, .ref a_clauses, .ref a_read, .int (o26.1 1), .int k35_F_a_9, .int k35_F_a_10, .int a__text, .int 0, .int a__deep, .int k35_F_a_14, .ref a_open, .int a__opened, .ref a_stack, .int a__top, .ref a_word, .ref a_said, .int a__x, .ref a_worth, .ref a_mate, .ref a_wasSaid, .int a__undone, .int a__boughtNow, .ref a_wayBy, .ref a_wayThen, .int a__walkMost, .int a__walkGoing, .int a__walkSet, .ref a_kept, .long a__drawX, .ref a_images, .ref a_imageX, .ref a_isMade]))]) [2] (by decide) rfl) hE hS hFc⟩ rfl rfl hl.1 rfl (lv_room (Nat.le_of_ble_eq_true rfl)) dX12_readsAll_84 ⟨(Nat.le_of_ble_eq_true rfl), (Nat.le_of_ble_eq_true rfl)⟩) hS (fun q _ h => hFc q h) hFc (fun r45 o46 t H1 locs ht hvm hw hB hz1 hk1 hS => ?_)
            obtain ⟨hP1, hD1⟩ := hB
            rw [ht] at hP1
            obtain ⟨hP, hD⟩ := va_join (wr := [(a_length, .inl (cs 0, 7, .inl k35_C_a_length)), (a_read, .inl (cs 0, 86, .inl k35_C_a_read)), (a_tape, .inl (cs 1, 400, .inl a_tape_c))]) (w1 := [(a, .inr (12, [.ref a_tape, .int a__taped, .int a__rules, .ref a_sign, .ref a_length, .ref a_clause, .ref a_clauses, .ref a_read, .int (o26.1 1), .int (o46.1 1), .int k35_F_a_10, .int a__text, .int 0, .int a__deep, .int k35_F_a_14, .ref a_open, .int a__opened, .ref a_stack, .int a__top, .ref a_word, .ref a_said, .int a__x, .ref a_worth, .ref a_mate, .ref a_wasSaid, .int a__undone, .int a__boughtNow, .ref a_wayBy, .ref a_wayThen, .int a__walkMost, .int a__walkGoing, .int a__walkSet, .ref a_kept, .long a__drawX, .ref a_images, .ref a_imageX, .ref a_isMade]))]) hP hD [2] [0, 1, 3] rfl rfl (by decide) (by decide) hk1 hFc hP1 hD1
            generalize H1 = H at hP hS ⊢
            have hP : va_P D classes [(a_length, .inl (cs 0, 7, .inl k35_C_a_length)), (a_read, .inl (cs 0, 86, .inl k35_C_a_read)), (a_tape, .inl (cs 1, 400, .inl a_tape_c)), (a, .inr (12, [.ref a_tape, .int a__taped, .int a__rules, .ref a_sign, .ref a_length, .ref a_clause, .ref a_clauses, .ref a_read, .int (o26.1 1), .int (o46.1 1), .int k35_F_a_10, .int a__text, .int 0, .int a__deep, .int k35_F_a_14, .ref a_open, .int a__opened, .ref a_stack, .int a__top, .ref a_word, .ref a_said, .int a__x, .ref a_worth, .ref a_mate, .ref a_wasSaid, .int a__undone, .int a__boughtNow, .ref a_wayBy, .ref a_wayThen, .int a__walkMost, .int a__walkGoing, .int a__walkSet, .ref a_kept, .long a__drawX, .ref a_images, .ref a_imageX, .ref a_isMade]))] H := hP
            have hD : va_D A [(a_length, .inl (cs 0, 7, .inl k35_C_a_length)), (a_read, .inl (cs 0, 86, .inl k35_C_a_read)), (a_tape, .inl (cs 1, 400, .inl a_tape_c)), (a, .inr (12, [.ref a_tape, .int a__taped, .int a__rules, .ref a_sign, .ref a_length, .ref a_clause, .ref a_clauses, .ref a_read, .int (o26.1 1), .int (o46.1 1), .int k35_F_a_10, .int a__text, .int 0, .int a__deep, .int k35_F_a_14, .ref a_open, .int a__opened, .ref a_stack, .int a__top, .ref a_word, .ref a_said, .int a__x, .ref a_worth, .ref a_mate, .ref a_wasSaid, .int a__undone, .int a__boughtNow, .ref a_wayBy, .ref a_wayThen, .int a__walkMost, .int a__walkGoing, .int a__walkSet, .ref a_kept, .long a__drawX, .ref a_images, .ref a_imageX, .ref a_isMade]))] := hD
            clear hk1 hFc hP1 hD1 hz1
            rcases hw with ⟨rfl, x47⟩
            refine lv_pop hx hb dX12_readsAll_87 rfl ?_
            refine lv_aload_n hx hb dX12_readsAll_88 rfl (lv_at hl 1 rfl) ?_
            refine lv_iconst (v := 0) hx hb dX12_readsAll_89 (by decide) ?_
            refine va_put (D := D) (ci := 12) (v := .int 0) (ty := .int) (C := RX12) (T := TX12) (N := 37) hx hb hT i_X12 tyX12 tyX12_ok nmX12 hown hK hP hD hS 3 rfl rfl 1 (by decide) (hT _ q_195) (fun _ h9 => h9) rfl (by decide +kernel) rfl rfl (Nat.le_of_ble_eq_true rfl) dX12_readsAll_90 (fun H locs hP hD hS => ?_)
            have hP : va_P D classes [(a_length, .inl (cs 0, 7, .inl k35_C_a_length)), (a_read, .inl (cs 0, 86, .inl k35_C_a_read)), (a_tape, .inl (cs 1, 400, .inl a_tape_c)), (a, .inr (12, [.ref a_tape, .int 0, .int a__rules, .ref a_sign, .ref a_length, .ref a_clause, .ref a_clauses, .ref a_read, .int (o26.1 1), .int (o46.1 1), .int k35_F_a_10, .int a__text, .int 0, .int a__deep, .int k35_F_a_14, .ref a_open, .int a__opened, .ref a_stack, .int a__top, .ref a_word, .ref a_said, .int a__x, .ref a_worth, .ref a_mate, .ref a_wasSaid, .int a__undone, .int a__boughtNow, .ref a_wayBy, .ref a_wayThen, .int a__walkMost, .int a__walkGoing, .int a__walkSet, .ref a_kept, .long a__drawX, .ref a_images, .ref a_imageX, .ref a_isMade]))] H := hP
            have hD : va_D A [(a_length, .inl (cs 0, 7, .inl k35_C_a_length)), (a_read, .inl (cs 0, 86, .inl k35_C_a_read)), (a_tape, .inl (cs 1, 400, .inl a_tape_c)), (a, .inr (12, [.ref a_tape, .int 0, .int a__rules, .ref a_sign, .ref a_length, .ref a_clause, .ref a_clauses, .ref a_read, .int (o26.1 1), .int (o46.1 1), .int k35_F_a_10, .int a__text, .int 0, .int a__deep, .int k35_F_a_14, .ref a_open, .int a__opened, .ref a_stack, .int a__top, .ref a_word, .ref a_said, .int a__x, .ref a_worth, .ref a_mate, .ref a_wasSaid, .int a__undone, .int a__boughtNow, .ref a_wayBy, .ref a_wayThen, .int a__walkMost, .int a__walkGoing, .int a__walkSet, .ref a_kept, .long a__drawX, .ref a_images, .ref a_imageX, .ref a_isMade]))] := hD
            refine lv_aload_n hx hb dX12_readsAll_93 rfl (lv_at hl 1 rfl) ?_
            refine va_get (D := D) (ci := 12) (v := .int (o46.1 1)) (C := RX12) (T := TX12) (N := 37) hx hb hT i_X12 hown hK hP 3 rfl rfl 9 (by decide) (hT _ q_196) (fun _ h9 => h9) rfl dX12_readsAll_94 ?_
            refine lv_if_ne (tgt := 104) hx hb dX12_readsAll_97 (by decide) (fun c48 => ?_) (fun c48 => ?_)
            · have t49 : (o46.1 1).toInt ≠ 0 := lin_ne c48 rfl (by decide)
              refine lv_iconst (v := 0) hx hb dX12_readsAll_104 (by decide) ?_
              refine W.widen (k := 0) (n := 0) (Nat.le_of_ble_eq_true rfl) (Nat.le_of_ble_eq_true rfl) ?_
              exact W.zret (v := 0) hx hb hr rfl (fun t ht hW => ⟨⟨0, (fun k => match k with | 0 => 0 | 1 => k35_F_a_10 | 2 => k35_F_a_14 | 3 => o26.1 1 | 4 => o46.1 1 | _ => 0, fun k => match k with | 0 => k35_C_a_length | 1 => k35_C_a_read | _ => fun _ => 0), rfl, (Or.inl (⟨rfl, q35_7, (iv_w h32 (by decide) (by decide)), x35_0⟩)), by rw [ht]; exact hP.sub [1, 3, 0, 2] rfl, hD.sub [1, 3, 0, 2] (by decide) rfl⟩, hS.F ht⟩) hS.2.2 dX12_readsAll_105
            · have t50 : (o46.1 1).toInt = 0 := lin_eqN c48 rfl (by decide)
              have h51 : IV 0 0 (o46.1 1) := iv_eq1 c48 iv_top (iv_c (a := 0) (b := 0) (by decide)) (by decide) (by decide)
              have ii52 : 0 ≤ (o46.1 1).toInt ∧ (o46.1 1).toInt ≤ 0 := h51
              refine lv_iconst (v := 1) hx hb dX12_readsAll_100 (by decide) ?_
              refine lv_goto (tgt := 105) hx hb dX12_readsAll_101 (by decide) ?_
              refine W.widen (k := 0) (n := 0) (Nat.le_of_ble_eq_true rfl) (Nat.le_of_ble_eq_true rfl) ?_
              exact W.zret (v := 1) hx hb hr rfl (fun t ht hW => ⟨⟨1, (fun k => match k with | 0 => 0 | 1 => k35_F_a_10 | 2 => k35_F_a_14 | 3 => o26.1 1 | 4 => o46.1 1 | _ => 0, fun k => match k with | 0 => k35_C_a_length | 1 => k35_C_a_read | _ => fun _ => 0), rfl, (Or.inr ((⟨rfl, q35_7, (iv_w h32 (by decide) (by decide)), h51, x35_0⟩))), by rw [ht]; exact hP.sub [1, 3, 0, 2] rfl, hD.sub [1, 3, 0, 2] (by decide) rfl⟩, hS.F ht⟩) hS.2.2 dX12_readsAll_105
        · have ii53 : 0 ≤ r13.toInt ∧ r13.toInt ≤ 255 := h18
          have ii54 : 1 ≤ a__taped.toInt ∧ a__taped.toInt ≤ 400 := h19
          have ii55 : 0 ≤ (o14.1 1).toInt ∧ (o14.1 1).toInt ≤ 399 := h20
          refine lv_bipush (v := 59) hx hb dX12_readsAll_43 (by decide) ?_
          refine lv_icmp_ne (tgt := 66) hx hb dX12_readsAll_45 (by decide) (fun c56 => ?_) (fun c56 => ?_)
          · have t57 : r13.toInt ≠ 59 := lin_ne c56 rfl (by decide)
            refine lv_iload_n hx hb dX12_readsAll_66 rfl (lv_at hl 0 rfl) ?_
            refine lv_if_eq (tgt := 88) hx hb dX12_readsAll_67 (by decide) (fun z => absurd z (iv_eqF h11 (iv_c (a := 0) (b := 0) (by decide)) (by decide))) (fun _ => ?_)
            refine lv_aload_n hx hb dX12_readsAll_70 rfl (lv_at hl 1 rfl) ?_
            have hFc := va_free (wc := [(a, .inr (12, [.ref a_tape, .int a__taped, .int a__rules, .ref a_sign, .ref a_length, .ref a_clause, .ref a_clauses, .ref a_read, .int (o14.1 1), .int k35_F_a_9, .int k35_F_a_10, .int a__text, .int 0, .int a__deep, .int k35_F_a_14, .ref a_open, .int a__opened, .ref a_stack, .int a__top, .ref a_word, .ref a_said, .int a__x, .ref a_worth, .ref a_mate, .ref a_wasSaid, .int a__undone, .int a__boughtNow, .ref a_wayBy, .ref a_wayThen, .int a__walkMost, .int a__walkGoing, .int a__walkSet, .ref a_kept, .long a__drawX, .ref a_images, .ref a_imageX, .ref a_isMade])), (a_tape, .inl (cs 1, 400, .inl a_tape_c))]) hD hS hA [2,3] rfl
            refine va_calli (va_runV (As := []) (rest := []) ⟨hx, hb, hml, hown, hT⟩ (c_X12_see l D cs kK kV a a_tape a__taped a__rules a_sign a_length a_clause a_clauses a_read (o14.1 1) k35_F_a_9 k35_F_a_10 a__text 0 a__deep k35_F_a_14 a_open a__opened a_stack a__top a_word a_said a__x a_worth a_mate a_wasSaid a__undone a__boughtNow a_wayBy a_wayThen a__walkMost a__walkGoing a__walkSet a_kept a__drawX a_images a_imageX a_isMade a_tape_c ((iv_w h19 (by decide) (by decide))) h_a__rules ((iv_w h20 (by decide) (by decide))) ((iv_w h_a__text (by decide) (by decide))) ((iv_c (by decide))) q35_7 h_a__opened h_a__top h_a__x h_a__undone H.size) (cwV 0 hT (hz_gV q_940 q_941 q_942 q_701 q_943) rfl rfl rfl (by decide +kernel) ⟨(Nat.le_of_ble_eq_true rfl), (Nat.le_of_ble_eq_true rfl)⟩) ⟨hz_C.blind, va_recv hK hP (ci := 12) (q0 := 2) rfl rfl, hz_C.mk (hP.sub (ws' := [(a, .inr (12, [.ref a_tape, .int a__taped, .int a__rules, .ref a_sign, .ref a_length, .ref a_clause, .ref a_clauses, .ref a_read, .int (o14.1 1), .int k35_F_a_9, .int k35_F_a_10, .int a__text, .int 0, .int a__deep, .int k35_F_a_14, .ref a_open, .int a__opened, .ref a_stack, .int a__top, .ref a_word, .ref a_said, .int a__x, .ref a_worth, .ref a_mate, .ref a_wasSaid, .int a__undone, .int a__boughtNow, .ref a_wayBy, .ref a_wayThen, .int a__walkMost, .int a__walkGoing, .int a__walkSet, .ref a_kept, .long a__drawX, .ref a_images, .ref a_imageX, .ref a_isMade])), (a_tape, .inl (cs 1, 400, .inl a_tape_c))]) [2,3] rfl) (hD.sub (ws' := [(a, .inr (12, [.ref a_tape, .int a__taped, .int a__rules, .ref a_sign, .ref a_length, .ref a_clause, .ref a_clauses, .ref a_read, .int (o14.1 1), .int k35_F_a_9, .int k35_F_a_10, .int a__text, .int 0, .int a__deep, .int k35_F_a_14, .ref a_open, .int a__opened, .ref a_stack, .int a__top, .ref a_word, .ref a_said, .int a__x, .ref a_worth, .ref a_mate, .ref a_wasSaid, .int a__undone, .int a__boughtNow, .ref a_wayBy, .ref a_wayThen, .int a__walkMost, .int a__walkGoing, .int a__walkSet, .ref a_kept, .long a__drawX, .ref a_images, .ref a_imageX, .ref a_isMade])), (a_tape, .inl (cs 1, 400, .inl a_tape_c))]) [2,3] (by decide) rfl) hE hS hFc⟩ rfl rfl hl.1 rfl (lv_room (Nat.le_of_ble_eq_true rfl)) dX12_readsAll_71 ⟨(Nat.le_of_ble_eq_true rfl), (Nat.le_of_ble_eq_true rfl)⟩) hS (fun q _ h => hFc q h) hFc (fun r58 o59 t H1 locs ht hvm hw hB hz1 hk1 hS => ?_)
            obtain ⟨hP1, hD1⟩ := hB
            rw [ht] at hP1
            obtain ⟨hP, hD⟩ := va_join (wr := [(a_length, .inl (cs 0, 7, .inl k35_C_a_length)), (a_read, .inl (cs 0, 86, .inl k35_C_a_read))]) (w1 := [(a, .inr (12, [.ref a_tape, .int a__taped, .int a__rules, .ref a_sign, .ref a_length, .ref a_clause, .ref a_clauses, .ref a_read, .int (o59.1 1), .int k35_F_a_9, .int k35_F_a_10, .int a__text, .int 0, .int a__deep, .int k35_F_a_14, .ref a_open, .int a__opened, .ref a_stack, .int a__top, .ref a_word, .ref a_said, .int a__x, .ref a_worth, .ref a_mate, .ref a_wasSaid, .int a__undone, .int a__boughtNow, .ref a_wayBy, .ref a_wayThen, .int a__walkMost, .int a__walkGoing, .int a__walkSet, .ref a_kept, .long a__drawX, .ref a_images, .ref a_imageX, .ref a_isMade])), (a_tape, .inl (cs 1, 400, .inl a_tape_c))]) hP hD [2, 3] [0, 1] rfl rfl (by decide) (by decide) hk1 hFc hP1 hD1
            generalize H1 = H at hP hS ⊢
            have hP : va_P D classes [(a_length, .inl (cs 0, 7, .inl k35_C_a_length)), (a_read, .inl (cs 0, 86, .inl k35_C_a_read)), (a, .inr (12, [.ref a_tape, .int a__taped, .int a__rules, .ref a_sign, .ref a_length, .ref a_clause, .ref a_clauses, .ref a_read, .int (o59.1 1), .int k35_F_a_9, .int k35_F_a_10, .int a__text, .int 0, .int a__deep, .int k35_F_a_14, .ref a_open, .int a__opened, .ref a_stack, .int a__top, .ref a_word, .ref a_said, .int a__x, .ref a_worth, .ref a_mate, .ref a_wasSaid, .int a__undone, .int a__boughtNow, .ref a_wayBy, .ref a_wayThen, .int a__walkMost, .int a__walkGoing, .int a__walkSet, .ref a_kept, .long a__drawX, .ref a_images, .ref a_imageX, .ref a_isMade])), (a_tape, .inl (cs 1, 400, .inl a_tape_c))] H := hP
            have hD : va_D A [(a_length, .inl (cs 0, 7, .inl k35_C_a_length)), (a_read, .inl (cs 0, 86, .inl k35_C_a_read)), (a, .inr (12, [.ref a_tape, .int a__taped, .int a__rules, .ref a_sign, .ref a_length, .ref a_clause, .ref a_clauses, .ref a_read, .int (o59.1 1), .int k35_F_a_9, .int k35_F_a_10, .int a__text, .int 0, .int a__deep, .int k35_F_a_14, .ref a_open, .int a__opened, .ref a_stack, .int a__top, .ref a_word, .ref a_said, .int a__x, .ref a_worth, .ref a_mate, .ref a_wasSaid, .int a__undone, .int a__boughtNow, .ref a_wayBy, .ref a_wayThen, .int a__walkMost, .int a__walkGoing, .int a__walkSet, .ref a_kept, .long a__drawX, .ref a_images, .ref a_imageX, .ref a_isMade])), (a_tape, .inl (cs 1, 400, .inl a_tape_c))] := hD
            clear hk1 hFc hP1 hD1 hz1
            rcases hw with ⟨rfl, h60, x61, x62⟩ | ⟨h63, h64, h65, x66, x67, x68⟩
            · have ii69 : 0 ≤ (o59.1 1).toInt ∧ (o59.1 1).toInt ≤ 400 := h60
              refine lv_iconst (v := (-1)) hx hb dX12_readsAll_74 (by decide) ?_
              refine lv_icmp_eq (tgt := 88) hx hb dX12_readsAll_75 (by decide) (fun _ => ?_) (fun z => absurd (by decide) z)
              refine lv_aload_n hx hb dX12_readsAll_88 rfl (lv_at hl 1 rfl) ?_
              refine lv_iconst (v := 0) hx hb dX12_readsAll_89 (by decide) ?_
              refine va_put (D := D) (ci := 12) (v := .int 0) (ty := .int) (C := RX12) (T := TX12) (N := 37) hx hb hT i_X12 tyX12 tyX12_ok nmX12 hown hK hP hD hS 2 rfl rfl 1 (by decide) (hT _ q_195) (fun _ h9 => h9) rfl (by decide +kernel) rfl rfl (Nat.le_of_ble_eq_true rfl) dX12_readsAll_90 (fun H locs hP hD hS => ?_)
              have hP : va_P D classes [(a_length, .inl (cs 0, 7, .inl k35_C_a_length)), (a_read, .inl (cs 0, 86, .inl k35_C_a_read)), (a, .inr (12, [.ref a_tape, .int 0, .int a__rules, .ref a_sign, .ref a_length, .ref a_clause, .ref a_clauses, .ref a_read, .int (o59.1 1), .int k35_F_a_9, .int k35_F_a_10, .int a__text, .int 0, .int a__deep, .int k35_F_a_14, .ref a_open, .int a__opened, .ref a_stack, .int a__top, .ref a_word, .ref a_said, .int a__x, .ref a_worth, .ref a_mate, .ref a_wasSaid, .int a__undone, .int a__boughtNow, .ref a_wayBy, .ref a_wayThen, .int a__walkMost, .int a__walkGoing, .int a__walkSet, .ref a_kept, .long a__drawX, .ref a_images, .ref a_imageX, .ref a_isMade])), (a_tape, .inl (cs 1, 400, .inl a_tape_c))] H := hP
              have hD : va_D A [(a_length, .inl (cs 0, 7, .inl k35_C_a_length)), (a_read, .inl (cs 0, 86, .inl k35_C_a_read)), (a, .inr (12, [.ref a_tape, .int 0, .int a__rules, .ref a_sign, .ref a_length, .ref a_clause, .ref a_clauses, .ref a_read, .int (o59.1 1), .int k35_F_a_9, .int k35_F_a_10, .int a__text, .int 0, .int a__deep, .int k35_F_a_14, .ref a_open, .int a__opened, .ref a_stack, .int a__top, .ref a_word, .ref a_said, .int a__x, .ref a_worth, .ref a_mate, .ref a_wasSaid, .int a__undone, .int a__boughtNow, .ref a_wayBy, .ref a_wayThen, .int a__walkMost, .int a__walkGoing, .int a__walkSet, .ref a_kept, .long a__drawX, .ref a_images, .ref a_imageX, .ref a_isMade])), (a_tape, .inl (cs 1, 400, .inl a_tape_c))] := hD
              refine lv_aload_n hx hb dX12_readsAll_93 rfl (lv_at hl 1 rfl) ?_
              refine va_get (D := D) (ci := 12) (v := .int k35_F_a_9) (C := RX12) (T := TX12) (N := 37) hx hb hT i_X12 hown hK hP 2 rfl rfl 9 (by decide) (hT _ q_196) (fun _ h9 => h9) rfl dX12_readsAll_94 ?_
              refine lv_if_ne (tgt := 104) hx hb dX12_readsAll_97 (by decide) (fun c70 => ?_) (fun c70 => ?_)
              · have t71 : k35_F_a_9.toInt ≠ 0 := lin_ne c70 rfl (by decide)
                refine lv_iconst (v := 0) hx hb dX12_readsAll_104 (by decide) ?_
                refine W.widen (k := 0) (n := 0) (Nat.le_of_ble_eq_true rfl) (Nat.le_of_ble_eq_true rfl) ?_
                exact W.zret (v := 0) hx hb hr rfl (fun t ht hW => ⟨⟨0, (fun k => match k with | 0 => 0 | 1 => k35_F_a_10 | 2 => k35_F_a_14 | 3 => o59.1 1 | 4 => k35_F_a_9 | _ => 0, fun k => match k with | 0 => k35_C_a_length | 1 => k35_C_a_read | _ => fun _ => 0), rfl, (Or.inl (⟨rfl, q35_7, h60, x35_0⟩)), by rw [ht]; exact hP.sub [1, 2, 0, 3] rfl, hD.sub [1, 2, 0, 3] (by decide) rfl⟩, hS.F ht⟩) hS.2.2 dX12_readsAll_105
              · have t72 : k35_F_a_9.toInt = 0 := lin_eqN c70 rfl (by decide)
                have h73 : IV 0 0 k35_F_a_9 := iv_eq1 c70 iv_top (iv_c (a := 0) (b := 0) (by decide)) (by decide) (by decide)
                have ii74 : 0 ≤ k35_F_a_9.toInt ∧ k35_F_a_9.toInt ≤ 0 := h73
                refine lv_iconst (v := 1) hx hb dX12_readsAll_100 (by decide) ?_
                refine lv_goto (tgt := 105) hx hb dX12_readsAll_101 (by decide) ?_
                refine W.widen (k := 0) (n := 0) (Nat.le_of_ble_eq_true rfl) (Nat.le_of_ble_eq_true rfl) ?_
                exact W.zret (v := 1) hx hb hr rfl (fun t ht hW => ⟨⟨1, (fun k => match k with | 0 => 0 | 1 => k35_F_a_10 | 2 => k35_F_a_14 | 3 => o59.1 1 | 4 => k35_F_a_9 | _ => 0, fun k => match k with | 0 => k35_C_a_length | 1 => k35_C_a_read | _ => fun _ => 0), rfl, (Or.inr ((⟨rfl, q35_7, h60, h73, x35_0⟩))), by rw [ht]; exact hP.sub [1, 2, 0, 3] rfl, hD.sub [1, 2, 0, 3] (by decide) rfl⟩, hS.F ht⟩) hS.2.2 dX12_readsAll_105
            · have ii75 : 0 ≤ r58.toInt ∧ r58.toInt ≤ 255 := h63
              have ii76 : 1 ≤ a__taped.toInt ∧ a__taped.toInt ≤ 400 := h64
              have ii77 : 0 ≤ (o59.1 1).toInt ∧ (o59.1 1).toInt ≤ 399 := h65
              refine lv_iconst (v := (-1)) hx hb dX12_readsAll_74 (by decide) ?_
              refine lv_icmp_eq (tgt := 88) hx hb dX12_readsAll_75 (by decide) (fun z => absurd z (iv_eqF h63 (iv_c (a := (-1)) (b := (-1)) (by decide)) (by decide))) (fun _ => ?_)
              refine lv_aload_n hx hb dX12_readsAll_78 rfl (lv_at hl 1 rfl) ?_
              refine lv_iconst (v := 0) hx hb dX12_readsAll_79 (by decide) ?_
              refine lv_aload_n hx hb dX12_readsAll_80 rfl (lv_at hl 1 rfl) ?_
              refine va_get (D := D) (ci := 12) (v := .int (o59.1 1)) (C := RX12) (T := TX12) (N := 37) hx hb hT i_X12 hown hK hP 2 rfl rfl 8 (by decide) (hT _ q_197) (fun _ h9 => h9) rfl dX12_readsAll_81 ?_
              have hFc := va_free (wc := [(a, .inr (12, [.ref a_tape, .int a__taped, .int a__rules, .ref a_sign, .ref a_length, .ref a_clause, .ref a_clauses, .ref a_read, .int (o59.1 1), .int k35_F_a_9, .int k35_F_a_10, .int a__text, .int 0, .int a__deep, .int k35_F_a_14, .ref a_open, .int a__opened, .ref a_stack, .int a__top, .ref a_word, .ref a_said, .int a__x, .ref a_worth, .ref a_mate, .ref a_wasSaid, .int a__undone, .int a__boughtNow, .ref a_wayBy, .ref a_wayThen, .int a__walkMost, .int a__walkGoing, .int a__walkSet, .ref a_kept, .long a__drawX, .ref a_images, .ref a_imageX, .ref a_isMade]))]) hD hS hA [2] rfl
              refine va_calli (va_runV (As := [.int 0, .int (o59.1 1)]) (rest := []) ⟨hx, hb, hml, hown, hT⟩ (c_X12_fails l D cs kK kV a 0 (o59.1 1) a_tape a__taped a__rules a_sign a_length a_clause a_clauses a_read (o59.1 1) k35_F_a_9 k35_F_a_10 a__text 0 a__deep k35_F_a_14 a_open a__opened a_stack a__top a_word a_said a__x a_worth a_mate a_wasSaid a__undone a__boughtNow a_wayBy a_wayThen a__walkMost a__walkGoing a__walkSet a_kept a__drawX a_images a_imageX a_isMade ((iv_c (by decide))) ((iv_w h65 (by decide) (by decide))) ((iv_w h64 (by decide) (by decide))) h_a__rules ((iv_w h65 (by decide) (by decide))) ((iv_w h_a__text (by decide) (by decide))) ((iv_c (by decide))) q35_7 h_a__opened h_a__top h_a__x h_a__undone H.size) (cwV 2 hT (hz_gV q_960 q_961 q_962 q_701 q_963) rfl rfl rfl (by decide +kernel) ⟨(Nat.le_of_ble_eq_true rfl), (Nat.le_of_ble_eq_true rfl)⟩) ⟨hz_C.blind, va_recv hK hP (ci := 12) (q0 := 2) rfl rfl, hz_C.mk (hP.sub (ws' := [(a, .inr (12, [.ref a_tape, .int a__taped, .int a__rules, .ref a_sign, .ref a_length, .ref a_clause, .ref a_clauses, .ref a_read, .int (o59.1 1), .int k35_F_a_9, .int k35_F_a_10, .int a__text, .int 0, .int a__deep, .int k35_F_a_14, .ref a_open, .int a__opened, .ref a_stack, .int a__top, .ref a_word, .ref a_said, .int a__x, .ref a_worth, .ref a_mate, .ref a_wasSaid, .int a__undone, .int a__boughtNow, .ref a_wayBy, .ref a_wayThen, .int a__walkMost, .int a__walkGoing, .int a__walkSet, .ref a_kept, .long a__drawX, .ref a_images, .ref a_imageX, .ref a_isMade]))]) [2] rfl) (hD.sub (ws' := [(a, .inr (12, [.ref a_tape, .int a__taped, .int a__rules, .ref a_sign, .ref a_length, .ref a_clause, .ref a_clauses, .ref a_read, .int (o59.1 1), .int k35_F_a_9, .int k35_F_a_10, .int a__text, .int 0, .int a__deep, .int k35_F_a_14, .ref a_open, .int a__opened, .ref a_stack, .int a__top, .ref a_word, .ref a_said, .int a__x, .ref a_worth, .ref a_mate, .ref a_wasSaid, .int a__undone, .int a__boughtNow, .ref a_wayBy, .ref a_wayThen, .int a__walkMost, .int a__walkGoing, .int a__walkSet, .ref a_kept, .long a__drawX, .ref a_images, .ref a_imageX, .ref a_isMade]))]) [2] (by decide) rfl) hE hS hFc⟩ rfl rfl hl.1 rfl (lv_room (Nat.le_of_ble_eq_true rfl)) dX12_readsAll_84 ⟨(Nat.le_of_ble_eq_true rfl), (Nat.le_of_ble_eq_true rfl)⟩) hS (fun q _ h => hFc q h) hFc (fun r78 o79 t H1 locs ht hvm hw hB hz1 hk1 hS => ?_)
              obtain ⟨hP1, hD1⟩ := hB
              rw [ht] at hP1
              obtain ⟨hP, hD⟩ := va_join (wr := [(a_length, .inl (cs 0, 7, .inl k35_C_a_length)), (a_read, .inl (cs 0, 86, .inl k35_C_a_read)), (a_tape, .inl (cs 1, 400, .inl a_tape_c))]) (w1 := [(a, .inr (12, [.ref a_tape, .int a__taped, .int a__rules, .ref a_sign, .ref a_length, .ref a_clause, .ref a_clauses, .ref a_read, .int (o59.1 1), .int (o79.1 1), .int k35_F_a_10, .int a__text, .int 0, .int a__deep, .int k35_F_a_14, .ref a_open, .int a__opened, .ref a_stack, .int a__top, .ref a_word, .ref a_said, .int a__x, .ref a_worth, .ref a_mate, .ref a_wasSaid, .int a__undone, .int a__boughtNow, .ref a_wayBy, .ref a_wayThen, .int a__walkMost, .int a__walkGoing, .int a__walkSet, .ref a_kept, .long a__drawX, .ref a_images, .ref a_imageX, .ref a_isMade]))]) hP hD [2] [0, 1, 3] rfl rfl (by decide) (by decide) hk1 hFc hP1 hD1
              generalize H1 = H at hP hS ⊢
              have hP : va_P D classes [(a_length, .inl (cs 0, 7, .inl k35_C_a_length)), (a_read, .inl (cs 0, 86, .inl k35_C_a_read)), (a_tape, .inl (cs 1, 400, .inl a_tape_c)), (a, .inr (12, [.ref a_tape, .int a__taped, .int a__rules, .ref a_sign, .ref a_length, .ref a_clause, .ref a_clauses, .ref a_read, .int (o59.1 1), .int (o79.1 1), .int k35_F_a_10, .int a__text, .int 0, .int a__deep, .int k35_F_a_14, .ref a_open, .int a__opened, .ref a_stack, .int a__top, .ref a_word, .ref a_said, .int a__x, .ref a_worth, .ref a_mate, .ref a_wasSaid, .int a__undone, .int a__boughtNow, .ref a_wayBy, .ref a_wayThen, .int a__walkMost, .int a__walkGoing, .int a__walkSet, .ref a_kept, .long a__drawX, .ref a_images, .ref a_imageX, .ref a_isMade]))] H := hP
              have hD : va_D A [(a_length, .inl (cs 0, 7, .inl k35_C_a_length)), (a_read, .inl (cs 0, 86, .inl k35_C_a_read)), (a_tape, .inl (cs 1, 400, .inl a_tape_c)), (a, .inr (12, [.ref a_tape, .int a__taped, .int a__rules, .ref a_sign, .ref a_length, .ref a_clause, .ref a_clauses, .ref a_read, .int (o59.1 1), .int (o79.1 1), .int k35_F_a_10, .int a__text, .int 0, .int a__deep, .int k35_F_a_14, .ref a_open, .int a__opened, .ref a_stack, .int a__top, .ref a_word, .ref a_said, .int a__x, .ref a_worth, .ref a_mate, .ref a_wasSaid, .int a__undone, .int a__boughtNow, .ref a_wayBy, .ref a_wayThen, .int a__walkMost, .int a__walkGoing, .int a__walkSet, .ref a_kept, .long a__drawX, .ref a_images, .ref a_imageX, .ref a_isMade]))] := hD
              clear hk1 hFc hP1 hD1 hz1
              rcases hw with ⟨rfl, x80⟩
              refine lv_pop hx hb dX12_readsAll_87 rfl ?_
              refine lv_aload_n hx hb dX12_readsAll_88 rfl (lv_at hl 1 rfl) ?_
              refine lv_iconst (v := 0) hx hb dX12_readsAll_89 (by decide) ?_
              refine va_put (D := D) (ci := 12) (v := .int 0) (ty := .int) (C := RX12) (T := TX12) (N := 37) hx hb hT i_X12 tyX12 tyX12_ok nmX12 hown hK hP hD hS 3 rfl rfl 1 (by decide) (hT _ q_195) (fun _ h9 => h9) rfl (by decide +kernel) rfl rfl (Nat.le_of_ble_eq_true rfl) dX12_readsAll_90 (fun H locs hP hD hS => ?_)
              have hP : va_P D classes [(a_length, .inl (cs 0, 7, .inl k35_C_a_length)), (a_read, .inl (cs 0, 86, .inl k35_C_a_read)), (a_tape, .inl (cs 1, 400, .inl a_tape_c)), (a, .inr (12, [.ref a_tape, .int 0, .int a__rules, .ref a_sign, .ref a_length, .ref a_clause, .ref a_clauses, .ref a_read, .int (o59.1 1), .int (o79.1 1), .int k35_F_a_10, .int a__text, .int 0, .int a__deep, .int k35_F_a_14, .ref a_open, .int a__opened, .ref a_stack, .int a__top, .ref a_word, .ref a_said, .int a__x, .ref a_worth, .ref a_mate, .ref a_wasSaid, .int a__undone, .int a__boughtNow, .ref a_wayBy, .ref a_wayThen, .int a__walkMost, .int a__walkGoing, .int a__walkSet, .ref a_kept, .long a__drawX, .ref a_images, .ref a_imageX, .ref a_isMade]))] H := hP
              have hD : va_D A [(a_length, .inl (cs 0, 7, .inl k35_C_a_length)), (a_read, .inl (cs 0, 86, .inl k35_C_a_read)), (a_tape, .inl (cs 1, 400, .inl a_tape_c)), (a, .inr (12, [.ref a_tape, .int 0, .int a__rules, .ref a_sign, .ref a_length, .ref a_clause, .ref a_clauses, .ref a_read, .int (o59.1 1), .int (o79.1 1), .int k35_F_a_10, .int a__text, .int 0, .int a__deep, .int k35_F_a_14, .ref a_open, .int a__opened, .ref a_stack, .int a__top, .ref a_word, .ref a_said, .int a__x, .ref a_worth, .ref a_mate, .ref a_wasSaid, .int a__undone, .int a__boughtNow, .ref a_wayBy, .ref a_wayThen, .int a__walkMost, .int a__walkGoing, .int a__walkSet, .ref a_kept, .long a__drawX, .ref a_images, .ref a_imageX, .ref a_isMade]))] := hD
              refine lv_aload_n hx hb dX12_readsAll_93 rfl (lv_at hl 1 rfl) ?_
              refine va_get (D := D) (ci := 12) (v := .int (o79.1 1)) (C := RX12) (T := TX12) (N := 37) hx hb hT i_X12 hown hK hP 3 rfl rfl 9 (by decide) (hT _ q_196) (fun _ h9 => h9) rfl dX12_readsAll_94 ?_
              refine lv_if_ne (tgt := 104) hx hb dX12_readsAll_97 (by decide) (fun c81 => ?_) (fun c81 => ?_)
              · have t82 : (o79.1 1).toInt ≠ 0 := lin_ne c81 rfl (by decide)
                refine lv_iconst (v := 0) hx hb dX12_readsAll_104 (by decide) ?_
                refine W.widen (k := 0) (n := 0) (Nat.le_of_ble_eq_true rfl) (Nat.le_of_ble_eq_true rfl) ?_
                exact W.zret (v := 0) hx hb hr rfl (fun t ht hW => ⟨⟨0, (fun k => match k with | 0 => 0 | 1 => k35_F_a_10 | 2 => k35_F_a_14 | 3 => o59.1 1 | 4 => o79.1 1 | _ => 0, fun k => match k with | 0 => k35_C_a_length | 1 => k35_C_a_read | _ => fun _ => 0), rfl, (Or.inl (⟨rfl, q35_7, (iv_w h65 (by decide) (by decide)), x35_0⟩)), by rw [ht]; exact hP.sub [1, 3, 0, 2] rfl, hD.sub [1, 3, 0, 2] (by decide) rfl⟩, hS.F ht⟩) hS.2.2 dX12_readsAll_105
              · have t83 : (o79.1 1).toInt = 0 := lin_eqN c81 rfl (by decide)
                have h84 : IV 0 0 (o79.1 1) := iv_eq1 c81 iv_top (iv_c (a := 0) (b := 0) (by decide)) (by decide) (by decide)
                have ii85 : 0 ≤ (o79.1 1).toInt ∧ (o79.1 1).toInt ≤ 0 := h84
                refine lv_iconst (v := 1) hx hb dX12_readsAll_100 (by decide) ?_
                refine lv_goto (tgt := 105) hx hb dX12_readsAll_101 (by decide) ?_
                refine W.widen (k := 0) (n := 0) (Nat.le_of_ble_eq_true rfl) (Nat.le_of_ble_eq_true rfl) ?_
                exact W.zret (v := 1) hx hb hr rfl (fun t ht hW => ⟨⟨1, (fun k => match k with | 0 => 0 | 1 => k35_F_a_10 | 2 => k35_F_a_14 | 3 => o59.1 1 | 4 => o79.1 1 | _ => 0, fun k => match k with | 0 => k35_C_a_length | 1 => k35_C_a_read | _ => fun _ => 0), rfl, (Or.inr ((⟨rfl, q35_7, (iv_w h65 (by decide) (by decide)), h84, x35_0⟩))), by rw [ht]; exact hP.sub [1, 3, 0, 2] rfl, hD.sub [1, 3, 0, 2] (by decide) rfl⟩, hS.F ht⟩) hS.2.2 dX12_readsAll_105
          · have t86 : r13.toInt = 59 := lin_eqN c56 rfl (by decide)
            have h87 : IV 59 59 r13 := iv_eq1 c56 h18 (iv_c (a := 59) (b := 59) (by decide)) (by decide) (by decide)
            have ii88 : 59 ≤ r13.toInt ∧ r13.toInt ≤ 59 := h87
            refine lv_aload_n hx hb dX12_readsAll_48 rfl (lv_at hl 1 rfl) ?_
            refine lv_dup hx hb dX12_readsAll_49 rfl ?_
            refine va_get (D := D) (ci := 12) (v := .int (o14.1 1)) (C := RX12) (T := TX12) (N := 37) hx hb hT i_X12 hown hK hP 2 rfl rfl 8 (by decide) (hT _ q_197) (fun _ h9 => h9) rfl dX12_readsAll_50 ?_
            refine lv_iconst (v := 1) hx hb dX12_readsAll_53 (by decide) ?_
            refine lv_iadd hx hb dX12_readsAll_54 ?_
            refine lv_topi (fun v89 ev89 => ?_)
            have hv89 : IV 1 400 v89 := iv_add ev89 h20 (iv_c (a := 1) (b := 1) (by decide)) (by decide) (by decide)
            have ii90 : 1 ≤ v89.toInt ∧ v89.toInt ≤ 400 := hv89
            have dv89 : v89.toInt = (o14.1 1).toInt + 1 := iv_addE ev89 h20 (iv_c (a := 1) (b := 1) (by decide)) (by decide) (by decide) (by decide)
            have lv89 : v89.toInt = (o14.1 1).toInt + 1 := lin_add ev89 h20 (iv_c (a := 1) (b := 1) (by decide)) rfl (by decide) (by decide) (by decide)
            refine va_put (D := D) (ci := 12) (v := .int v89) (ty := .int) (C := RX12) (T := TX12) (N := 37) hx hb hT i_X12 tyX12 tyX12_ok nmX12 hown hK hP hD hS 2 rfl rfl 8 (by decide) (hT _ q_197) (fun _ h9 => h9) rfl (by decide +kernel) rfl rfl (Nat.le_of_ble_eq_true rfl) dX12_readsAll_55 (fun H locs hP hD hS => ?_)
            have hP : va_P D classes [(a_length, .inl (cs 0, 7, .inl k35_C_a_length)), (a_read, .inl (cs 0, 86, .inl k35_C_a_read)), (a, .inr (12, [.ref a_tape, .int a__taped, .int a__rules, .ref a_sign, .ref a_length, .ref a_clause, .ref a_clauses, .ref a_read, .int v89, .int k35_F_a_9, .int k35_F_a_10, .int a__text, .int 0, .int a__deep, .int k35_F_a_14, .ref a_open, .int a__opened, .ref a_stack, .int a__top, .ref a_word, .ref a_said, .int a__x, .ref a_worth, .ref a_mate, .ref a_wasSaid, .int a__undone, .int a__boughtNow, .ref a_wayBy, .ref a_wayThen, .int a__walkMost, .int a__walkGoing, .int a__walkSet, .ref a_kept, .long a__drawX, .ref a_images, .ref a_imageX, .ref a_isMade])), (a_tape, .inl (cs 1, 400, .inl a_tape_c))] H := hP
            have hD : va_D A [(a_length, .inl (cs 0, 7, .inl k35_C_a_length)), (a_read, .inl (cs 0, 86, .inl k35_C_a_read)), (a, .inr (12, [.ref a_tape, .int a__taped, .int a__rules, .ref a_sign, .ref a_length, .ref a_clause, .ref a_clauses, .ref a_read, .int v89, .int k35_F_a_9, .int k35_F_a_10, .int a__text, .int 0, .int a__deep, .int k35_F_a_14, .ref a_open, .int a__opened, .ref a_stack, .int a__top, .ref a_word, .ref a_said, .int a__x, .ref a_worth, .ref a_mate, .ref a_wasSaid, .int a__undone, .int a__boughtNow, .ref a_wayBy, .ref a_wayThen, .int a__walkMost, .int a__walkGoing, .int a__walkSet, .ref a_kept, .long a__drawX, .ref a_images, .ref a_imageX, .ref a_isMade])), (a_tape, .inl (cs 1, 400, .inl a_tape_c))] := hD
            refine lv_aload_n hx hb dX12_readsAll_58 rfl (lv_at hl 1 rfl) ?_
            have hFc := va_free (wc := [(a_read, .inl (cs 0, 86, .inl k35_C_a_read)), (a, .inr (12, [.ref a_tape, .int a__taped, .int a__rules, .ref a_sign, .ref a_length, .ref a_clause, .ref a_clauses, .ref a_read, .int v89, .int k35_F_a_9, .int k35_F_a_10, .int a__text, .int 0, .int a__deep, .int k35_F_a_14, .ref a_open, .int a__opened, .ref a_stack, .int a__top, .ref a_word, .ref a_said, .int a__x, .ref a_worth, .ref a_mate, .ref a_wasSaid, .int a__undone, .int a__boughtNow, .ref a_wayBy, .ref a_wayThen, .int a__walkMost, .int a__walkGoing, .int a__walkSet, .ref a_kept, .long a__drawX, .ref a_images, .ref a_imageX, .ref a_isMade])), (a_tape, .inl (cs 1, 400, .inl a_tape_c))]) hD hS hA [1,2,3] rfl
            refine va_calli (va_runV (As := []) (rest := []) ⟨hx, hb, hml, hown, hT⟩ (c_X12_clauseHere_F l D cs kK kV a a_read k35_C_a_read a_tape a__taped a__rules a_sign a_length a_clause a_clauses v89 k35_F_a_9 k35_F_a_10 a__text 0 a__deep k35_F_a_14 a_open a__opened a_stack a__top a_word a_said a__x a_worth a_mate a_wasSaid a__undone a__boughtNow a_wayBy a_wayThen a__walkMost a__walkGoing a__walkSet a_kept a__drawX a_images a_imageX a_isMade a_tape_c ((iv_w h19 (by decide) (by decide))) h_a__rules ((iv_w hv89 (by decide) (by decide))) h_a__text ((iv_c (by decide))) q35_7 h_a__opened h_a__top h_a__x h_a__undone x35_0 H.size) (cwV 0 hT (hz_gV q_1073 q_1074 q_1075 q_701 q_1076) rfl rfl rfl (by decide +kernel) ⟨(Nat.le_of_ble_eq_true rfl), (Nat.le_of_ble_eq_true rfl)⟩) ⟨hz_C.blind, va_recv hK hP (ci := 12) (q0 := 2) rfl rfl, hz_C.mk (hP.sub (ws' := [(a_read, .inl (cs 0, 86, .inl k35_C_a_read)), (a, .inr (12, [.ref a_tape, .int a__taped, .int a__rules, .ref a_sign, .ref a_length, .ref a_clause, .ref a_clauses, .ref a_read, .int v89, .int k35_F_a_9, .int k35_F_a_10, .int a__text, .int 0, .int a__deep, .int k35_F_a_14, .ref a_open, .int a__opened, .ref a_stack, .int a__top, .ref a_word, .ref a_said, .int a__x, .ref a_worth, .ref a_mate, .ref a_wasSaid, .int a__undone, .int a__boughtNow, .ref a_wayBy, .ref a_wayThen, .int a__walkMost, .int a__walkGoing, .int a__walkSet, .ref a_kept, .long a__drawX, .ref a_images, .ref a_imageX, .ref a_isMade])), (a_tape, .inl (cs 1, 400, .inl a_tape_c))]) [1,2,3] rfl) (hD.sub (ws' := [(a_read, .inl (cs 0, 86, .inl k35_C_a_read)), (a, .inr (12, [.ref a_tape, .int a__taped, .int a__rules, .ref a_sign, .ref a_length, .ref a_clause, .ref a_clauses, .ref a_read, .int v89, .int k35_F_a_9, .int k35_F_a_10, .int a__text, .int 0, .int a__deep, .int k35_F_a_14, .ref a_open, .int a__opened, .ref a_stack, .int a__top, .ref a_word, .ref a_said, .int a__x, .ref a_worth, .ref a_mate, .ref a_wasSaid, .int a__undone, .int a__boughtNow, .ref a_wayBy, .ref a_wayThen, .int a__walkMost, .int a__walkGoing, .int a__walkSet, .ref a_kept, .long a__drawX, .ref a_images, .ref a_imageX, .ref a_isMade])), (a_tape, .inl (cs 1, 400, .inl a_tape_c))]) [1,2,3] (by decide) rfl) hE hS hFc⟩ rfl rfl hl.1 rfl (lv_room (Nat.le_of_ble_eq_true rfl)) dX12_readsAll_59 ⟨(Nat.le_of_ble_eq_true rfl), (Nat.le_of_ble_eq_true rfl)⟩) hS (fun q _ h => hFc q h) hFc (fun r91 o92 t H1 locs ht hvm hw hB hz1 hk1 hS => ?_)
            obtain ⟨hP1, hD1⟩ := hB
            rw [ht] at hP1
            obtain ⟨hP, hD⟩ := va_join (wr := [(a_length, .inl (cs 0, 7, .inl k35_C_a_length))]) (w1 := [(a_read, .inl (cs 0, 86, .inl (o92.2 0))), (a, .inr (12, [.ref a_tape, .int a__taped, .int a__rules, .ref a_sign, .ref a_length, .ref a_clause, .ref a_clauses, .ref a_read, .int (o92.1 3), .int (o92.1 4), .int (o92.1 1), .int a__text, .int 0, .int a__deep, .int (o92.1 2), .ref a_open, .int a__opened, .ref a_stack, .int a__top, .ref a_word, .ref a_said, .int a__x, .ref a_worth, .ref a_mate, .ref a_wasSaid, .int a__undone, .int a__boughtNow, .ref a_wayBy, .ref a_wayThen, .int a__walkMost, .int a__walkGoing, .int a__walkSet, .ref a_kept, .long a__drawX, .ref a_images, .ref a_imageX, .ref a_isMade])), (a_tape, .inl (cs 1, 400, .inl a_tape_c))]) hP hD [1, 2, 3] [0] rfl rfl (by decide) (by decide) hk1 hFc hP1 hD1
            generalize H1 = H at hP hS ⊢
            have hP : va_P D classes [(a_length, .inl (cs 0, 7, .inl k35_C_a_length)), (a_read, .inl (cs 0, 86, .inl (o92.2 0))), (a, .inr (12, [.ref a_tape, .int a__taped, .int a__rules, .ref a_sign, .ref a_length, .ref a_clause, .ref a_clauses, .ref a_read, .int (o92.1 3), .int (o92.1 4), .int (o92.1 1), .int a__text, .int 0, .int a__deep, .int (o92.1 2), .ref a_open, .int a__opened, .ref a_stack, .int a__top, .ref a_word, .ref a_said, .int a__x, .ref a_worth, .ref a_mate, .ref a_wasSaid, .int a__undone, .int a__boughtNow, .ref a_wayBy, .ref a_wayThen, .int a__walkMost, .int a__walkGoing, .int a__walkSet, .ref a_kept, .long a__drawX, .ref a_images, .ref a_imageX, .ref a_isMade])), (a_tape, .inl (cs 1, 400, .inl a_tape_c))] H := hP
            have hD : va_D A [(a_length, .inl (cs 0, 7, .inl k35_C_a_length)), (a_read, .inl (cs 0, 86, .inl (o92.2 0))), (a, .inr (12, [.ref a_tape, .int a__taped, .int a__rules, .ref a_sign, .ref a_length, .ref a_clause, .ref a_clauses, .ref a_read, .int (o92.1 3), .int (o92.1 4), .int (o92.1 1), .int a__text, .int 0, .int a__deep, .int (o92.1 2), .ref a_open, .int a__opened, .ref a_stack, .int a__top, .ref a_word, .ref a_said, .int a__x, .ref a_worth, .ref a_mate, .ref a_wasSaid, .int a__undone, .int a__boughtNow, .ref a_wayBy, .ref a_wayThen, .int a__walkMost, .int a__walkGoing, .int a__walkSet, .ref a_kept, .long a__drawX, .ref a_images, .ref a_imageX, .ref a_isMade])), (a_tape, .inl (cs 1, 400, .inl a_tape_c))] := hD
            clear hk1 hFc hP1 hD1 hz1
            rcases hw with ⟨rfl, h93, h94, x95, x96, x97⟩ | ⟨rfl, h98, h99, h100, h101, x102, x103⟩
            · have ii104 : 0 ≤ (o92.1 2).toInt ∧ (o92.1 2).toInt ≤ 40 := h93
              have ii105 : 0 ≤ (o92.1 3).toInt ∧ (o92.1 3).toInt ≤ 400 := h94
              refine lv_istore_n (lv' := [(1, .int 0), (0, .ref a)]) hx hb dX12_readsAll_62 rfl hl (by decide) rfl (fun ls hl => ?_)
              refine lv_goto (tgt := 35) hx hb dX12_readsAll_63 (by decide) ?_
              exact ih35 ((0 : Int32)) k35_C_a_length (o92.2 0) (o92.1 3) (o92.1 4) (o92.1 1) (o92.1 2) (by have h9 := hn; omega) h93 h94 (iv_c (by decide)) x96 H locs (hP.sub (ws' := [(a_length, .inl (cs 0, 7, .inl k35_C_a_length)), (a_read, .inl (cs 0, 86, .inl (o92.2 0))), (a, .inr (12, [.ref a_tape, .int a__taped, .int a__rules, .ref a_sign, .ref a_length, .ref a_clause, .ref a_clauses, .ref a_read, .int (o92.1 3), .int (o92.1 4), .int (o92.1 1), .int a__text, .int 0, .int a__deep, .int (o92.1 2), .ref a_open, .int a__opened, .ref a_stack, .int a__top, .ref a_word, .ref a_said, .int a__x, .ref a_worth, .ref a_mate, .ref a_wasSaid, .int a__undone, .int a__boughtNow, .ref a_wayBy, .ref a_wayThen, .int a__walkMost, .int a__walkGoing, .int a__walkSet, .ref a_kept, .long a__drawX, .ref a_images, .ref a_imageX, .ref a_isMade])), (a_tape, .inl (cs 1, 400, .inl a_tape_c))]) [0, 1, 2, 3] rfl) (hD.sub (ws' := [(a_length, .inl (cs 0, 7, .inl k35_C_a_length)), (a_read, .inl (cs 0, 86, .inl (o92.2 0))), (a, .inr (12, [.ref a_tape, .int a__taped, .int a__rules, .ref a_sign, .ref a_length, .ref a_clause, .ref a_clauses, .ref a_read, .int (o92.1 3), .int (o92.1 4), .int (o92.1 1), .int a__text, .int 0, .int a__deep, .int (o92.1 2), .ref a_open, .int a__opened, .ref a_stack, .int a__top, .ref a_word, .ref a_said, .int a__x, .ref a_worth, .ref a_mate, .ref a_wasSaid, .int a__undone, .int a__boughtNow, .ref a_wayBy, .ref a_wayThen, .int a__walkMost, .int a__walkGoing, .int a__walkSet, .ref a_kept, .long a__drawX, .ref a_images, .ref a_imageX, .ref a_isMade])), (a_tape, .inl (cs 1, 400, .inl a_tape_c))]) [0, 1, 2, 3] (by decide) rfl) hS ls (lv_sub hl [0, 1] rfl)
            · have ii106 : 0 ≤ k35_F_a_14.toInt ∧ k35_F_a_14.toInt ≤ 39 := h98
              have ii107 : 1 ≤ a__taped.toInt ∧ a__taped.toInt ≤ 400 := h99
              have ii108 : 1 ≤ (o92.1 2).toInt ∧ (o92.1 2).toInt ≤ 40 := h100
              have ii109 : 0 ≤ (o92.1 3).toInt ∧ (o92.1 3).toInt ≤ 400 := h101
              refine lv_istore_n (lv' := [(1, .int 1), (0, .ref a)]) hx hb dX12_readsAll_62 rfl hl (by decide) rfl (fun ls hl => ?_)
              refine lv_goto (tgt := 35) hx hb dX12_readsAll_63 (by decide) ?_
              exact ih35 ((1 : Int32)) k35_C_a_length (o92.2 0) (o92.1 3) (o92.1 4) (o92.1 1) (o92.1 2) (by have h9 := hn; omega) (iv_w h100 (by decide) (by decide)) h101 (iv_c (by decide)) x103 H locs (hP.sub (ws' := [(a_length, .inl (cs 0, 7, .inl k35_C_a_length)), (a_read, .inl (cs 0, 86, .inl (o92.2 0))), (a, .inr (12, [.ref a_tape, .int a__taped, .int a__rules, .ref a_sign, .ref a_length, .ref a_clause, .ref a_clauses, .ref a_read, .int (o92.1 3), .int (o92.1 4), .int (o92.1 1), .int a__text, .int 0, .int a__deep, .int (o92.1 2), .ref a_open, .int a__opened, .ref a_stack, .int a__top, .ref a_word, .ref a_said, .int a__x, .ref a_worth, .ref a_mate, .ref a_wasSaid, .int a__undone, .int a__boughtNow, .ref a_wayBy, .ref a_wayThen, .int a__walkMost, .int a__walkGoing, .int a__walkSet, .ref a_kept, .long a__drawX, .ref a_images, .ref a_imageX, .ref a_isMade])), (a_tape, .inl (cs 1, 400, .inl a_tape_c))]) [0, 1, 2, 3] rfl) (hD.sub (ws' := [(a_length, .inl (cs 0, 7, .inl k35_C_a_length)), (a_read, .inl (cs 0, 86, .inl (o92.2 0))), (a, .inr (12, [.ref a_tape, .int a__taped, .int a__rules, .ref a_sign, .ref a_length, .ref a_clause, .ref a_clauses, .ref a_read, .int (o92.1 3), .int (o92.1 4), .int (o92.1 1), .int a__text, .int 0, .int a__deep, .int (o92.1 2), .ref a_open, .int a__opened, .ref a_stack, .int a__top, .ref a_word, .ref a_said, .int a__x, .ref a_worth, .ref a_mate, .ref a_wasSaid, .int a__undone, .int a__boughtNow, .ref a_wayBy, .ref a_wayThen, .int a__walkMost, .int a__walkGoing, .int a__walkSet, .ref a_kept, .long a__drawX, .ref a_images, .ref a_imageX, .ref a_isMade])), (a_tape, .inl (cs 1, 400, .inl a_tape_c))]) [0, 1, 2, 3] (by decide) rfl) hS ls (lv_sub hl [0, 1] rfl)
  refine lv_aload_n hx hb dX12_readsAll_0 rfl (lv_at hl 0 rfl) ?_
  refine va_get (D := D) (ci := 12) (v := .ref a_length) (C := RX12) (T := TX12) (N := 37) hx hb hT i_X12 hown hK hP 1 rfl rfl 4 (by decide) (hT _ q_178) (fun _ h9 => h9) rfl dX12_readsAll_1 ?_
  refine lv_aload_n hx hb dX12_readsAll_4 rfl (lv_at hl 0 rfl) ?_
  refine va_get (D := D) (ci := 12) (v := .int a__text) (C := RX12) (T := TX12) (N := 37) hx hb hT i_X12 hown hK hP 1 rfl rfl 11 (by decide) (hT _ q_199) (fun _ h9 => h9) rfl dX12_readsAll_5 ?_
  refine lv_iconst (v := 0) hx hb dX12_readsAll_8 (by decide) ?_
  refine va_iast hx hb hK hP hD hS 2 0 rfl rfl (iv_v h_a__text (by decide) (by decide)) dX12_readsAll_9 (fun H locs hP hD hS => ?_)
  have hP : va_P D classes [(a_read, .inl (cs 0, 86, .inl a_read_c)), (a, .inr (12, [.ref a_tape, .int a__taped, .int a__rules, .ref a_sign, .ref a_length, .ref a_clause, .ref a_clauses, .ref a_read, .int a__next, .int a__wrong, .int a__number, .int a__text, .int a__made, .int a__deep, .int a__lines, .ref a_open, .int a__opened, .ref a_stack, .int a__top, .ref a_word, .ref a_said, .int a__x, .ref a_worth, .ref a_mate, .ref a_wasSaid, .int a__undone, .int a__boughtNow, .ref a_wayBy, .ref a_wayThen, .int a__walkMost, .int a__walkGoing, .int a__walkSet, .ref a_kept, .long a__drawX, .ref a_images, .ref a_imageX, .ref a_isMade])), (a_length, .inl (cs 0, 7, .inl (upd a_length_c (Int32.toNatClampNeg a__text) (0 : Int32)))), (a_tape, .inl (cs 1, 400, .inl a_tape_c))] H := hP
  have hD : va_D A [(a_read, .inl (cs 0, 86, .inl a_read_c)), (a, .inr (12, [.ref a_tape, .int a__taped, .int a__rules, .ref a_sign, .ref a_length, .ref a_clause, .ref a_clauses, .ref a_read, .int a__next, .int a__wrong, .int a__number, .int a__text, .int a__made, .int a__deep, .int a__lines, .ref a_open, .int a__opened, .ref a_stack, .int a__top, .ref a_word, .ref a_said, .int a__x, .ref a_worth, .ref a_mate, .ref a_wasSaid, .int a__undone, .int a__boughtNow, .ref a_wayBy, .ref a_wayThen, .int a__walkMost, .int a__walkGoing, .int a__walkSet, .ref a_kept, .long a__drawX, .ref a_images, .ref a_imageX, .ref a_isMade])), (a_length, .inl (cs 0, 7, .inl (upd a_length_c (Int32.toNatClampNeg a__text) (0 : Int32)))), (a_tape, .inl (cs 1, 400, .inl a_tape_c))] := hD
  obtain ⟨f110, uf110⟩ : ∃ z, z = upd a_length_c (Int32.toNatClampNeg a__text) (0 : Int32) := ⟨_, rfl⟩
  rw [← uf110] at hP hD
  have wf110 : (f110 (Int32.toNatClampNeg a__text)).toInt = 0 := lin_us uf110 (by decide)
  refine lv_aload_n hx hb dX12_readsAll_10 rfl (lv_at hl 0 rfl) ?_
  refine lv_iconst (v := 0) hx hb dX12_readsAll_11 (by decide) ?_
  refine va_put (D := D) (ci := 12) (v := .int 0) (ty := .int) (C := RX12) (T := TX12) (N := 37) hx hb hT i_X12 tyX12 tyX12_ok nmX12 hown hK hP hD hS 1 rfl rfl 14 (by decide) (hT _ q_203) (fun _ h9 => h9) rfl (by decide +kernel) rfl rfl (Nat.le_of_ble_eq_true rfl) dX12_readsAll_12 (fun H locs hP hD hS => ?_)
  have hP : va_P D classes [(a_read, .inl (cs 0, 86, .inl a_read_c)), (a, .inr (12, [.ref a_tape, .int a__taped, .int a__rules, .ref a_sign, .ref a_length, .ref a_clause, .ref a_clauses, .ref a_read, .int a__next, .int a__wrong, .int a__number, .int a__text, .int a__made, .int a__deep, .int 0, .ref a_open, .int a__opened, .ref a_stack, .int a__top, .ref a_word, .ref a_said, .int a__x, .ref a_worth, .ref a_mate, .ref a_wasSaid, .int a__undone, .int a__boughtNow, .ref a_wayBy, .ref a_wayThen, .int a__walkMost, .int a__walkGoing, .int a__walkSet, .ref a_kept, .long a__drawX, .ref a_images, .ref a_imageX, .ref a_isMade])), (a_length, .inl (cs 0, 7, .inl f110)), (a_tape, .inl (cs 1, 400, .inl a_tape_c))] H := hP
  have hD : va_D A [(a_read, .inl (cs 0, 86, .inl a_read_c)), (a, .inr (12, [.ref a_tape, .int a__taped, .int a__rules, .ref a_sign, .ref a_length, .ref a_clause, .ref a_clauses, .ref a_read, .int a__next, .int a__wrong, .int a__number, .int a__text, .int a__made, .int a__deep, .int 0, .ref a_open, .int a__opened, .ref a_stack, .int a__top, .ref a_word, .ref a_said, .int a__x, .ref a_worth, .ref a_mate, .ref a_wasSaid, .int a__undone, .int a__boughtNow, .ref a_wayBy, .ref a_wayThen, .int a__walkMost, .int a__walkGoing, .int a__walkSet, .ref a_kept, .long a__drawX, .ref a_images, .ref a_imageX, .ref a_isMade])), (a_length, .inl (cs 0, 7, .inl f110)), (a_tape, .inl (cs 1, 400, .inl a_tape_c))] := hD
  refine lv_aload_n hx hb dX12_readsAll_15 rfl (lv_at hl 0 rfl) ?_
  refine lv_iconst (v := 0) hx hb dX12_readsAll_16 (by decide) ?_
  refine va_put (D := D) (ci := 12) (v := .int 0) (ty := .int) (C := RX12) (T := TX12) (N := 37) hx hb hT i_X12 tyX12 tyX12_ok nmX12 hown hK hP hD hS 1 rfl rfl 8 (by decide) (hT _ q_197) (fun _ h9 => h9) rfl (by decide +kernel) rfl rfl (Nat.le_of_ble_eq_true rfl) dX12_readsAll_17 (fun H locs hP hD hS => ?_)
  have hP : va_P D classes [(a_read, .inl (cs 0, 86, .inl a_read_c)), (a, .inr (12, [.ref a_tape, .int a__taped, .int a__rules, .ref a_sign, .ref a_length, .ref a_clause, .ref a_clauses, .ref a_read, .int 0, .int a__wrong, .int a__number, .int a__text, .int a__made, .int a__deep, .int 0, .ref a_open, .int a__opened, .ref a_stack, .int a__top, .ref a_word, .ref a_said, .int a__x, .ref a_worth, .ref a_mate, .ref a_wasSaid, .int a__undone, .int a__boughtNow, .ref a_wayBy, .ref a_wayThen, .int a__walkMost, .int a__walkGoing, .int a__walkSet, .ref a_kept, .long a__drawX, .ref a_images, .ref a_imageX, .ref a_isMade])), (a_length, .inl (cs 0, 7, .inl f110)), (a_tape, .inl (cs 1, 400, .inl a_tape_c))] H := hP
  have hD : va_D A [(a_read, .inl (cs 0, 86, .inl a_read_c)), (a, .inr (12, [.ref a_tape, .int a__taped, .int a__rules, .ref a_sign, .ref a_length, .ref a_clause, .ref a_clauses, .ref a_read, .int 0, .int a__wrong, .int a__number, .int a__text, .int a__made, .int a__deep, .int 0, .ref a_open, .int a__opened, .ref a_stack, .int a__top, .ref a_word, .ref a_said, .int a__x, .ref a_worth, .ref a_mate, .ref a_wasSaid, .int a__undone, .int a__boughtNow, .ref a_wayBy, .ref a_wayThen, .int a__walkMost, .int a__walkGoing, .int a__walkSet, .ref a_kept, .long a__drawX, .ref a_images, .ref a_imageX, .ref a_isMade])), (a_length, .inl (cs 0, 7, .inl f110)), (a_tape, .inl (cs 1, 400, .inl a_tape_c))] := hD
  refine lv_aload_n hx hb dX12_readsAll_20 rfl (lv_at hl 0 rfl) ?_
  refine lv_iconst (v := 0) hx hb dX12_readsAll_21 (by decide) ?_
  refine va_put (D := D) (ci := 12) (v := .int 0) (ty := .int) (C := RX12) (T := TX12) (N := 37) hx hb hT i_X12 tyX12 tyX12_ok nmX12 hown hK hP hD hS 1 rfl rfl 9 (by decide) (hT _ q_196) (fun _ h9 => h9) rfl (by decide +kernel) rfl rfl (Nat.le_of_ble_eq_true rfl) dX12_readsAll_22 (fun H locs hP hD hS => ?_)
  have hP : va_P D classes [(a_read, .inl (cs 0, 86, .inl a_read_c)), (a, .inr (12, [.ref a_tape, .int a__taped, .int a__rules, .ref a_sign, .ref a_length, .ref a_clause, .ref a_clauses, .ref a_read, .int 0, .int 0, .int a__number, .int a__text, .int a__made, .int a__deep, .int 0, .ref a_open, .int a__opened, .ref a_stack, .int a__top, .ref a_word, .ref a_said, .int a__x, .ref a_worth, .ref a_mate, .ref a_wasSaid, .int a__undone, .int a__boughtNow, .ref a_wayBy, .ref a_wayThen, .int a__walkMost, .int a__walkGoing, .int a__walkSet, .ref a_kept, .long a__drawX, .ref a_images, .ref a_imageX, .ref a_isMade])), (a_length, .inl (cs 0, 7, .inl f110)), (a_tape, .inl (cs 1, 400, .inl a_tape_c))] H := hP
  have hD : va_D A [(a_read, .inl (cs 0, 86, .inl a_read_c)), (a, .inr (12, [.ref a_tape, .int a__taped, .int a__rules, .ref a_sign, .ref a_length, .ref a_clause, .ref a_clauses, .ref a_read, .int 0, .int 0, .int a__number, .int a__text, .int a__made, .int a__deep, .int 0, .ref a_open, .int a__opened, .ref a_stack, .int a__top, .ref a_word, .ref a_said, .int a__x, .ref a_worth, .ref a_mate, .ref a_wasSaid, .int a__undone, .int a__boughtNow, .ref a_wayBy, .ref a_wayThen, .int a__walkMost, .int a__walkGoing, .int a__walkSet, .ref a_kept, .long a__drawX, .ref a_images, .ref a_imageX, .ref a_isMade])), (a_length, .inl (cs 0, 7, .inl f110)), (a_tape, .inl (cs 1, 400, .inl a_tape_c))] := hD
  refine lv_aload_n hx hb dX12_readsAll_25 rfl (lv_at hl 0 rfl) ?_
  refine lv_iconst (v := 0) hx hb dX12_readsAll_26 (by decide) ?_
  refine va_put (D := D) (ci := 12) (v := .int 0) (ty := .int) (C := RX12) (T := TX12) (N := 37) hx hb hT i_X12 tyX12 tyX12_ok nmX12 hown hK hP hD hS 1 rfl rfl 12 (by decide) (hT _ q_200) (fun _ h9 => h9) rfl (by decide +kernel) rfl rfl (Nat.le_of_ble_eq_true rfl) dX12_readsAll_27 (fun H locs hP hD hS => ?_)
  have hP : va_P D classes [(a_read, .inl (cs 0, 86, .inl a_read_c)), (a, .inr (12, [.ref a_tape, .int a__taped, .int a__rules, .ref a_sign, .ref a_length, .ref a_clause, .ref a_clauses, .ref a_read, .int 0, .int 0, .int a__number, .int a__text, .int 0, .int a__deep, .int 0, .ref a_open, .int a__opened, .ref a_stack, .int a__top, .ref a_word, .ref a_said, .int a__x, .ref a_worth, .ref a_mate, .ref a_wasSaid, .int a__undone, .int a__boughtNow, .ref a_wayBy, .ref a_wayThen, .int a__walkMost, .int a__walkGoing, .int a__walkSet, .ref a_kept, .long a__drawX, .ref a_images, .ref a_imageX, .ref a_isMade])), (a_length, .inl (cs 0, 7, .inl f110)), (a_tape, .inl (cs 1, 400, .inl a_tape_c))] H := hP
  have hD : va_D A [(a_read, .inl (cs 0, 86, .inl a_read_c)), (a, .inr (12, [.ref a_tape, .int a__taped, .int a__rules, .ref a_sign, .ref a_length, .ref a_clause, .ref a_clauses, .ref a_read, .int 0, .int 0, .int a__number, .int a__text, .int 0, .int a__deep, .int 0, .ref a_open, .int a__opened, .ref a_stack, .int a__top, .ref a_word, .ref a_said, .int a__x, .ref a_worth, .ref a_mate, .ref a_wasSaid, .int a__undone, .int a__boughtNow, .ref a_wayBy, .ref a_wayThen, .int a__walkMost, .int a__walkGoing, .int a__walkSet, .ref a_kept, .long a__drawX, .ref a_images, .ref a_imageX, .ref a_isMade])), (a_length, .inl (cs 0, 7, .inl f110)), (a_tape, .inl (cs 1, 400, .inl a_tape_c))] := hD
  refine lv_aload_n hx hb dX12_readsAll_30 rfl (lv_at hl 0 rfl) ?_
  have hFc := va_free (wc := [(a_read, .inl (cs 0, 86, .inl a_read_c)), (a, .inr (12, [.ref a_tape, .int a__taped, .int a__rules, .ref a_sign, .ref a_length, .ref a_clause, .ref a_clauses, .ref a_read, .int 0, .int 0, .int a__number, .int a__text, .int 0, .int a__deep, .int 0, .ref a_open, .int a__opened, .ref a_stack, .int a__top, .ref a_word, .ref a_said, .int a__x, .ref a_worth, .ref a_mate, .ref a_wasSaid, .int a__undone, .int a__boughtNow, .ref a_wayBy, .ref a_wayThen, .int a__walkMost, .int a__walkGoing, .int a__walkSet, .ref a_kept, .long a__drawX, .ref a_images, .ref a_imageX, .ref a_isMade])), (a_tape, .inl (cs 1, 400, .inl a_tape_c))]) hD hS hA [0,1,3] rfl
  refine va_calli (va_runV (As := []) (rest := []) ⟨hx, hb, hml, hown, hT⟩ (c_X12_clauseHere_F l D cs kK kV a a_read a_read_c a_tape a__taped a__rules a_sign a_length a_clause a_clauses 0 0 a__number a__text 0 a__deep 0 a_open a__opened a_stack a__top a_word a_said a__x a_worth a_mate a_wasSaid a__undone a__boughtNow a_wayBy a_wayThen a__walkMost a__walkGoing a__walkSet a_kept a__drawX a_images a_imageX a_isMade a_tape_c h_a__taped h_a__rules ((iv_c (by decide))) h_a__text ((iv_c (by decide))) ((iv_c (by decide))) h_a__opened h_a__top h_a__x h_a__undone hf0 H.size) (cwV 0 hT (hz_gV q_1073 q_1074 q_1075 q_701 q_1076) rfl rfl rfl (by decide +kernel) ⟨(Nat.le_of_ble_eq_true rfl), (Nat.le_of_ble_eq_true rfl)⟩) ⟨hz_C.blind, va_recv hK hP (ci := 12) (q0 := 1) rfl rfl, hz_C.mk (hP.sub (ws' := [(a_read, .inl (cs 0, 86, .inl a_read_c)), (a, .inr (12, [.ref a_tape, .int a__taped, .int a__rules, .ref a_sign, .ref a_length, .ref a_clause, .ref a_clauses, .ref a_read, .int 0, .int 0, .int a__number, .int a__text, .int 0, .int a__deep, .int 0, .ref a_open, .int a__opened, .ref a_stack, .int a__top, .ref a_word, .ref a_said, .int a__x, .ref a_worth, .ref a_mate, .ref a_wasSaid, .int a__undone, .int a__boughtNow, .ref a_wayBy, .ref a_wayThen, .int a__walkMost, .int a__walkGoing, .int a__walkSet, .ref a_kept, .long a__drawX, .ref a_images, .ref a_imageX, .ref a_isMade])), (a_tape, .inl (cs 1, 400, .inl a_tape_c))]) [0,1,3] rfl) (hD.sub (ws' := [(a_read, .inl (cs 0, 86, .inl a_read_c)), (a, .inr (12, [.ref a_tape, .int a__taped, .int a__rules, .ref a_sign, .ref a_length, .ref a_clause, .ref a_clauses, .ref a_read, .int 0, .int 0, .int a__number, .int a__text, .int 0, .int a__deep, .int 0, .ref a_open, .int a__opened, .ref a_stack, .int a__top, .ref a_word, .ref a_said, .int a__x, .ref a_worth, .ref a_mate, .ref a_wasSaid, .int a__undone, .int a__boughtNow, .ref a_wayBy, .ref a_wayThen, .int a__walkMost, .int a__walkGoing, .int a__walkSet, .ref a_kept, .long a__drawX, .ref a_images, .ref a_imageX, .ref a_isMade])), (a_tape, .inl (cs 1, 400, .inl a_tape_c))]) [0,1,3] (by decide) rfl) hE hS hFc⟩ rfl rfl hl.1 rfl (lv_room (Nat.le_of_ble_eq_true rfl)) dX12_readsAll_31 ⟨(Nat.le_of_ble_eq_true rfl), (Nat.le_of_ble_eq_true rfl)⟩) hS (fun q _ h => hFc q h) hFc (fun r111 o112 t H1 locs ht hvm hw hB hz1 hk1 hS => ?_)
  obtain ⟨hP1, hD1⟩ := hB
  rw [ht] at hP1
  obtain ⟨hP, hD⟩ := va_join (wr := [(a_length, .inl (cs 0, 7, .inl f110))]) (w1 := [(a_read, .inl (cs 0, 86, .inl (o112.2 0))), (a, .inr (12, [.ref a_tape, .int a__taped, .int a__rules, .ref a_sign, .ref a_length, .ref a_clause, .ref a_clauses, .ref a_read, .int (o112.1 3), .int (o112.1 4), .int (o112.1 1), .int a__text, .int 0, .int a__deep, .int (o112.1 2), .ref a_open, .int a__opened, .ref a_stack, .int a__top, .ref a_word, .ref a_said, .int a__x, .ref a_worth, .ref a_mate, .ref a_wasSaid, .int a__undone, .int a__boughtNow, .ref a_wayBy, .ref a_wayThen, .int a__walkMost, .int a__walkGoing, .int a__walkSet, .ref a_kept, .long a__drawX, .ref a_images, .ref a_imageX, .ref a_isMade])), (a_tape, .inl (cs 1, 400, .inl a_tape_c))]) hP hD [0, 1, 3] [2] rfl rfl (by decide) (by decide) hk1 hFc hP1 hD1
  generalize H1 = H at hP hS ⊢
  have hP : va_P D classes [(a_length, .inl (cs 0, 7, .inl f110)), (a_read, .inl (cs 0, 86, .inl (o112.2 0))), (a, .inr (12, [.ref a_tape, .int a__taped, .int a__rules, .ref a_sign, .ref a_length, .ref a_clause, .ref a_clauses, .ref a_read, .int (o112.1 3), .int (o112.1 4), .int (o112.1 1), .int a__text, .int 0, .int a__deep, .int (o112.1 2), .ref a_open, .int a__opened, .ref a_stack, .int a__top, .ref a_word, .ref a_said, .int a__x, .ref a_worth, .ref a_mate, .ref a_wasSaid, .int a__undone, .int a__boughtNow, .ref a_wayBy, .ref a_wayThen, .int a__walkMost, .int a__walkGoing, .int a__walkSet, .ref a_kept, .long a__drawX, .ref a_images, .ref a_imageX, .ref a_isMade])), (a_tape, .inl (cs 1, 400, .inl a_tape_c))] H := hP
  have hD : va_D A [(a_length, .inl (cs 0, 7, .inl f110)), (a_read, .inl (cs 0, 86, .inl (o112.2 0))), (a, .inr (12, [.ref a_tape, .int a__taped, .int a__rules, .ref a_sign, .ref a_length, .ref a_clause, .ref a_clauses, .ref a_read, .int (o112.1 3), .int (o112.1 4), .int (o112.1 1), .int a__text, .int 0, .int a__deep, .int (o112.1 2), .ref a_open, .int a__opened, .ref a_stack, .int a__top, .ref a_word, .ref a_said, .int a__x, .ref a_worth, .ref a_mate, .ref a_wasSaid, .int a__undone, .int a__boughtNow, .ref a_wayBy, .ref a_wayThen, .int a__walkMost, .int a__walkGoing, .int a__walkSet, .ref a_kept, .long a__drawX, .ref a_images, .ref a_imageX, .ref a_isMade])), (a_tape, .inl (cs 1, 400, .inl a_tape_c))] := hD
  clear hk1 hFc hP1 hD1 hz1
  rcases hw with ⟨rfl, h113, h114, x115, x116, x117⟩ | ⟨rfl, h118, h119, h120, h121, x122, x123⟩
  · have ii124 : 0 ≤ (o112.1 2).toInt ∧ (o112.1 2).toInt ≤ 40 := h113
    have ii125 : 0 ≤ (o112.1 3).toInt ∧ (o112.1 3).toInt ≤ 400 := h114
    refine lv_istore_n (lv' := [(1, .int 0), (0, .ref a)]) hx hb dX12_readsAll_34 rfl hl (by decide) rfl (fun ls hl => ?_)
    exact K35 _ ((0 : Int32)) f110 (o112.2 0) (o112.1 3) (o112.1 4) (o112.1 1) (o112.1 2) (Nat.le_refl _) h113 h114 (iv_c (by decide)) x116 H locs (hP.sub (ws' := [(a_length, .inl (cs 0, 7, .inl f110)), (a_read, .inl (cs 0, 86, .inl (o112.2 0))), (a, .inr (12, [.ref a_tape, .int a__taped, .int a__rules, .ref a_sign, .ref a_length, .ref a_clause, .ref a_clauses, .ref a_read, .int (o112.1 3), .int (o112.1 4), .int (o112.1 1), .int a__text, .int 0, .int a__deep, .int (o112.1 2), .ref a_open, .int a__opened, .ref a_stack, .int a__top, .ref a_word, .ref a_said, .int a__x, .ref a_worth, .ref a_mate, .ref a_wasSaid, .int a__undone, .int a__boughtNow, .ref a_wayBy, .ref a_wayThen, .int a__walkMost, .int a__walkGoing, .int a__walkSet, .ref a_kept, .long a__drawX, .ref a_images, .ref a_imageX, .ref a_isMade])), (a_tape, .inl (cs 1, 400, .inl a_tape_c))]) [0, 1, 2, 3] rfl) (hD.sub (ws' := [(a_length, .inl (cs 0, 7, .inl f110)), (a_read, .inl (cs 0, 86, .inl (o112.2 0))), (a, .inr (12, [.ref a_tape, .int a__taped, .int a__rules, .ref a_sign, .ref a_length, .ref a_clause, .ref a_clauses, .ref a_read, .int (o112.1 3), .int (o112.1 4), .int (o112.1 1), .int a__text, .int 0, .int a__deep, .int (o112.1 2), .ref a_open, .int a__opened, .ref a_stack, .int a__top, .ref a_word, .ref a_said, .int a__x, .ref a_worth, .ref a_mate, .ref a_wasSaid, .int a__undone, .int a__boughtNow, .ref a_wayBy, .ref a_wayThen, .int a__walkMost, .int a__walkGoing, .int a__walkSet, .ref a_kept, .long a__drawX, .ref a_images, .ref a_imageX, .ref a_isMade])), (a_tape, .inl (cs 1, 400, .inl a_tape_c))]) [0, 1, 2, 3] (by decide) rfl) hS ls (lv_sub hl [0, 1] rfl)
  · have ii126 : 1 ≤ a__taped.toInt ∧ a__taped.toInt ≤ 400 := h119
    have ii127 : 1 ≤ (o112.1 2).toInt ∧ (o112.1 2).toInt ≤ 40 := h120
    have ii128 : 0 ≤ (o112.1 3).toInt ∧ (o112.1 3).toInt ≤ 400 := h121
    refine lv_istore_n (lv' := [(1, .int 1), (0, .ref a)]) hx hb dX12_readsAll_34 rfl hl (by decide) rfl (fun ls hl => ?_)
    exact K35 _ ((1 : Int32)) f110 (o112.2 0) (o112.1 3) (o112.1 4) (o112.1 1) (o112.1 2) (Nat.le_refl _) (iv_w h120 (by decide) (by decide)) h121 (iv_c (by decide)) x123 H locs (hP.sub (ws' := [(a_length, .inl (cs 0, 7, .inl f110)), (a_read, .inl (cs 0, 86, .inl (o112.2 0))), (a, .inr (12, [.ref a_tape, .int a__taped, .int a__rules, .ref a_sign, .ref a_length, .ref a_clause, .ref a_clauses, .ref a_read, .int (o112.1 3), .int (o112.1 4), .int (o112.1 1), .int a__text, .int 0, .int a__deep, .int (o112.1 2), .ref a_open, .int a__opened, .ref a_stack, .int a__top, .ref a_word, .ref a_said, .int a__x, .ref a_worth, .ref a_mate, .ref a_wasSaid, .int a__undone, .int a__boughtNow, .ref a_wayBy, .ref a_wayThen, .int a__walkMost, .int a__walkGoing, .int a__walkSet, .ref a_kept, .long a__drawX, .ref a_images, .ref a_imageX, .ref a_isMade])), (a_tape, .inl (cs 1, 400, .inl a_tape_c))]) [0, 1, 2, 3] rfl) (hD.sub (ws' := [(a_length, .inl (cs 0, 7, .inl f110)), (a_read, .inl (cs 0, 86, .inl (o112.2 0))), (a, .inr (12, [.ref a_tape, .int a__taped, .int a__rules, .ref a_sign, .ref a_length, .ref a_clause, .ref a_clauses, .ref a_read, .int (o112.1 3), .int (o112.1 4), .int (o112.1 1), .int a__text, .int 0, .int a__deep, .int (o112.1 2), .ref a_open, .int a__opened, .ref a_stack, .int a__top, .ref a_word, .ref a_said, .int a__x, .ref a_worth, .ref a_mate, .ref a_wasSaid, .int a__undone, .int a__boughtNow, .ref a_wayBy, .ref a_wayThen, .int a__walkMost, .int a__walkGoing, .int a__walkSet, .ref a_kept, .long a__drawX, .ref a_images, .ref a_imageX, .ref a_isMade])), (a_tape, .inl (cs 1, 400, .inl a_tape_c))]) [0, 1, 2, 3] (by decide) rfl) hS ls (lv_sub hl [0, 1] rfl)
theorem dX12_isFair_0 : decode cX12_isFair 0 = .ok (.aload_n 0, 1) := by decide +kernel
theorem dX12_isFair_1 : decode cX12_isFair 1 = .ok (.getfield 39, 3) := by decide +kernel
theorem dX12_isFair_4 : decode cX12_isFair 4 = .ok (.iconst 0, 1) := by decide +kernel
theorem dX12_isFair_5 : decode cX12_isFair 5 = .ok (.iaload, 1) := by decide +kernel
theorem dX12_isFair_6 : decode cX12_isFair 6 = .ok (.ifCond .le 7, 3) := by decide +kernel
theorem dX12_isFair_9 : decode cX12_isFair 9 = .ok (.iconst 1, 1) := by decide +kernel
theorem dX12_isFair_10 : decode cX12_isFair 10 = .ok (.goto 4, 3) := by decide +kernel
theorem dX12_isFair_13 : decode cX12_isFair 13 = .ok (.iconst 0, 1) := by decide +kernel
theorem dX12_isFair_14 : decode cX12_isFair 14 = .ok (.ireturn, 1) := by decide +kernel
set_option maxHeartbeats 4000000 in
set_option maxRecDepth 100000 in
theorem c_X12_isFair (l : Launch) (D : va_G) (cs : Nat → ClassId) (kK kV : Nat → Nat) (a : Nat) (a_said : Nat) (a_said_c : Nat → Int32) (a_tape : Nat) (a__taped : Int32) (a__rules : Int32) (a_sign : Nat) (a_length : Nat) (a_clause : Nat) (a_clauses : Nat) (a_read : Nat) (a__next : Int32) (a__wrong : Int32) (a__number : Int32) (a__text : Int32) (a__made : Int32) (a__deep : Int32) (a__lines : Int32) (a_open : Nat) (a__opened : Int32) (a_stack : Nat) (a__top : Int32) (a_word : Nat) (a__x : Int32) (a_worth : Nat) (a_mate : Nat) (a_wasSaid : Nat) (a__undone : Int32) (a__boughtNow : Int32) (a_wayBy : Nat) (a_wayThen : Nat) (a__walkMost : Int32) (a__walkGoing : Int32) (a__walkSet : Int32) (a_kept : Nat) (a__drawX : Int64) (a_images : Nat) (a_imageX : Nat) (a_isMade : Nat) (h_a__taped : IV 0 400 a__taped) (h_a__rules : IV 0 6 a__rules) (h_a__next : IV 0 400 a__next) (h_a__text : IV 0 6 a__text) (h_a__made : IV 0 60 a__made) (h_a__lines : IV 0 40 a__lines) (h_a__opened : IV 0 400 a__opened) (h_a__top : IV 0 64 a__top) (h_a__x : IV 0 2147483647 a__x) (h_a__undone : IV 0 20 a__undone) (hf0 : BS a_said_c 200) : Met l yX12_isFair (hz_w yX12_isFair cX12_isFair 1 (some .boolean)) ({ frames := 0, cells := 0, slots := 0, locals := 0 }) (va_Pc [.ref a] (hz_P D cs kK kV [(a_said, .inl (cs 0, 123, .inl a_said_c)), (a, .inr (12, [.ref a_tape, .int a__taped, .int a__rules, .ref a_sign, .ref a_length, .ref a_clause, .ref a_clauses, .ref a_read, .int a__next, .int a__wrong, .int a__number, .int a__text, .int a__made, .int a__deep, .int a__lines, .ref a_open, .int a__opened, .ref a_stack, .int a__top, .ref a_word, .ref a_said, .int a__x, .ref a_worth, .ref a_mate, .ref a_wasSaid, .int a__undone, .int a__boughtNow, .ref a_wayBy, .ref a_wayThen, .int a__walkMost, .int a__walkGoing, .int a__walkSet, .ref a_kept, .long a__drawX, .ref a_images, .ref a_imageX, .ref a_isMade]))])) (va_Qi (fun (r : Int32) (_ : Unit) => (r = 0 ∧ ((a_said_c 0).toInt ≤ 0)) ∨ (r = 1 ∧ (1 ≤ (a_said_c 0).toInt))) (fun _ t => True) (fun _ => False)) 0 0 (fun _ => False) := by
  refine Met.ofW (cc := cX12_isFair) (maxL := 1) (ret := (some .boolean)) (by decide) rfl ?_
  intro p e s m args below meth c s₁ B hml hv
  obtain ⟨rfl, hP, hE⟩ := hv
  have hx := B.exec
  have hb := B.bytes
  have hr := B.returns
  have hT : ∀ w ∈ TB, w.before _ s = true := fun w h => atoms_spec (ws := hz_w yX12_isFair cX12_isFair 1 (some .boolean)) B.pre w (List.mem_cons_of_mem _ h)
  have hown : s.vm.findClass RX12 = some m.cls := findClass_of_methodNamed B.named
  have hlocks := B.notSynchronized
  clear B
  have hS : va_S (fun _ => False) s.heap s.heap [] := va_S.rf
  have hK := hE.1
  have hl := lv_entry ([.ref a]) (n := 1) (Nat.le_of_ble_eq_true rfl)
  rw [lg_entry_eq]
  generalize (lg_sl ([.ref a]) ++ List.replicate (1 - (lg_sl ([.ref a])).length) Slot.unset).toArray = ls at hl ⊢
  have hl : lv_has ls 1 [(0, .ref a)] := hl
  obtain ⟨H, eH⟩ : ∃ z, z = s.heap := ⟨_, rfl⟩
  have hP : va_P D classes [(a_said, .inl (cs 0, 123, .inl a_said_c)), (a, .inr (12, [.ref a_tape, .int a__taped, .int a__rules, .ref a_sign, .ref a_length, .ref a_clause, .ref a_clauses, .ref a_read, .int a__next, .int a__wrong, .int a__number, .int a__text, .int a__made, .int a__deep, .int a__lines, .ref a_open, .int a__opened, .ref a_stack, .int a__top, .ref a_word, .ref a_said, .int a__x, .ref a_worth, .ref a_mate, .ref a_wasSaid, .int a__undone, .int a__boughtNow, .ref a_wayBy, .ref a_wayThen, .int a__walkMost, .int a__walkGoing, .int a__walkSet, .ref a_kept, .long a__drawX, .ref a_images, .ref a_imageX, .ref a_isMade]))] H := by rw [eH]; exact hP
  have hS : va_S (fun _ => False) s.heap H [] := by rw [eH]; exact hS
  rw [← eH]
  clear eH
  obtain ⟨locs, el⟩ : ∃ z : List Loc, z = [] := ⟨_, rfl⟩
  rw [← el] at hS ⊢
  clear el
  have z0 : (0 : Int32).toInt = 0 := by decide
  have z1 : (1 : Int32).toInt = 1 := by decide
  have zm1 : (-1 : Int32).toInt = -1 := by decide
  have i_a__lines : 0 ≤ a__lines.toInt ∧ a__lines.toInt ≤ 40 := h_a__lines
  have i_a__made : 0 ≤ a__made.toInt ∧ a__made.toInt ≤ 60 := h_a__made
  have i_a__next : 0 ≤ a__next.toInt ∧ a__next.toInt ≤ 400 := h_a__next
  have i_a__opened : 0 ≤ a__opened.toInt ∧ a__opened.toInt ≤ 400 := h_a__opened
  have i_a__rules : 0 ≤ a__rules.toInt ∧ a__rules.toInt ≤ 6 := h_a__rules
  have i_a__taped : 0 ≤ a__taped.toInt ∧ a__taped.toInt ≤ 400 := h_a__taped
  have i_a__text : 0 ≤ a__text.toInt ∧ a__text.toInt ≤ 6 := h_a__text
  have i_a__top : 0 ≤ a__top.toInt ∧ a__top.toInt ≤ 64 := h_a__top
  have i_a__undone : 0 ≤ a__undone.toInt ∧ a__undone.toInt ≤ 20 := h_a__undone
  have i_a__x : 0 ≤ a__x.toInt ∧ a__x.toInt ≤ 2147483647 := h_a__x
  refine lv_aload_n hx hb dX12_isFair_0 rfl (lv_at hl 0 rfl) ?_
  refine va_get (D := D) (ci := 12) (v := .ref a_said) (C := RX12) (T := TX12) (N := 37) hx hb hT i_X12 hown hK hP 1 rfl rfl 20 (by decide) (hT _ q_185) (fun _ h9 => h9) rfl dX12_isFair_1 ?_
  refine lv_iconst (v := 0) hx hb dX12_isFair_4 (by decide) ?_
  refine va_iald hx hb hK hP 0 0 rfl rfl (iv_vc (by decide)) dX12_isFair_5 ?_
  refine lv_topi (fun v1 ev1 => ?_)
  have h2 : IV 0 8 v1 := (by rw [ev1]; exact bs_i0 hf0)
  have ii3 : 0 ≤ v1.toInt ∧ v1.toInt ≤ 8 := h2
  have lv1 : v1.toInt = (a_said_c 0).toInt := by rw [ev1]; rfl
  refine lv_if_le (tgt := 13) hx hb dX12_isFair_6 (by decide) (fun c4 => ?_) (fun c4 => ?_)
  · have t5 : v1.toInt ≤ 0 := lin_le c4 rfl (by decide)
    have h6 : IV 0 0 v1 := iv_le1 c4 h2 (iv_c (a := 0) (b := 0) (by decide)) (by decide)
    have ii7 : 0 ≤ v1.toInt ∧ v1.toInt ≤ 0 := h6
    refine lv_iconst (v := 0) hx hb dX12_isFair_13 (by decide) ?_
    have g8 : (a_said_c 0).toInt ≤ 0 := (by omega)
    exact W.zret (v := 0) hx hb hr rfl (fun t ht hW => ⟨⟨0, (), rfl, (Or.inl (⟨rfl, g8⟩)), trivial⟩, hS.F ht⟩) hS.2.2 dX12_isFair_14
  · have t9 : v1.toInt > 0 := lin_leN c4 rfl (by decide)
    have h10 : IV 1 8 v1 := iv_lt2 (Int32.not_le.mp c4) (iv_c (a := 0) (b := 0) (by decide)) h2 (by decide)
    have ii11 : 1 ≤ v1.toInt ∧ v1.toInt ≤ 8 := h10
    refine lv_iconst (v := 1) hx hb dX12_isFair_9 (by decide) ?_
    refine lv_goto (tgt := 14) hx hb dX12_isFair_10 (by decide) ?_
    have g12 : 1 ≤ (a_said_c 0).toInt := (by omega)
    exact W.zret (v := 1) hx hb hr rfl (fun t ht hW => ⟨⟨1, (), rfl, (Or.inr ((⟨rfl, g12⟩))), trivial⟩, hS.F ht⟩) hS.2.2 dX12_isFair_14
theorem dX12_isHalf_0 : decode cX12_isHalf 0 = .ok (.iload_n 1, 1) := by decide +kernel
theorem dX12_isHalf_1 : decode cX12_isHalf 1 = .ok (.ifCond .lt 17, 3) := by decide +kernel
theorem dX12_isHalf_4 : decode cX12_isHalf 4 = .ok (.iload_n 1, 1) := by decide +kernel
theorem dX12_isHalf_5 : decode cX12_isHalf 5 = .ok (.aload_n 0, 1) := by decide +kernel
theorem dX12_isHalf_6 : decode cX12_isHalf 6 = .ok (.getfield 39, 3) := by decide +kernel
theorem dX12_isHalf_9 : decode cX12_isHalf 9 = .ok (.iconst 1, 1) := by decide +kernel
theorem dX12_isHalf_10 : decode cX12_isHalf 10 = .ok (.iaload, 1) := by decide +kernel
theorem dX12_isHalf_11 : decode cX12_isHalf 11 = .ok (.if_icmp .ge 7, 3) := by decide +kernel
theorem dX12_isHalf_14 : decode cX12_isHalf 14 = .ok (.iconst 1, 1) := by decide +kernel
theorem dX12_isHalf_15 : decode cX12_isHalf 15 = .ok (.goto 4, 3) := by decide +kernel
theorem dX12_isHalf_18 : decode cX12_isHalf 18 = .ok (.iconst 0, 1) := by decide +kernel
theorem dX12_isHalf_19 : decode cX12_isHalf 19 = .ok (.ireturn, 1) := by decide +kernel
set_option maxHeartbeats 4000000 in
set_option maxRecDepth 100000 in
theorem c_X12_isHalf (l : Launch) (D : va_G) (cs : Nat → ClassId) (kK kV : Nat → Nat) (a : Nat) (p0 : Int32) (a_said : Nat) (a_said_c : Nat → Int32) (a_tape : Nat) (a__taped : Int32) (a__rules : Int32) (a_sign : Nat) (a_length : Nat) (a_clause : Nat) (a_clauses : Nat) (a_read : Nat) (a__next : Int32) (a__wrong : Int32) (a__number : Int32) (a__text : Int32) (a__made : Int32) (a__deep : Int32) (a__lines : Int32) (a_open : Nat) (a__opened : Int32) (a_stack : Nat) (a__top : Int32) (a_word : Nat) (a__x : Int32) (a_worth : Nat) (a_mate : Nat) (a_wasSaid : Nat) (a__undone : Int32) (a__boughtNow : Int32) (a_wayBy : Nat) (a_wayThen : Nat) (a__walkMost : Int32) (a__walkGoing : Int32) (a__walkSet : Int32) (a_kept : Nat) (a__drawX : Int64) (a_images : Nat) (a_imageX : Nat) (a_isMade : Nat) (h_a__taped : IV 0 400 a__taped) (h_a__rules : IV 0 6 a__rules) (h_a__next : IV 0 400 a__next) (h_a__text : IV 0 6 a__text) (h_a__made : IV 0 60 a__made) (h_a__lines : IV 0 40 a__lines) (h_a__opened : IV 0 400 a__opened) (h_a__top : IV 0 64 a__top) (h_a__x : IV 0 2147483647 a__x) (h_a__undone : IV 0 20 a__undone) (hf0 : BS a_said_c 200) : Met l yX12_isHalf (hz_w yX12_isHalf cX12_isHalf 2 (some .boolean)) ({ frames := 0, cells := 0, slots := 0, locals := 0 }) (va_Pc [.ref a, .int p0] (hz_P D cs kK kV [(a_said, .inl (cs 0, 123, .inl a_said_c)), (a, .inr (12, [.ref a_tape, .int a__taped, .int a__rules, .ref a_sign, .ref a_length, .ref a_clause, .ref a_clauses, .ref a_read, .int a__next, .int a__wrong, .int a__number, .int a__text, .int a__made, .int a__deep, .int a__lines, .ref a_open, .int a__opened, .ref a_stack, .int a__top, .ref a_word, .ref a_said, .int a__x, .ref a_worth, .ref a_mate, .ref a_wasSaid, .int a__undone, .int a__boughtNow, .ref a_wayBy, .ref a_wayThen, .int a__walkMost, .int a__walkGoing, .int a__walkSet, .ref a_kept, .long a__drawX, .ref a_images, .ref a_imageX, .ref a_isMade]))])) (va_Qi (fun (r : Int32) (_ : Unit) => (r = 0 ∧ IV (-2147483648) 2147483647 p0) ∨ (r = 1 ∧ IV 0 11 p0 ∧ (0 ≤ p0.toInt) ∧ (p0.toInt < (a_said_c 1).toInt))) (fun _ t => True) (fun _ => False)) 0 0 (fun _ => False) := by
  refine Met.ofW (cc := cX12_isHalf) (maxL := 2) (ret := (some .boolean)) (by decide) rfl ?_
  intro p e s m args below meth c s₁ B hml hv
  obtain ⟨rfl, hP, hE⟩ := hv
  have hx := B.exec
  have hb := B.bytes
  have hr := B.returns
  have hT : ∀ w ∈ TB, w.before _ s = true := fun w h => atoms_spec (ws := hz_w yX12_isHalf cX12_isHalf 2 (some .boolean)) B.pre w (List.mem_cons_of_mem _ h)
  have hown : s.vm.findClass RX12 = some m.cls := findClass_of_methodNamed B.named
  have hlocks := B.notSynchronized
  clear B
  have hS : va_S (fun _ => False) s.heap s.heap [] := va_S.rf
  have hK := hE.1
  have hl := lv_entry ([.ref a, .int p0]) (n := 2) (Nat.le_of_ble_eq_true rfl)
  rw [lg_entry_eq]
  generalize (lg_sl ([.ref a, .int p0]) ++ List.replicate (2 - (lg_sl ([.ref a, .int p0])).length) Slot.unset).toArray = ls at hl ⊢
  have hl : lv_has ls 2 [(0, .ref a), (1, .int p0)] := hl
  obtain ⟨H, eH⟩ : ∃ z, z = s.heap := ⟨_, rfl⟩
  have hP : va_P D classes [(a_said, .inl (cs 0, 123, .inl a_said_c)), (a, .inr (12, [.ref a_tape, .int a__taped, .int a__rules, .ref a_sign, .ref a_length, .ref a_clause, .ref a_clauses, .ref a_read, .int a__next, .int a__wrong, .int a__number, .int a__text, .int a__made, .int a__deep, .int a__lines, .ref a_open, .int a__opened, .ref a_stack, .int a__top, .ref a_word, .ref a_said, .int a__x, .ref a_worth, .ref a_mate, .ref a_wasSaid, .int a__undone, .int a__boughtNow, .ref a_wayBy, .ref a_wayThen, .int a__walkMost, .int a__walkGoing, .int a__walkSet, .ref a_kept, .long a__drawX, .ref a_images, .ref a_imageX, .ref a_isMade]))] H := by rw [eH]; exact hP
  have hS : va_S (fun _ => False) s.heap H [] := by rw [eH]; exact hS
  rw [← eH]
  clear eH
  obtain ⟨locs, el⟩ : ∃ z : List Loc, z = [] := ⟨_, rfl⟩
  rw [← el] at hS ⊢
  clear el
  have z0 : (0 : Int32).toInt = 0 := by decide
  have z1 : (1 : Int32).toInt = 1 := by decide
  have zm1 : (-1 : Int32).toInt = -1 := by decide
  have i_a__lines : 0 ≤ a__lines.toInt ∧ a__lines.toInt ≤ 40 := h_a__lines
  have i_a__made : 0 ≤ a__made.toInt ∧ a__made.toInt ≤ 60 := h_a__made
  have i_a__next : 0 ≤ a__next.toInt ∧ a__next.toInt ≤ 400 := h_a__next
  have i_a__opened : 0 ≤ a__opened.toInt ∧ a__opened.toInt ≤ 400 := h_a__opened
  have i_a__rules : 0 ≤ a__rules.toInt ∧ a__rules.toInt ≤ 6 := h_a__rules
  have i_a__taped : 0 ≤ a__taped.toInt ∧ a__taped.toInt ≤ 400 := h_a__taped
  have i_a__text : 0 ≤ a__text.toInt ∧ a__text.toInt ≤ 6 := h_a__text
  have i_a__top : 0 ≤ a__top.toInt ∧ a__top.toInt ≤ 64 := h_a__top
  have i_a__undone : 0 ≤ a__undone.toInt ∧ a__undone.toInt ≤ 20 := h_a__undone
  have i_a__x : 0 ≤ a__x.toInt ∧ a__x.toInt ≤ 2147483647 := h_a__x
  refine lv_iload_n hx hb dX12_isHalf_0 rfl (lv_at hl 1 rfl) ?_
  refine lv_if_lt (tgt := 18) hx hb dX12_isHalf_1 (by decide) (fun c1 => ?_) (fun c1 => ?_)
  · have t2 : p0.toInt < 0 := lin_lt c1 rfl (by decide)
    have h3 : IV (-2147483648) (-1) p0 := iv_lt1 c1 iv_top (iv_c (a := 0) (b := 0) (by decide)) (by decide)
    have ii4 : (-2147483648) ≤ p0.toInt ∧ p0.toInt ≤ (-1) := h3
    refine lv_iconst (v := 0) hx hb dX12_isHalf_18 (by decide) ?_
    exact W.zret (v := 0) hx hb hr rfl (fun t ht hW => ⟨⟨0, (), rfl, (Or.inl (⟨rfl, (iv_w h3 (by decide) (by decide))⟩)), trivial⟩, hS.F ht⟩) hS.2.2 dX12_isHalf_19
  · have t5 : p0.toInt ≥ 0 := lin_ltN c1 rfl (by decide)
    have h6 : IV 0 2147483647 p0 := iv_le2 (Int32.not_lt.mp c1) (iv_c (a := 0) (b := 0) (by decide)) iv_top (by decide)
    have ii7 : 0 ≤ p0.toInt ∧ p0.toInt ≤ 2147483647 := h6
    refine lv_iload_n hx hb dX12_isHalf_4 rfl (lv_at hl 1 rfl) ?_
    refine lv_aload_n hx hb dX12_isHalf_5 rfl (lv_at hl 0 rfl) ?_
    refine va_get (D := D) (ci := 12) (v := .ref a_said) (C := RX12) (T := TX12) (N := 37) hx hb hT i_X12 hown hK hP 1 rfl rfl 20 (by decide) (hT _ q_185) (fun _ h9 => h9) rfl dX12_isHalf_6 ?_
    refine lv_iconst (v := 1) hx hb dX12_isHalf_9 (by decide) ?_
    refine va_iald hx hb hK hP 0 0 rfl rfl (iv_vc (by decide)) dX12_isHalf_10 ?_
    refine lv_topi (fun v8 ev8 => ?_)
    have h9 : IV 0 12 v8 := (by rw [ev8]; exact bs_i1 hf0)
    have ii10 : 0 ≤ v8.toInt ∧ v8.toInt ≤ 12 := h9
    have lv8 : v8.toInt = (a_said_c 1).toInt := by rw [ev8]; rfl
    refine lv_icmp_ge (tgt := 18) hx hb dX12_isHalf_11 (by decide) (fun c11 => ?_) (fun c11 => ?_)
    · have t12 : p0.toInt ≥ v8.toInt := lin_ge c11 rfl rfl
      refine lv_iconst (v := 0) hx hb dX12_isHalf_18 (by decide) ?_
      exact W.zret (v := 0) hx hb hr rfl (fun t ht hW => ⟨⟨0, (), rfl, (Or.inl (⟨rfl, (iv_w h6 (by decide) (by decide))⟩)), trivial⟩, hS.F ht⟩) hS.2.2 dX12_isHalf_19
    · have t13 : p0.toInt < v8.toInt := lin_geN c11 rfl rfl
      have h14 : IV 0 11 p0 := iv_lt1 (Int32.not_le.mp c11) h6 h9 (by decide)
      have ii15 : 0 ≤ p0.toInt ∧ p0.toInt ≤ 11 := h14
      have h16 : IV 1 12 v8 := iv_lt2 (Int32.not_le.mp c11) h6 h9 (by decide)
      have ii17 : 1 ≤ v8.toInt ∧ v8.toInt ≤ 12 := h16
      refine lv_iconst (v := 1) hx hb dX12_isHalf_14 (by decide) ?_
      refine lv_goto (tgt := 19) hx hb dX12_isHalf_15 (by decide) ?_
      have g18 : 0 ≤ p0.toInt := (by omega)
      have g19 : p0.toInt < (a_said_c 1).toInt := (by omega)
      exact W.zret (v := 1) hx hb hr rfl (fun t ht hW => ⟨⟨1, (), rfl, (Or.inr ((⟨rfl, h14, g18, g19⟩))), trivial⟩, hS.F ht⟩) hS.2.2 dX12_isHalf_19
theorem dX12_isBuyer_0 : decode cX12_isBuyer 0 = .ok (.iload_n 1, 1) := by decide +kernel
theorem dX12_isBuyer_1 : decode cX12_isBuyer 1 = .ok (.ifCond .lt 17, 3) := by decide +kernel
theorem dX12_isBuyer_4 : decode cX12_isBuyer 4 = .ok (.iload_n 1, 1) := by decide +kernel
theorem dX12_isBuyer_5 : decode cX12_isBuyer 5 = .ok (.aload_n 0, 1) := by decide +kernel
theorem dX12_isBuyer_6 : decode cX12_isBuyer 6 = .ok (.getfield 39, 3) := by decide +kernel
theorem dX12_isBuyer_9 : decode cX12_isBuyer 9 = .ok (.iconst 2, 1) := by decide +kernel
theorem dX12_isBuyer_10 : decode cX12_isBuyer 10 = .ok (.iaload, 1) := by decide +kernel
theorem dX12_isBuyer_11 : decode cX12_isBuyer 11 = .ok (.if_icmp .ge 7, 3) := by decide +kernel
theorem dX12_isBuyer_14 : decode cX12_isBuyer 14 = .ok (.iconst 1, 1) := by decide +kernel
theorem dX12_isBuyer_15 : decode cX12_isBuyer 15 = .ok (.goto 4, 3) := by decide +kernel
theorem dX12_isBuyer_18 : decode cX12_isBuyer 18 = .ok (.iconst 0, 1) := by decide +kernel
theorem dX12_isBuyer_19 : decode cX12_isBuyer 19 = .ok (.ireturn, 1) := by decide +kernel
set_option maxHeartbeats 4000000 in
set_option maxRecDepth 100000 in
theorem c_X12_isBuyer (l : Launch) (D : va_G) (cs : Nat → ClassId) (kK kV : Nat → Nat) (a : Nat) (p0 : Int32) (a_said : Nat) (a_said_c : Nat → Int32) (a_tape : Nat) (a__taped : Int32) (a__rules : Int32) (a_sign : Nat) (a_length : Nat) (a_clause : Nat) (a_clauses : Nat) (a_read : Nat) (a__next : Int32) (a__wrong : Int32) (a__number : Int32) (a__text : Int32) (a__made : Int32) (a__deep : Int32) (a__lines : Int32) (a_open : Nat) (a__opened : Int32) (a_stack : Nat) (a__top : Int32) (a_word : Nat) (a__x : Int32) (a_worth : Nat) (a_mate : Nat) (a_wasSaid : Nat) (a__undone : Int32) (a__boughtNow : Int32) (a_wayBy : Nat) (a_wayThen : Nat) (a__walkMost : Int32) (a__walkGoing : Int32) (a__walkSet : Int32) (a_kept : Nat) (a__drawX : Int64) (a_images : Nat) (a_imageX : Nat) (a_isMade : Nat) (h_a__taped : IV 0 400 a__taped) (h_a__rules : IV 0 6 a__rules) (h_a__next : IV 0 400 a__next) (h_a__text : IV 0 6 a__text) (h_a__made : IV 0 60 a__made) (h_a__lines : IV 0 40 a__lines) (h_a__opened : IV 0 400 a__opened) (h_a__top : IV 0 64 a__top) (h_a__x : IV 0 2147483647 a__x) (h_a__undone : IV 0 20 a__undone) (hf0 : BS a_said_c 200) : Met l yX12_isBuyer (hz_w yX12_isBuyer cX12_isBuyer 2 (some .boolean)) ({ frames := 0, cells := 0, slots := 0, locals := 0 }) (va_Pc [.ref a, .int p0] (hz_P D cs kK kV [(a_said, .inl (cs 0, 123, .inl a_said_c)), (a, .inr (12, [.ref a_tape, .int a__taped, .int a__rules, .ref a_sign, .ref a_length, .ref a_clause, .ref a_clauses, .ref a_read, .int a__next, .int a__wrong, .int a__number, .int a__text, .int a__made, .int a__deep, .int a__lines, .ref a_open, .int a__opened, .ref a_stack, .int a__top, .ref a_word, .ref a_said, .int a__x, .ref a_worth, .ref a_mate, .ref a_wasSaid, .int a__undone, .int a__boughtNow, .ref a_wayBy, .ref a_wayThen, .int a__walkMost, .int a__walkGoing, .int a__walkSet, .ref a_kept, .long a__drawX, .ref a_images, .ref a_imageX, .ref a_isMade]))])) (va_Qi (fun (r : Int32) (_ : Unit) => (r = 0 ∧ IV (-2147483648) 2147483647 p0) ∨ (r = 1 ∧ IV 0 3 p0 ∧ (0 ≤ p0.toInt) ∧ (p0.toInt < (a_said_c 2).toInt))) (fun _ t => True) (fun _ => False)) 0 0 (fun _ => False) := by
  refine Met.ofW (cc := cX12_isBuyer) (maxL := 2) (ret := (some .boolean)) (by decide) rfl ?_
  intro p e s m args below meth c s₁ B hml hv
  obtain ⟨rfl, hP, hE⟩ := hv
  have hx := B.exec
  have hb := B.bytes
  have hr := B.returns
  have hT : ∀ w ∈ TB, w.before _ s = true := fun w h => atoms_spec (ws := hz_w yX12_isBuyer cX12_isBuyer 2 (some .boolean)) B.pre w (List.mem_cons_of_mem _ h)
  have hown : s.vm.findClass RX12 = some m.cls := findClass_of_methodNamed B.named
  have hlocks := B.notSynchronized
  clear B
  have hS : va_S (fun _ => False) s.heap s.heap [] := va_S.rf
  have hK := hE.1
  have hl := lv_entry ([.ref a, .int p0]) (n := 2) (Nat.le_of_ble_eq_true rfl)
  rw [lg_entry_eq]
  generalize (lg_sl ([.ref a, .int p0]) ++ List.replicate (2 - (lg_sl ([.ref a, .int p0])).length) Slot.unset).toArray = ls at hl ⊢
  have hl : lv_has ls 2 [(0, .ref a), (1, .int p0)] := hl
  obtain ⟨H, eH⟩ : ∃ z, z = s.heap := ⟨_, rfl⟩
  have hP : va_P D classes [(a_said, .inl (cs 0, 123, .inl a_said_c)), (a, .inr (12, [.ref a_tape, .int a__taped, .int a__rules, .ref a_sign, .ref a_length, .ref a_clause, .ref a_clauses, .ref a_read, .int a__next, .int a__wrong, .int a__number, .int a__text, .int a__made, .int a__deep, .int a__lines, .ref a_open, .int a__opened, .ref a_stack, .int a__top, .ref a_word, .ref a_said, .int a__x, .ref a_worth, .ref a_mate, .ref a_wasSaid, .int a__undone, .int a__boughtNow, .ref a_wayBy, .ref a_wayThen, .int a__walkMost, .int a__walkGoing, .int a__walkSet, .ref a_kept, .long a__drawX, .ref a_images, .ref a_imageX, .ref a_isMade]))] H := by rw [eH]; exact hP
  have hS : va_S (fun _ => False) s.heap H [] := by rw [eH]; exact hS
  rw [← eH]
  clear eH
  obtain ⟨locs, el⟩ : ∃ z : List Loc, z = [] := ⟨_, rfl⟩
  rw [← el] at hS ⊢
  clear el
  have z0 : (0 : Int32).toInt = 0 := by decide
  have z1 : (1 : Int32).toInt = 1 := by decide
  have zm1 : (-1 : Int32).toInt = -1 := by decide
  have i_a__lines : 0 ≤ a__lines.toInt ∧ a__lines.toInt ≤ 40 := h_a__lines
  have i_a__made : 0 ≤ a__made.toInt ∧ a__made.toInt ≤ 60 := h_a__made
  have i_a__next : 0 ≤ a__next.toInt ∧ a__next.toInt ≤ 400 := h_a__next
  have i_a__opened : 0 ≤ a__opened.toInt ∧ a__opened.toInt ≤ 400 := h_a__opened
  have i_a__rules : 0 ≤ a__rules.toInt ∧ a__rules.toInt ≤ 6 := h_a__rules
  have i_a__taped : 0 ≤ a__taped.toInt ∧ a__taped.toInt ≤ 400 := h_a__taped
  have i_a__text : 0 ≤ a__text.toInt ∧ a__text.toInt ≤ 6 := h_a__text
  have i_a__top : 0 ≤ a__top.toInt ∧ a__top.toInt ≤ 64 := h_a__top
  have i_a__undone : 0 ≤ a__undone.toInt ∧ a__undone.toInt ≤ 20 := h_a__undone
  have i_a__x : 0 ≤ a__x.toInt ∧ a__x.toInt ≤ 2147483647 := h_a__x
  refine lv_iload_n hx hb dX12_isBuyer_0 rfl (lv_at hl 1 rfl) ?_
  refine lv_if_lt (tgt := 18) hx hb dX12_isBuyer_1 (by decide) (fun c1 => ?_) (fun c1 => ?_)
  · have t2 : p0.toInt < 0 := lin_lt c1 rfl (by decide)
    have h3 : IV (-2147483648) (-1) p0 := iv_lt1 c1 iv_top (iv_c (a := 0) (b := 0) (by decide)) (by decide)
    have ii4 : (-2147483648) ≤ p0.toInt ∧ p0.toInt ≤ (-1) := h3
    refine lv_iconst (v := 0) hx hb dX12_isBuyer_18 (by decide) ?_
    exact W.zret (v := 0) hx hb hr rfl (fun t ht hW => ⟨⟨0, (), rfl, (Or.inl (⟨rfl, (iv_w h3 (by decide) (by decide))⟩)), trivial⟩, hS.F ht⟩) hS.2.2 dX12_isBuyer_19
  · have t5 : p0.toInt ≥ 0 := lin_ltN c1 rfl (by decide)
    have h6 : IV 0 2147483647 p0 := iv_le2 (Int32.not_lt.mp c1) (iv_c (a := 0) (b := 0) (by decide)) iv_top (by decide)
    have ii7 : 0 ≤ p0.toInt ∧ p0.toInt ≤ 2147483647 := h6
    refine lv_iload_n hx hb dX12_isBuyer_4 rfl (lv_at hl 1 rfl) ?_
    refine lv_aload_n hx hb dX12_isBuyer_5 rfl (lv_at hl 0 rfl) ?_
    refine va_get (D := D) (ci := 12) (v := .ref a_said) (C := RX12) (T := TX12) (N := 37) hx hb hT i_X12 hown hK hP 1 rfl rfl 20 (by decide) (hT _ q_185) (fun _ h9 => h9) rfl dX12_isBuyer_6 ?_
    refine lv_iconst (v := 2) hx hb dX12_isBuyer_9 (by decide) ?_
    refine va_iald hx hb hK hP 0 0 rfl rfl (iv_vc (by decide)) dX12_isBuyer_10 ?_
    refine lv_topi (fun v8 ev8 => ?_)
    have h9 : IV 0 4 v8 := (by rw [ev8]; exact bs_i2 hf0)
    have ii10 : 0 ≤ v8.toInt ∧ v8.toInt ≤ 4 := h9
    have lv8 : v8.toInt = (a_said_c 2).toInt := by rw [ev8]; rfl
    refine lv_icmp_ge (tgt := 18) hx hb dX12_isBuyer_11 (by decide) (fun c11 => ?_) (fun c11 => ?_)
    · have t12 : p0.toInt ≥ v8.toInt := lin_ge c11 rfl rfl
      refine lv_iconst (v := 0) hx hb dX12_isBuyer_18 (by decide) ?_
      exact W.zret (v := 0) hx hb hr rfl (fun t ht hW => ⟨⟨0, (), rfl, (Or.inl (⟨rfl, (iv_w h6 (by decide) (by decide))⟩)), trivial⟩, hS.F ht⟩) hS.2.2 dX12_isBuyer_19
    · have t13 : p0.toInt < v8.toInt := lin_geN c11 rfl rfl
      have h14 : IV 0 3 p0 := iv_lt1 (Int32.not_le.mp c11) h6 h9 (by decide)
      have ii15 : 0 ≤ p0.toInt ∧ p0.toInt ≤ 3 := h14
      have h16 : IV 1 4 v8 := iv_lt2 (Int32.not_le.mp c11) h6 h9 (by decide)
      have ii17 : 1 ≤ v8.toInt ∧ v8.toInt ≤ 4 := h16
      refine lv_iconst (v := 1) hx hb dX12_isBuyer_14 (by decide) ?_
      refine lv_goto (tgt := 19) hx hb dX12_isBuyer_15 (by decide) ?_
      have g18 : 0 ≤ p0.toInt := (by omega)
      have g19 : p0.toInt < (a_said_c 2).toInt := (by omega)
      exact W.zret (v := 1) hx hb hr rfl (fun t ht hW => ⟨⟨1, (), rfl, (Or.inr ((⟨rfl, h14, g18, g19⟩))), trivial⟩, hS.F ht⟩) hS.2.2 dX12_isBuyer_19
theorem dX12_halfOf_0 : decode cX12_halfOf 0 = .ok (.aload_n 0, 1) := by decide +kernel
theorem dX12_halfOf_1 : decode cX12_halfOf 1 = .ok (.getfield 39, 3) := by decide +kernel
theorem dX12_halfOf_4 : decode cX12_halfOf 4 = .ok (.bipush 10, 2) := by decide +kernel
theorem dX12_halfOf_6 : decode cX12_halfOf 6 = .ok (.iconst 5, 1) := by decide +kernel
theorem dX12_halfOf_7 : decode cX12_halfOf 7 = .ok (.iload_n 1, 1) := by decide +kernel
theorem dX12_halfOf_8 : decode cX12_halfOf 8 = .ok (.imul, 1) := by decide +kernel
theorem dX12_halfOf_9 : decode cX12_halfOf 9 = .ok (.iadd, 1) := by decide +kernel
theorem dX12_halfOf_10 : decode cX12_halfOf 10 = .ok (.iload_n 2, 1) := by decide +kernel
theorem dX12_halfOf_11 : decode cX12_halfOf 11 = .ok (.iadd, 1) := by decide +kernel
theorem dX12_halfOf_12 : decode cX12_halfOf 12 = .ok (.iaload, 1) := by decide +kernel
theorem dX12_halfOf_13 : decode cX12_halfOf 13 = .ok (.ireturn, 1) := by decide +kernel
set_option maxHeartbeats 4000000 in
set_option maxRecDepth 100000 in
theorem c_X12_halfOf (l : Launch) (D : va_G) (cs : Nat → ClassId) (kK kV : Nat → Nat) (a : Nat) (p0 : Int32) (p1 : Int32) (a_tape : Nat) (a__taped : Int32) (a__rules : Int32) (a_sign : Nat) (a_length : Nat) (a_clause : Nat) (a_clauses : Nat) (a_read : Nat) (a__next : Int32) (a__wrong : Int32) (a__number : Int32) (a__text : Int32) (a__made : Int32) (a__deep : Int32) (a__lines : Int32) (a_open : Nat) (a__opened : Int32) (a_stack : Nat) (a__top : Int32) (a_word : Nat) (a_said : Nat) (a__x : Int32) (a_worth : Nat) (a_mate : Nat) (a_wasSaid : Nat) (a__undone : Int32) (a__boughtNow : Int32) (a_wayBy : Nat) (a_wayThen : Nat) (a__walkMost : Int32) (a__walkGoing : Int32) (a__walkSet : Int32) (a_kept : Nat) (a__drawX : Int64) (a_images : Nat) (a_imageX : Nat) (a_isMade : Nat) (a_said_c : Nat → Int32) (h_p0 : IV 0 11 p0) (h_p1 : IV 0 4 p1) (h_a__taped : IV 0 400 a__taped) (h_a__rules : IV 0 6 a__rules) (h_a__next : IV 0 400 a__next) (h_a__text : IV 0 6 a__text) (h_a__made : IV 0 60 a__made) (h_a__lines : IV 0 40 a__lines) (h_a__opened : IV 0 400 a__opened) (h_a__top : IV 0 64 a__top) (h_a__x : IV 0 2147483647 a__x) (h_a__undone : IV 0 20 a__undone) : Met l yX12_halfOf (hz_w yX12_halfOf cX12_halfOf 3 (some .int)) ({ frames := 0, cells := 0, slots := 0, locals := 0 }) (va_Pc [.ref a, .int p0, .int p1] (hz_P D cs kK kV [(a, .inr (12, [.ref a_tape, .int a__taped, .int a__rules, .ref a_sign, .ref a_length, .ref a_clause, .ref a_clauses, .ref a_read, .int a__next, .int a__wrong, .int a__number, .int a__text, .int a__made, .int a__deep, .int a__lines, .ref a_open, .int a__opened, .ref a_stack, .int a__top, .ref a_word, .ref a_said, .int a__x, .ref a_worth, .ref a_mate, .ref a_wasSaid, .int a__undone, .int a__boughtNow, .ref a_wayBy, .ref a_wayThen, .int a__walkMost, .int a__walkGoing, .int a__walkSet, .ref a_kept, .long a__drawX, .ref a_images, .ref a_imageX, .ref a_isMade])), (a_said, .inl (cs 0, 123, .inl a_said_c))])) (va_Qi (fun (r : Int32) (_ : Unit) => ((r = a_said_c (10 + 5 * p0.toInt.toNat + p1.toInt.toNat)))) (fun _ t => True) (fun _ => False)) 0 0 (fun _ => False) := by
  refine Met.ofW (cc := cX12_halfOf) (maxL := 3) (ret := (some .int)) (by decide) rfl ?_
  intro p e s m args below meth c s₁ B hml hv
  obtain ⟨rfl, hP, hE⟩ := hv
  have hx := B.exec
  have hb := B.bytes
  have hr := B.returns
  have hT : ∀ w ∈ TB, w.before _ s = true := fun w h => atoms_spec (ws := hz_w yX12_halfOf cX12_halfOf 3 (some .int)) B.pre w (List.mem_cons_of_mem _ h)
  have hown : s.vm.findClass RX12 = some m.cls := findClass_of_methodNamed B.named
  have hlocks := B.notSynchronized
  clear B
  have hS : va_S (fun _ => False) s.heap s.heap [] := va_S.rf
  have hK := hE.1
  have hl := lv_entry ([.ref a, .int p0, .int p1]) (n := 3) (Nat.le_of_ble_eq_true rfl)
  rw [lg_entry_eq]
  generalize (lg_sl ([.ref a, .int p0, .int p1]) ++ List.replicate (3 - (lg_sl ([.ref a, .int p0, .int p1])).length) Slot.unset).toArray = ls at hl ⊢
  have hl : lv_has ls 3 [(0, .ref a), (1, .int p0), (2, .int p1)] := hl
  obtain ⟨H, eH⟩ : ∃ z, z = s.heap := ⟨_, rfl⟩
  have hP : va_P D classes [(a, .inr (12, [.ref a_tape, .int a__taped, .int a__rules, .ref a_sign, .ref a_length, .ref a_clause, .ref a_clauses, .ref a_read, .int a__next, .int a__wrong, .int a__number, .int a__text, .int a__made, .int a__deep, .int a__lines, .ref a_open, .int a__opened, .ref a_stack, .int a__top, .ref a_word, .ref a_said, .int a__x, .ref a_worth, .ref a_mate, .ref a_wasSaid, .int a__undone, .int a__boughtNow, .ref a_wayBy, .ref a_wayThen, .int a__walkMost, .int a__walkGoing, .int a__walkSet, .ref a_kept, .long a__drawX, .ref a_images, .ref a_imageX, .ref a_isMade])), (a_said, .inl (cs 0, 123, .inl a_said_c))] H := by rw [eH]; exact hP
  have hS : va_S (fun _ => False) s.heap H [] := by rw [eH]; exact hS
  rw [← eH]
  clear eH
  obtain ⟨locs, el⟩ : ∃ z : List Loc, z = [] := ⟨_, rfl⟩
  rw [← el] at hS ⊢
  clear el
  have z0 : (0 : Int32).toInt = 0 := by decide
  have z1 : (1 : Int32).toInt = 1 := by decide
  have zm1 : (-1 : Int32).toInt = -1 := by decide
  have i_a__lines : 0 ≤ a__lines.toInt ∧ a__lines.toInt ≤ 40 := h_a__lines
  have i_a__made : 0 ≤ a__made.toInt ∧ a__made.toInt ≤ 60 := h_a__made
  have i_a__next : 0 ≤ a__next.toInt ∧ a__next.toInt ≤ 400 := h_a__next
  have i_a__opened : 0 ≤ a__opened.toInt ∧ a__opened.toInt ≤ 400 := h_a__opened
  have i_a__rules : 0 ≤ a__rules.toInt ∧ a__rules.toInt ≤ 6 := h_a__rules
  have i_a__taped : 0 ≤ a__taped.toInt ∧ a__taped.toInt ≤ 400 := h_a__taped
  have i_a__text : 0 ≤ a__text.toInt ∧ a__text.toInt ≤ 6 := h_a__text
  have i_a__top : 0 ≤ a__top.toInt ∧ a__top.toInt ≤ 64 := h_a__top
  have i_a__undone : 0 ≤ a__undone.toInt ∧ a__undone.toInt ≤ 20 := h_a__undone
  have i_a__x : 0 ≤ a__x.toInt ∧ a__x.toInt ≤ 2147483647 := h_a__x
  have i_p0 : 0 ≤ p0.toInt ∧ p0.toInt ≤ 11 := h_p0
  have i_p1 : 0 ≤ p1.toInt ∧ p1.toInt ≤ 4 := h_p1
  refine lv_aload_n hx hb dX12_halfOf_0 rfl (lv_at hl 0 rfl) ?_
  refine va_get (D := D) (ci := 12) (v := .ref a_said) (C := RX12) (T := TX12) (N := 37) hx hb hT i_X12 hown hK hP 0 rfl rfl 20 (by decide) (hT _ q_185) (fun _ h9 => h9) rfl dX12_halfOf_1 ?_
  refine lv_bipush (v := 10) hx hb dX12_halfOf_4 (by decide) ?_
  refine lv_iconst (v := 5) hx hb dX12_halfOf_6 (by decide) ?_
  refine lv_iload_n hx hb dX12_halfOf_7 rfl (lv_at hl 1 rfl) ?_
  refine lv_imul hx hb dX12_halfOf_8 ?_
  refine lv_topi (fun v1 ev1 => ?_)
  have hv1 : IV 0 55 v1 := iv_mul ev1 (iv_c (a := 5) (b := 5) (by decide)) h_p0 (by decide) (by decide) (by decide) (by decide)
  have ii2 : 0 ≤ v1.toInt ∧ v1.toInt ≤ 55 := hv1
  have lv1 : v1.toInt = 5 * p0.toInt := lin_mul ev1 (iv_c (a := 5) (b := 5) (by decide)) h_p0 (by decide) rfl (by decide) (by decide) (by decide) (by decide)
  refine lv_iadd hx hb dX12_halfOf_9 ?_
  refine lv_topi (fun v3 ev3 => ?_)
  have hv3 : IV 10 65 v3 := iv_add ev3 (iv_c (a := 10) (b := 10) (by decide)) hv1 (by decide) (by decide)
  have ii4 : 10 ≤ v3.toInt ∧ v3.toInt ≤ 65 := hv3
  have lv3 : v3.toInt = 10 + v1.toInt := lin_add ev3 (iv_c (a := 10) (b := 10) (by decide)) hv1 (by decide) rfl (by decide) (by decide)
  refine lv_iload_n hx hb dX12_halfOf_10 rfl (lv_at hl 2 rfl) ?_
  refine lv_iadd hx hb dX12_halfOf_11 ?_
  refine lv_topi (fun v5 ev5 => ?_)
  have hv5 : IV 10 69 v5 := iv_add ev5 hv3 h_p1 (by decide) (by decide)
  have ii6 : 10 ≤ v5.toInt ∧ v5.toInt ≤ 69 := hv5
  have lv5 : v5.toInt = v3.toInt + p1.toInt := lin_add ev5 hv3 h_p1 rfl rfl (by decide) (by decide)
  refine va_iald hx hb hK hP 1 0 rfl rfl (iv_v hv5 (by decide) (by decide)) dX12_halfOf_12 ?_
  refine lv_topi (fun v7 ev7 => ?_)
  have lv7 : v7.toInt = (a_said_c (Int32.toNatClampNeg v5)).toInt := by rw [ev7]
  have g8 : v7 = a_said_c (10 + 5 * p0.toInt.toNat + p1.toInt.toNat) := (by rw [ev7]; show a_said_c (v5.toInt.toNat) = _; congr 1; omega)
  exact W.iret (v := v7) hx hb hr (fun t ht hW => ⟨⟨v7, (), rfl, (g8), trivial⟩, hS.F ht⟩) hS.2.2 dX12_halfOf_13
theorem dX12_buyerOf_0 : decode cX12_buyerOf 0 = .ok (.aload_n 0, 1) := by decide +kernel
theorem dX12_buyerOf_1 : decode cX12_buyerOf 1 = .ok (.getfield 39, 3) := by decide +kernel
theorem dX12_buyerOf_4 : decode cX12_buyerOf 4 = .ok (.bipush 70, 2) := by decide +kernel
theorem dX12_buyerOf_6 : decode cX12_buyerOf 6 = .ok (.iconst 4, 1) := by decide +kernel
theorem dX12_buyerOf_7 : decode cX12_buyerOf 7 = .ok (.iload_n 1, 1) := by decide +kernel
theorem dX12_buyerOf_8 : decode cX12_buyerOf 8 = .ok (.imul, 1) := by decide +kernel
theorem dX12_buyerOf_9 : decode cX12_buyerOf 9 = .ok (.iadd, 1) := by decide +kernel
theorem dX12_buyerOf_10 : decode cX12_buyerOf 10 = .ok (.iload_n 2, 1) := by decide +kernel
theorem dX12_buyerOf_11 : decode cX12_buyerOf 11 = .ok (.iadd, 1) := by decide +kernel
theorem dX12_buyerOf_12 : decode cX12_buyerOf 12 = .ok (.iaload, 1) := by decide +kernel
theorem dX12_buyerOf_13 : decode cX12_buyerOf 13 = .ok (.ireturn, 1) := by decide +kernel
set_option maxHeartbeats 4000000 in
set_option maxRecDepth 100000 in
theorem c_X12_buyerOf (l : Launch) (D : va_G) (cs : Nat → ClassId) (kK kV : Nat → Nat) (a : Nat) (p0 : Int32) (p1 : Int32) (a_said : Nat) (a_said_c : Nat → Int32) (a_tape : Nat) (a__taped : Int32) (a__rules : Int32) (a_sign : Nat) (a_length : Nat) (a_clause : Nat) (a_clauses : Nat) (a_read : Nat) (a__next : Int32) (a__wrong : Int32) (a__number : Int32) (a__text : Int32) (a__made : Int32) (a__deep : Int32) (a__lines : Int32) (a_open : Nat) (a__opened : Int32) (a_stack : Nat) (a__top : Int32) (a_word : Nat) (a__x : Int32) (a_worth : Nat) (a_mate : Nat) (a_wasSaid : Nat) (a__undone : Int32) (a__boughtNow : Int32) (a_wayBy : Nat) (a_wayThen : Nat) (a__walkMost : Int32) (a__walkGoing : Int32) (a__walkSet : Int32) (a_kept : Nat) (a__drawX : Int64) (a_images : Nat) (a_imageX : Nat) (a_isMade : Nat) (h_p0 : IV 0 3 p0) (h_p1 : IV 0 3 p1) (h_a__taped : IV 0 400 a__taped) (h_a__rules : IV 0 6 a__rules) (h_a__next : IV 0 400 a__next) (h_a__text : IV 0 6 a__text) (h_a__made : IV 0 60 a__made) (h_a__lines : IV 0 40 a__lines) (h_a__opened : IV 0 400 a__opened) (h_a__top : IV 0 64 a__top) (h_a__x : IV 0 2147483647 a__x) (h_a__undone : IV 0 20 a__undone) (hf0 : BS a_said_c 200) : Met l yX12_buyerOf (hz_w yX12_buyerOf cX12_buyerOf 3 (some .int)) ({ frames := 0, cells := 0, slots := 0, locals := 0 }) (va_Pc [.ref a, .int p0, .int p1] (hz_P D cs kK kV [(a_said, .inl (cs 0, 123, .inl a_said_c)), (a, .inr (12, [.ref a_tape, .int a__taped, .int a__rules, .ref a_sign, .ref a_length, .ref a_clause, .ref a_clauses, .ref a_read, .int a__next, .int a__wrong, .int a__number, .int a__text, .int a__made, .int a__deep, .int a__lines, .ref a_open, .int a__opened, .ref a_stack, .int a__top, .ref a_word, .ref a_said, .int a__x, .ref a_worth, .ref a_mate, .ref a_wasSaid, .int a__undone, .int a__boughtNow, .ref a_wayBy, .ref a_wayThen, .int a__walkMost, .int a__walkGoing, .int a__walkSet, .ref a_kept, .long a__drawX, .ref a_images, .ref a_imageX, .ref a_isMade]))])) (va_Qi (fun (r : Int32) (_ : Unit) => ((r = a_said_c (70 + 4 * p0.toInt.toNat + p1.toInt.toNat)) ∧ (p1.toInt = 1 → p0.toInt < (a_said_c 2).toInt → 0 ≤ r.toInt ∧ r.toInt < (a_said_c 0).toInt))) (fun _ t => True) (fun _ => False)) 0 0 (fun _ => False) := by
  refine Met.ofW (cc := cX12_buyerOf) (maxL := 3) (ret := (some .int)) (by decide) rfl ?_
  intro p e s m args below meth c s₁ B hml hv
  obtain ⟨rfl, hP, hE⟩ := hv
  have hx := B.exec
  have hb := B.bytes
  have hr := B.returns
  have hT : ∀ w ∈ TB, w.before _ s = true := fun w h => atoms_spec (ws := hz_w yX12_buyerOf cX12_buyerOf 3 (some .int)) B.pre w (List.mem_cons_of_mem _ h)
  have hown : s.vm.findClass RX12 = some m.cls := findClass_of_methodNamed B.named
  have hlocks := B.notSynchronized
  clear B
  have hS : va_S (fun _ => False) s.heap s.heap [] := va_S.rf
  have hK := hE.1
  have hl := lv_entry ([.ref a, .int p0, .int p1]) (n := 3) (Nat.le_of_ble_eq_true rfl)
  rw [lg_entry_eq]
  generalize (lg_sl ([.ref a, .int p0, .int p1]) ++ List.replicate (3 - (lg_sl ([.ref a, .int p0, .int p1])).length) Slot.unset).toArray = ls at hl ⊢
  have hl : lv_has ls 3 [(0, .ref a), (1, .int p0), (2, .int p1)] := hl
  obtain ⟨H, eH⟩ : ∃ z, z = s.heap := ⟨_, rfl⟩
  have hP : va_P D classes [(a_said, .inl (cs 0, 123, .inl a_said_c)), (a, .inr (12, [.ref a_tape, .int a__taped, .int a__rules, .ref a_sign, .ref a_length, .ref a_clause, .ref a_clauses, .ref a_read, .int a__next, .int a__wrong, .int a__number, .int a__text, .int a__made, .int a__deep, .int a__lines, .ref a_open, .int a__opened, .ref a_stack, .int a__top, .ref a_word, .ref a_said, .int a__x, .ref a_worth, .ref a_mate, .ref a_wasSaid, .int a__undone, .int a__boughtNow, .ref a_wayBy, .ref a_wayThen, .int a__walkMost, .int a__walkGoing, .int a__walkSet, .ref a_kept, .long a__drawX, .ref a_images, .ref a_imageX, .ref a_isMade]))] H := by rw [eH]; exact hP
  have hS : va_S (fun _ => False) s.heap H [] := by rw [eH]; exact hS
  rw [← eH]
  clear eH
  obtain ⟨locs, el⟩ : ∃ z : List Loc, z = [] := ⟨_, rfl⟩
  rw [← el] at hS ⊢
  clear el
  have z0 : (0 : Int32).toInt = 0 := by decide
  have z1 : (1 : Int32).toInt = 1 := by decide
  have zm1 : (-1 : Int32).toInt = -1 := by decide
  have i_a__lines : 0 ≤ a__lines.toInt ∧ a__lines.toInt ≤ 40 := h_a__lines
  have i_a__made : 0 ≤ a__made.toInt ∧ a__made.toInt ≤ 60 := h_a__made
  have i_a__next : 0 ≤ a__next.toInt ∧ a__next.toInt ≤ 400 := h_a__next
  have i_a__opened : 0 ≤ a__opened.toInt ∧ a__opened.toInt ≤ 400 := h_a__opened
  have i_a__rules : 0 ≤ a__rules.toInt ∧ a__rules.toInt ≤ 6 := h_a__rules
  have i_a__taped : 0 ≤ a__taped.toInt ∧ a__taped.toInt ≤ 400 := h_a__taped
  have i_a__text : 0 ≤ a__text.toInt ∧ a__text.toInt ≤ 6 := h_a__text
  have i_a__top : 0 ≤ a__top.toInt ∧ a__top.toInt ≤ 64 := h_a__top
  have i_a__undone : 0 ≤ a__undone.toInt ∧ a__undone.toInt ≤ 20 := h_a__undone
  have i_a__x : 0 ≤ a__x.toInt ∧ a__x.toInt ≤ 2147483647 := h_a__x
  have i_p0 : 0 ≤ p0.toInt ∧ p0.toInt ≤ 3 := h_p0
  have i_p1 : 0 ≤ p1.toInt ∧ p1.toInt ≤ 3 := h_p1
  refine lv_aload_n hx hb dX12_buyerOf_0 rfl (lv_at hl 0 rfl) ?_
  refine va_get (D := D) (ci := 12) (v := .ref a_said) (C := RX12) (T := TX12) (N := 37) hx hb hT i_X12 hown hK hP 1 rfl rfl 20 (by decide) (hT _ q_185) (fun _ h9 => h9) rfl dX12_buyerOf_1 ?_
  refine lv_bipush (v := 70) hx hb dX12_buyerOf_4 (by decide) ?_
  refine lv_iconst (v := 4) hx hb dX12_buyerOf_6 (by decide) ?_
  refine lv_iload_n hx hb dX12_buyerOf_7 rfl (lv_at hl 1 rfl) ?_
  refine lv_imul hx hb dX12_buyerOf_8 ?_
  refine lv_topi (fun v1 ev1 => ?_)
  have hv1 : IV 0 12 v1 := iv_mul ev1 (iv_c (a := 4) (b := 4) (by decide)) h_p0 (by decide) (by decide) (by decide) (by decide)
  have ii2 : 0 ≤ v1.toInt ∧ v1.toInt ≤ 12 := hv1
  have lv1 : v1.toInt = 4 * p0.toInt := lin_mul ev1 (iv_c (a := 4) (b := 4) (by decide)) h_p0 (by decide) rfl (by decide) (by decide) (by decide) (by decide)
  refine lv_iadd hx hb dX12_buyerOf_9 ?_
  refine lv_topi (fun v3 ev3 => ?_)
  have hv3 : IV 70 82 v3 := iv_add ev3 (iv_c (a := 70) (b := 70) (by decide)) hv1 (by decide) (by decide)
  have ii4 : 70 ≤ v3.toInt ∧ v3.toInt ≤ 82 := hv3
  have lv3 : v3.toInt = 70 + v1.toInt := lin_add ev3 (iv_c (a := 70) (b := 70) (by decide)) hv1 (by decide) rfl (by decide) (by decide)
  refine lv_iload_n hx hb dX12_buyerOf_10 rfl (lv_at hl 2 rfl) ?_
  refine lv_iadd hx hb dX12_buyerOf_11 ?_
  refine lv_topi (fun v5 ev5 => ?_)
  have hv5 : IV 70 85 v5 := iv_add ev5 hv3 h_p1 (by decide) (by decide)
  have ii6 : 70 ≤ v5.toInt ∧ v5.toInt ≤ 85 := hv5
  have lv5 : v5.toInt = v3.toInt + p1.toInt := lin_add ev5 hv3 h_p1 rfl rfl (by decide) (by decide)
  refine va_iald hx hb hK hP 0 0 rfl rfl (iv_v hv5 (by decide) (by decide)) dX12_buyerOf_12 ?_
  refine lv_topi (fun v7 ev7 => ?_)
  have lv7 : v7.toInt = (a_said_c (Int32.toNatClampNeg v5)).toInt := by rw [ev7]
  have g8 : v7 = a_said_c (70 + 4 * p0.toInt.toNat + p1.toInt.toNat) := (by rw [ev7]; show a_said_c (v5.toInt.toNat) = _; congr 1; omega)
  have g9 : p1.toInt = 1 → p0.toInt < (a_said_c 2).toInt → 0 ≤ v7.toInt ∧ v7.toInt < (a_said_c 0).toInt := (fun z1 z2 => by have q := hf0.2.2.2.2.2 p0.toInt.toNat (by omega) (by omega); rw [(show v7 = a_said_c (71 + 4 * p0.toInt.toNat) from (by rw [ev7]; show a_said_c (v5.toInt.toNat) = _; congr 1; omega))]; exact q)
  exact W.iret (v := v7) hx hb hr (fun t ht hW => ⟨⟨v7, (), rfl, (⟨g8, g9⟩), trivial⟩, hS.F ht⟩) hS.2.2 dX12_buyerOf_13
theorem dX12_isDusk_0 : decode cX12_isDusk 0 = .ok (.aload_n 0, 1) := by decide +kernel
theorem dX12_isDusk_1 : decode cX12_isDusk 1 = .ok (.getfield 39, 3) := by decide +kernel
theorem dX12_isDusk_4 : decode cX12_isDusk 4 = .ok (.iconst 3, 1) := by decide +kernel
theorem dX12_isDusk_5 : decode cX12_isDusk 5 = .ok (.iaload, 1) := by decide +kernel
theorem dX12_isDusk_6 : decode cX12_isDusk 6 = .ok (.aload_n 0, 1) := by decide +kernel
theorem dX12_isDusk_7 : decode cX12_isDusk 7 = .ok (.getfield 39, 3) := by decide +kernel
theorem dX12_isDusk_10 : decode cX12_isDusk 10 = .ok (.bipush 6, 2) := by decide +kernel
theorem dX12_isDusk_12 : decode cX12_isDusk 12 = .ok (.iaload, 1) := by decide +kernel
theorem dX12_isDusk_13 : decode cX12_isDusk 13 = .ok (.if_icmp .lt 7, 3) := by decide +kernel
theorem dX12_isDusk_16 : decode cX12_isDusk 16 = .ok (.iconst 1, 1) := by decide +kernel
theorem dX12_isDusk_17 : decode cX12_isDusk 17 = .ok (.goto 4, 3) := by decide +kernel
theorem dX12_isDusk_20 : decode cX12_isDusk 20 = .ok (.iconst 0, 1) := by decide +kernel
theorem dX12_isDusk_21 : decode cX12_isDusk 21 = .ok (.ireturn, 1) := by decide +kernel
set_option maxHeartbeats 4000000 in
set_option maxRecDepth 100000 in
theorem c_X12_isDusk (l : Launch) (D : va_G) (cs : Nat → ClassId) (kK kV : Nat → Nat) (a : Nat) (a_tape : Nat) (a__taped : Int32) (a__rules : Int32) (a_sign : Nat) (a_length : Nat) (a_clause : Nat) (a_clauses : Nat) (a_read : Nat) (a__next : Int32) (a__wrong : Int32) (a__number : Int32) (a__text : Int32) (a__made : Int32) (a__deep : Int32) (a__lines : Int32) (a_open : Nat) (a__opened : Int32) (a_stack : Nat) (a__top : Int32) (a_word : Nat) (a_said : Nat) (a__x : Int32) (a_worth : Nat) (a_mate : Nat) (a_wasSaid : Nat) (a__undone : Int32) (a__boughtNow : Int32) (a_wayBy : Nat) (a_wayThen : Nat) (a__walkMost : Int32) (a__walkGoing : Int32) (a__walkSet : Int32) (a_kept : Nat) (a__drawX : Int64) (a_images : Nat) (a_imageX : Nat) (a_isMade : Nat) (a_said_c : Nat → Int32) (h_a__taped : IV 0 400 a__taped) (h_a__rules : IV 0 6 a__rules) (h_a__next : IV 0 400 a__next) (h_a__text : IV 0 6 a__text) (h_a__made : IV 0 60 a__made) (h_a__lines : IV 0 40 a__lines) (h_a__opened : IV 0 400 a__opened) (h_a__top : IV 0 64 a__top) (h_a__x : IV 0 2147483647 a__x) (h_a__undone : IV 0 20 a__undone) : Met l yX12_isDusk (hz_w yX12_isDusk cX12_isDusk 1 (some .boolean)) ({ frames := 0, cells := 0, slots := 0, locals := 0 }) (va_Pc [.ref a] (hz_P D cs kK kV [(a, .inr (12, [.ref a_tape, .int a__taped, .int a__rules, .ref a_sign, .ref a_length, .ref a_clause, .ref a_clauses, .ref a_read, .int a__next, .int a__wrong, .int a__number, .int a__text, .int a__made, .int a__deep, .int a__lines, .ref a_open, .int a__opened, .ref a_stack, .int a__top, .ref a_word, .ref a_said, .int a__x, .ref a_worth, .ref a_mate, .ref a_wasSaid, .int a__undone, .int a__boughtNow, .ref a_wayBy, .ref a_wayThen, .int a__walkMost, .int a__walkGoing, .int a__walkSet, .ref a_kept, .long a__drawX, .ref a_images, .ref a_imageX, .ref a_isMade])), (a_said, .inl (cs 0, 123, .inl a_said_c))])) (va_Qi (fun (r : Int32) (_ : Unit) => (r = 0 ∧ ((a_said_c 3).toInt < (a_said_c 6).toInt)) ∨ (r = 1)) (fun _ t => True) (fun _ => False)) 0 0 (fun _ => False) := by
  refine Met.ofW (cc := cX12_isDusk) (maxL := 1) (ret := (some .boolean)) (by decide) rfl ?_
  intro p e s m args below meth c s₁ B hml hv
  obtain ⟨rfl, hP, hE⟩ := hv
  have hx := B.exec
  have hb := B.bytes
  have hr := B.returns
  have hT : ∀ w ∈ TB, w.before _ s = true := fun w h => atoms_spec (ws := hz_w yX12_isDusk cX12_isDusk 1 (some .boolean)) B.pre w (List.mem_cons_of_mem _ h)
  have hown : s.vm.findClass RX12 = some m.cls := findClass_of_methodNamed B.named
  have hlocks := B.notSynchronized
  clear B
  have hS : va_S (fun _ => False) s.heap s.heap [] := va_S.rf
  have hK := hE.1
  have hl := lv_entry ([.ref a]) (n := 1) (Nat.le_of_ble_eq_true rfl)
  rw [lg_entry_eq]
  generalize (lg_sl ([.ref a]) ++ List.replicate (1 - (lg_sl ([.ref a])).length) Slot.unset).toArray = ls at hl ⊢
  have hl : lv_has ls 1 [(0, .ref a)] := hl
  obtain ⟨H, eH⟩ : ∃ z, z = s.heap := ⟨_, rfl⟩
  have hP : va_P D classes [(a, .inr (12, [.ref a_tape, .int a__taped, .int a__rules, .ref a_sign, .ref a_length, .ref a_clause, .ref a_clauses, .ref a_read, .int a__next, .int a__wrong, .int a__number, .int a__text, .int a__made, .int a__deep, .int a__lines, .ref a_open, .int a__opened, .ref a_stack, .int a__top, .ref a_word, .ref a_said, .int a__x, .ref a_worth, .ref a_mate, .ref a_wasSaid, .int a__undone, .int a__boughtNow, .ref a_wayBy, .ref a_wayThen, .int a__walkMost, .int a__walkGoing, .int a__walkSet, .ref a_kept, .long a__drawX, .ref a_images, .ref a_imageX, .ref a_isMade])), (a_said, .inl (cs 0, 123, .inl a_said_c))] H := by rw [eH]; exact hP
  have hS : va_S (fun _ => False) s.heap H [] := by rw [eH]; exact hS
  rw [← eH]
  clear eH
  obtain ⟨locs, el⟩ : ∃ z : List Loc, z = [] := ⟨_, rfl⟩
  rw [← el] at hS ⊢
  clear el
  have z0 : (0 : Int32).toInt = 0 := by decide
  have z1 : (1 : Int32).toInt = 1 := by decide
  have zm1 : (-1 : Int32).toInt = -1 := by decide
  have i_a__lines : 0 ≤ a__lines.toInt ∧ a__lines.toInt ≤ 40 := h_a__lines
  have i_a__made : 0 ≤ a__made.toInt ∧ a__made.toInt ≤ 60 := h_a__made
  have i_a__next : 0 ≤ a__next.toInt ∧ a__next.toInt ≤ 400 := h_a__next
  have i_a__opened : 0 ≤ a__opened.toInt ∧ a__opened.toInt ≤ 400 := h_a__opened
  have i_a__rules : 0 ≤ a__rules.toInt ∧ a__rules.toInt ≤ 6 := h_a__rules
  have i_a__taped : 0 ≤ a__taped.toInt ∧ a__taped.toInt ≤ 400 := h_a__taped
  have i_a__text : 0 ≤ a__text.toInt ∧ a__text.toInt ≤ 6 := h_a__text
  have i_a__top : 0 ≤ a__top.toInt ∧ a__top.toInt ≤ 64 := h_a__top
  have i_a__undone : 0 ≤ a__undone.toInt ∧ a__undone.toInt ≤ 20 := h_a__undone
  have i_a__x : 0 ≤ a__x.toInt ∧ a__x.toInt ≤ 2147483647 := h_a__x
  refine lv_aload_n hx hb dX12_isDusk_0 rfl (lv_at hl 0 rfl) ?_
  refine va_get (D := D) (ci := 12) (v := .ref a_said) (C := RX12) (T := TX12) (N := 37) hx hb hT i_X12 hown hK hP 0 rfl rfl 20 (by decide) (hT _ q_185) (fun _ h9 => h9) rfl dX12_isDusk_1 ?_
  refine lv_iconst (v := 3) hx hb dX12_isDusk_4 (by decide) ?_
  refine va_iald hx hb hK hP 1 0 rfl rfl (iv_vc (by decide)) dX12_isDusk_5 ?_
  refine lv_topi (fun v1 ev1 => ?_)
  have lv1 : v1.toInt = (a_said_c 3).toInt := by rw [ev1]; rfl
  refine lv_aload_n hx hb dX12_isDusk_6 rfl (lv_at hl 0 rfl) ?_
  refine va_get (D := D) (ci := 12) (v := .ref a_said) (C := RX12) (T := TX12) (N := 37) hx hb hT i_X12 hown hK hP 0 rfl rfl 20 (by decide) (hT _ q_185) (fun _ h9 => h9) rfl dX12_isDusk_7 ?_
  refine lv_bipush (v := 6) hx hb dX12_isDusk_10 (by decide) ?_
  refine va_iald hx hb hK hP 1 0 rfl rfl (iv_vc (by decide)) dX12_isDusk_12 ?_
  refine lv_topi (fun v2 ev2 => ?_)
  have lv2 : v2.toInt = (a_said_c 6).toInt := by rw [ev2]; rfl
  refine lv_icmp_lt (tgt := 20) hx hb dX12_isDusk_13 (by decide) (fun c3 => ?_) (fun c3 => ?_)
  · have t4 : v1.toInt < v2.toInt := lin_lt c3 rfl rfl
    have h5 : IV (-2147483648) 2147483646 v1 := iv_lt1 c3 iv_top iv_top (by decide)
    have ii6 : (-2147483648) ≤ v1.toInt ∧ v1.toInt ≤ 2147483646 := h5
    have h7 : IV (-2147483647) 2147483647 v2 := iv_lt2 c3 iv_top iv_top (by decide)
    have ii8 : (-2147483647) ≤ v2.toInt ∧ v2.toInt ≤ 2147483647 := h7
    refine lv_iconst (v := 0) hx hb dX12_isDusk_20 (by decide) ?_
    have g9 : (a_said_c 3).toInt < (a_said_c 6).toInt := (by omega)
    exact W.zret (v := 0) hx hb hr rfl (fun t ht hW => ⟨⟨0, (), rfl, (Or.inl (⟨rfl, g9⟩)), trivial⟩, hS.F ht⟩) hS.2.2 dX12_isDusk_21
  · have t10 : v1.toInt ≥ v2.toInt := lin_ltN c3 rfl rfl
    refine lv_iconst (v := 1) hx hb dX12_isDusk_16 (by decide) ?_
    refine lv_goto (tgt := 21) hx hb dX12_isDusk_17 (by decide) ?_
    exact W.zret (v := 1) hx hb hr rfl (fun t ht hW => ⟨⟨1, (), rfl, (Or.inr ((rfl))), trivial⟩, hS.F ht⟩) hS.2.2 dX12_isDusk_21
theorem dX12_priceOf_0 : decode cX12_priceOf 0 = .ok (.aload_n 0, 1) := by decide +kernel
theorem dX12_priceOf_1 : decode cX12_priceOf 1 = .ok (.invokevirtual 298, 3) := by decide +kernel
theorem dX12_priceOf_4 : decode cX12_priceOf 4 = .ok (.ifCond .eq 13, 3) := by decide +kernel
theorem dX12_priceOf_7 : decode cX12_priceOf 7 = .ok (.aload_n 0, 1) := by decide +kernel
theorem dX12_priceOf_8 : decode cX12_priceOf 8 = .ok (.getfield 39, 3) := by decide +kernel
theorem dX12_priceOf_11 : decode cX12_priceOf 11 = .ok (.bipush 7, 2) := by decide +kernel
theorem dX12_priceOf_13 : decode cX12_priceOf 13 = .ok (.iaload, 1) := by decide +kernel
theorem dX12_priceOf_14 : decode cX12_priceOf 14 = .ok (.goto 9, 3) := by decide +kernel
theorem dX12_priceOf_17 : decode cX12_priceOf 17 = .ok (.aload_n 0, 1) := by decide +kernel
theorem dX12_priceOf_18 : decode cX12_priceOf 18 = .ok (.iload_n 1, 1) := by decide +kernel
theorem dX12_priceOf_19 : decode cX12_priceOf 19 = .ok (.iconst 2, 1) := by decide +kernel
theorem dX12_priceOf_20 : decode cX12_priceOf 20 = .ok (.invokevirtual 301, 3) := by decide +kernel
theorem dX12_priceOf_23 : decode cX12_priceOf 23 = .ok (.ireturn, 1) := by decide +kernel
set_option maxHeartbeats 4000000 in
set_option maxRecDepth 100000 in
theorem c_X12_priceOf (l : Launch) (D : va_G) (cs : Nat → ClassId) (kK kV : Nat → Nat) (a : Nat) (p0 : Int32) (a_tape : Nat) (a__taped : Int32) (a__rules : Int32) (a_sign : Nat) (a_length : Nat) (a_clause : Nat) (a_clauses : Nat) (a_read : Nat) (a__next : Int32) (a__wrong : Int32) (a__number : Int32) (a__text : Int32) (a__made : Int32) (a__deep : Int32) (a__lines : Int32) (a_open : Nat) (a__opened : Int32) (a_stack : Nat) (a__top : Int32) (a_word : Nat) (a_said : Nat) (a__x : Int32) (a_worth : Nat) (a_mate : Nat) (a_wasSaid : Nat) (a__undone : Int32) (a__boughtNow : Int32) (a_wayBy : Nat) (a_wayThen : Nat) (a__walkMost : Int32) (a__walkGoing : Int32) (a__walkSet : Int32) (a_kept : Nat) (a__drawX : Int64) (a_images : Nat) (a_imageX : Nat) (a_isMade : Nat) (a_said_c : Nat → Int32) (h_p0 : IV 0 11 p0) (h_a__taped : IV 0 400 a__taped) (h_a__rules : IV 0 6 a__rules) (h_a__next : IV 0 400 a__next) (h_a__text : IV 0 6 a__text) (h_a__made : IV 0 60 a__made) (h_a__lines : IV 0 40 a__lines) (h_a__opened : IV 0 400 a__opened) (h_a__top : IV 0 64 a__top) (h_a__x : IV 0 2147483647 a__x) (h_a__undone : IV 0 20 a__undone) : Met l yX12_priceOf (hz_w yX12_priceOf cX12_priceOf 2 (some .int)) ({ frames := 1, cells := 0, slots := 0, locals := 22 }) (va_Pc [.ref a, .int p0] (hz_P D cs kK kV [(a, .inr (12, [.ref a_tape, .int a__taped, .int a__rules, .ref a_sign, .ref a_length, .ref a_clause, .ref a_clauses, .ref a_read, .int a__next, .int a__wrong, .int a__number, .int a__text, .int a__made, .int a__deep, .int a__lines, .ref a_open, .int a__opened, .ref a_stack, .int a__top, .ref a_word, .ref a_said, .int a__x, .ref a_worth, .ref a_mate, .ref a_wasSaid, .int a__undone, .int a__boughtNow, .ref a_wayBy, .ref a_wayThen, .int a__walkMost, .int a__walkGoing, .int a__walkSet, .ref a_kept, .long a__drawX, .ref a_images, .ref a_imageX, .ref a_isMade])), (a_said, .inl (cs 0, 123, .inl a_said_c))])) (va_Qi (fun (r : Int32) (_ : Unit) => True) (fun _ t => True) (fun _ => False)) 0 0 (fun _ => False) := by
  refine Met.ofW (cc := cX12_priceOf) (maxL := 2) (ret := (some .int)) (by decide) rfl ?_
  intro p e s m args below meth c s₁ B hml hv
  obtain ⟨rfl, hP, hE⟩ := hv
  have hx := B.exec
  have hb := B.bytes
  have hr := B.returns
  have hT : ∀ w ∈ TB, w.before _ s = true := fun w h => atoms_spec (ws := hz_w yX12_priceOf cX12_priceOf 2 (some .int)) B.pre w (List.mem_cons_of_mem _ h)
  have hown : s.vm.findClass RX12 = some m.cls := findClass_of_methodNamed B.named
  have hlocks := B.notSynchronized
  clear B
  have hS : va_S (fun _ => False) s.heap s.heap [] := va_S.rf
  have hK := hE.1
  have hl := lv_entry ([.ref a, .int p0]) (n := 2) (Nat.le_of_ble_eq_true rfl)
  rw [lg_entry_eq]
  generalize (lg_sl ([.ref a, .int p0]) ++ List.replicate (2 - (lg_sl ([.ref a, .int p0])).length) Slot.unset).toArray = ls at hl ⊢
  have hl : lv_has ls 2 [(0, .ref a), (1, .int p0)] := hl
  obtain ⟨H, eH⟩ : ∃ z, z = s.heap := ⟨_, rfl⟩
  have hP : va_P D classes [(a, .inr (12, [.ref a_tape, .int a__taped, .int a__rules, .ref a_sign, .ref a_length, .ref a_clause, .ref a_clauses, .ref a_read, .int a__next, .int a__wrong, .int a__number, .int a__text, .int a__made, .int a__deep, .int a__lines, .ref a_open, .int a__opened, .ref a_stack, .int a__top, .ref a_word, .ref a_said, .int a__x, .ref a_worth, .ref a_mate, .ref a_wasSaid, .int a__undone, .int a__boughtNow, .ref a_wayBy, .ref a_wayThen, .int a__walkMost, .int a__walkGoing, .int a__walkSet, .ref a_kept, .long a__drawX, .ref a_images, .ref a_imageX, .ref a_isMade])), (a_said, .inl (cs 0, 123, .inl a_said_c))] H := by rw [eH]; exact hP
  have hS : va_S (fun _ => False) s.heap H [] := by rw [eH]; exact hS
  rw [← eH]
  clear eH
  obtain ⟨locs, el⟩ : ∃ z : List Loc, z = [] := ⟨_, rfl⟩
  rw [← el] at hS ⊢
  clear el
  have z0 : (0 : Int32).toInt = 0 := by decide
  have z1 : (1 : Int32).toInt = 1 := by decide
  have zm1 : (-1 : Int32).toInt = -1 := by decide
  have i_a__lines : 0 ≤ a__lines.toInt ∧ a__lines.toInt ≤ 40 := h_a__lines
  have i_a__made : 0 ≤ a__made.toInt ∧ a__made.toInt ≤ 60 := h_a__made
  have i_a__next : 0 ≤ a__next.toInt ∧ a__next.toInt ≤ 400 := h_a__next
  have i_a__opened : 0 ≤ a__opened.toInt ∧ a__opened.toInt ≤ 400 := h_a__opened
  have i_a__rules : 0 ≤ a__rules.toInt ∧ a__rules.toInt ≤ 6 := h_a__rules
  have i_a__taped : 0 ≤ a__taped.toInt ∧ a__taped.toInt ≤ 400 := h_a__taped
  have i_a__text : 0 ≤ a__text.toInt ∧ a__text.toInt ≤ 6 := h_a__text
  have i_a__top : 0 ≤ a__top.toInt ∧ a__top.toInt ≤ 64 := h_a__top
  have i_a__undone : 0 ≤ a__undone.toInt ∧ a__undone.toInt ≤ 20 := h_a__undone
  have i_a__x : 0 ≤ a__x.toInt ∧ a__x.toInt ≤ 2147483647 := h_a__x
  have i_p0 : 0 ≤ p0.toInt ∧ p0.toInt ≤ 11 := h_p0
  refine lv_aload_n hx hb dX12_priceOf_0 rfl (lv_at hl 0 rfl) ?_
  refine va_calli (va_runV (As := []) (rest := []) ⟨hx, hb, hml, hown, hT⟩ (c_X12_isDusk l D cs kK kV a a_tape a__taped a__rules a_sign a_length a_clause a_clauses a_read a__next a__wrong a__number a__text a__made a__deep a__lines a_open a__opened a_stack a__top a_word a_said a__x a_worth a_mate a_wasSaid a__undone a__boughtNow a_wayBy a_wayThen a__walkMost a__walkGoing a__walkSet a_kept a__drawX a_images a_imageX a_isMade a_said_c h_a__taped h_a__rules h_a__next h_a__text h_a__made h_a__lines h_a__opened h_a__top h_a__x h_a__undone) (cwV 0 hT (hz_gV q_1100 q_1101 q_1102 q_701 q_1103) rfl rfl rfl (by decide +kernel) ⟨(Nat.le_of_ble_eq_true rfl), (Nat.le_of_ble_eq_true rfl)⟩) ⟨hz_P.blind, va_recv hK hP (ci := 12) (q0 := 0) rfl rfl, hz_P.mk (hP.sub (ws' := [(a, .inr (12, [.ref a_tape, .int a__taped, .int a__rules, .ref a_sign, .ref a_length, .ref a_clause, .ref a_clauses, .ref a_read, .int a__next, .int a__wrong, .int a__number, .int a__text, .int a__made, .int a__deep, .int a__lines, .ref a_open, .int a__opened, .ref a_stack, .int a__top, .ref a_word, .ref a_said, .int a__x, .ref a_worth, .ref a_mate, .ref a_wasSaid, .int a__undone, .int a__boughtNow, .ref a_wayBy, .ref a_wayThen, .int a__walkMost, .int a__walkGoing, .int a__walkSet, .ref a_kept, .long a__drawX, .ref a_images, .ref a_imageX, .ref a_isMade])), (a_said, .inl (cs 0, 123, .inl a_said_c))]) [0,1] rfl) hE hS⟩ rfl rfl hl.1 rfl (lv_room (Nat.le_of_ble_eq_true rfl)) dX12_priceOf_1 ⟨(Nat.le_of_ble_eq_true rfl), (Nat.le_of_ble_eq_true rfl)⟩) hS (fun _ _ h => h.elim) (fun _ h => h.elim) (fun r1 u t H1 locs ht hvm hw hB hz1 hk1 hS => ?_)
  have hP := hz_keep hP hk1
  clear hk1 hB hz1
  generalize H1 = H at hP hS ⊢
  rcases hw with ⟨rfl, x2⟩ | rfl
  · refine lv_if_eq (tgt := 17) hx hb dX12_priceOf_4 (by decide) (fun _ => ?_) (fun z => absurd (by decide) z)
    refine lv_aload_n hx hb dX12_priceOf_17 rfl (lv_at hl 0 rfl) ?_
    refine lv_iload_n hx hb dX12_priceOf_18 rfl (lv_at hl 1 rfl) ?_
    refine lv_iconst (v := 2) hx hb dX12_priceOf_19 (by decide) ?_
    refine va_calli (va_runV (As := [.int p0, .int 2]) (rest := []) ⟨hx, hb, hml, hown, hT⟩ (c_X12_halfOf l D cs kK kV a p0 2 a_tape a__taped a__rules a_sign a_length a_clause a_clauses a_read a__next a__wrong a__number a__text a__made a__deep a__lines a_open a__opened a_stack a__top a_word a_said a__x a_worth a_mate a_wasSaid a__undone a__boughtNow a_wayBy a_wayThen a__walkMost a__walkGoing a__walkSet a_kept a__drawX a_images a_imageX a_isMade a_said_c h_p0 ((iv_c (by decide))) h_a__taped h_a__rules h_a__next h_a__text h_a__made h_a__lines h_a__opened h_a__top h_a__x h_a__undone) (cwV 2 hT (hz_gV q_1104 q_1105 q_1106 q_701 q_1107) rfl rfl rfl (by decide +kernel) ⟨(Nat.le_of_ble_eq_true rfl), (Nat.le_of_ble_eq_true rfl)⟩) ⟨hz_P.blind, va_recv hK hP (ci := 12) (q0 := 0) rfl rfl, hz_P.mk (hP.sub (ws' := [(a, .inr (12, [.ref a_tape, .int a__taped, .int a__rules, .ref a_sign, .ref a_length, .ref a_clause, .ref a_clauses, .ref a_read, .int a__next, .int a__wrong, .int a__number, .int a__text, .int a__made, .int a__deep, .int a__lines, .ref a_open, .int a__opened, .ref a_stack, .int a__top, .ref a_word, .ref a_said, .int a__x, .ref a_worth, .ref a_mate, .ref a_wasSaid, .int a__undone, .int a__boughtNow, .ref a_wayBy, .ref a_wayThen, .int a__walkMost, .int a__walkGoing, .int a__walkSet, .ref a_kept, .long a__drawX, .ref a_images, .ref a_imageX, .ref a_isMade])), (a_said, .inl (cs 0, 123, .inl a_said_c))]) [0,1] rfl) hE hS⟩ rfl rfl hl.1 rfl (lv_room (Nat.le_of_ble_eq_true rfl)) dX12_priceOf_20 ⟨(Nat.le_of_ble_eq_true rfl), (Nat.le_of_ble_eq_true rfl)⟩) hS (fun _ _ h => h.elim) (fun _ h => h.elim) (fun r3 u t H1 locs ht hvm hw hB hz1 hk1 hS => ?_)
    have hP := hz_keep hP hk1
    clear hk1 hB hz1
    generalize H1 = H at hP hS ⊢
    have x4 := hw
    have z2 : (2 : Int32).toInt = 2 := by decide
    exact W.iret (v := r3) hx hb hr (fun t ht hW => ⟨⟨r3, (), rfl, trivial, trivial⟩, hS.F ht⟩) hS.2.2 dX12_priceOf_23
  · refine lv_if_eq (tgt := 17) hx hb dX12_priceOf_4 (by decide) (fun z => absurd z (by decide)) (fun _ => ?_)
    refine lv_aload_n hx hb dX12_priceOf_7 rfl (lv_at hl 0 rfl) ?_
    refine va_get (D := D) (ci := 12) (v := .ref a_said) (C := RX12) (T := TX12) (N := 37) hx hb hT i_X12 hown hK hP 0 rfl rfl 20 (by decide) (hT _ q_185) (fun _ h9 => h9) rfl dX12_priceOf_8 ?_
    refine lv_bipush (v := 7) hx hb dX12_priceOf_11 (by decide) ?_
    refine va_iald hx hb hK hP 1 0 rfl rfl (iv_vc (by decide)) dX12_priceOf_13 ?_
    refine lv_topi (fun v5 ev5 => ?_)
    have lv5 : v5.toInt = (a_said_c 7).toInt := by rw [ev5]; rfl
    refine lv_goto (tgt := 23) hx hb dX12_priceOf_14 (by decide) ?_
    exact W.iret (v := v5) hx hb hr (fun t ht hW => ⟨⟨v5, (), rfl, trivial, trivial⟩, hS.F ht⟩) hS.2.2 dX12_priceOf_23
theorem dX12_spotAt_0 : decode cX12_spotAt 0 = .ok (.iload_n 1, 1) := by decide +kernel
theorem dX12_spotAt_1 : decode cX12_spotAt 1 = .ok (.iload_n 2, 1) := by decide +kernel
theorem dX12_spotAt_2 : decode cX12_spotAt 2 = .ok (.aload_n 0, 1) := by decide +kernel
theorem dX12_spotAt_3 : decode cX12_spotAt 3 = .ok (.getfield 39, 3) := by decide +kernel
theorem dX12_spotAt_6 : decode cX12_spotAt 6 = .ok (.iconst 4, 1) := by decide +kernel
theorem dX12_spotAt_7 : decode cX12_spotAt 7 = .ok (.iaload, 1) := by decide +kernel
theorem dX12_spotAt_8 : decode cX12_spotAt 8 = .ok (.imul, 1) := by decide +kernel
theorem dX12_spotAt_9 : decode cX12_spotAt 9 = .ok (.iadd, 1) := by decide +kernel
theorem dX12_spotAt_10 : decode cX12_spotAt 10 = .ok (.aload_n 0, 1) := by decide +kernel
theorem dX12_spotAt_11 : decode cX12_spotAt 11 = .ok (.getfield 39, 3) := by decide +kernel
theorem dX12_spotAt_14 : decode cX12_spotAt 14 = .ok (.iconst 0, 1) := by decide +kernel
theorem dX12_spotAt_15 : decode cX12_spotAt 15 = .ok (.iaload, 1) := by decide +kernel
theorem dX12_spotAt_16 : decode cX12_spotAt 16 = .ok (.irem, 1) := by decide +kernel
theorem dX12_spotAt_17 : decode cX12_spotAt 17 = .ok (.ireturn, 1) := by decide +kernel
set_option maxHeartbeats 4000000 in
set_option maxRecDepth 100000 in
theorem c_X12_spotAt (l : Launch) (D : va_G) (cs : Nat → ClassId) (kK kV : Nat → Nat) (a : Nat) (p0 : Int32) (p1 : Int32) (a_said : Nat) (a_said_c : Nat → Int32) (a_tape : Nat) (a__taped : Int32) (a__rules : Int32) (a_sign : Nat) (a_length : Nat) (a_clause : Nat) (a_clauses : Nat) (a_read : Nat) (a__next : Int32) (a__wrong : Int32) (a__number : Int32) (a__text : Int32) (a__made : Int32) (a__deep : Int32) (a__lines : Int32) (a_open : Nat) (a__opened : Int32) (a_stack : Nat) (a__top : Int32) (a_word : Nat) (a__x : Int32) (a_worth : Nat) (a_mate : Nat) (a_wasSaid : Nat) (a__undone : Int32) (a__boughtNow : Int32) (a_wayBy : Nat) (a_wayThen : Nat) (a__walkMost : Int32) (a__walkGoing : Int32) (a__walkSet : Int32) (a_kept : Nat) (a__drawX : Int64) (a_images : Nat) (a_imageX : Nat) (a_isMade : Nat) (h_p1 : IV 0 300 p1) (h_a__taped : IV 0 400 a__taped) (h_a__rules : IV 0 6 a__rules) (h_a__next : IV 0 400 a__next) (h_a__text : IV 0 6 a__text) (h_a__made : IV 0 60 a__made) (h_a__lines : IV 0 40 a__lines) (h_a__opened : IV 0 400 a__opened) (h_a__top : IV 0 64 a__top) (h_a__x : IV 0 2147483647 a__x) (h_a__undone : IV 0 20 a__undone) (hf0 : BS a_said_c 200) (hf1 : 1 ≤ (a_said_c 0).toInt) : Met l yX12_spotAt (hz_w yX12_spotAt cX12_spotAt 3 (some .int)) ({ frames := 0, cells := 0, slots := 0, locals := 0 }) (va_Pc [.ref a, .int p0, .int p1] (hz_P D cs kK kV [(a_said, .inl (cs 0, 123, .inl a_said_c)), (a, .inr (12, [.ref a_tape, .int a__taped, .int a__rules, .ref a_sign, .ref a_length, .ref a_clause, .ref a_clauses, .ref a_read, .int a__next, .int a__wrong, .int a__number, .int a__text, .int a__made, .int a__deep, .int a__lines, .ref a_open, .int a__opened, .ref a_stack, .int a__top, .ref a_word, .ref a_said, .int a__x, .ref a_worth, .ref a_mate, .ref a_wasSaid, .int a__undone, .int a__boughtNow, .ref a_wayBy, .ref a_wayThen, .int a__walkMost, .int a__walkGoing, .int a__walkSet, .ref a_kept, .long a__drawX, .ref a_images, .ref a_imageX, .ref a_isMade]))])) (va_Qi (fun (r : Int32) (_ : Unit) => (IV (-7) 7 r ∧ (r = RM (p0 + p1 * a_said_c 4) (a_said_c 0)))) (fun _ t => True) (fun _ => False)) 0 0 (fun _ => False) := by
  refine Met.ofW (cc := cX12_spotAt) (maxL := 3) (ret := (some .int)) (by decide) rfl ?_
  intro p e s m args below meth c s₁ B hml hv
  obtain ⟨rfl, hP, hE⟩ := hv
  have hx := B.exec
  have hb := B.bytes
  have hr := B.returns
  have hT : ∀ w ∈ TB, w.before _ s = true := fun w h => atoms_spec (ws := hz_w yX12_spotAt cX12_spotAt 3 (some .int)) B.pre w (List.mem_cons_of_mem _ h)
  have hown : s.vm.findClass RX12 = some m.cls := findClass_of_methodNamed B.named
  have hlocks := B.notSynchronized
  clear B
  have hS : va_S (fun _ => False) s.heap s.heap [] := va_S.rf
  have hK := hE.1
  have hl := lv_entry ([.ref a, .int p0, .int p1]) (n := 3) (Nat.le_of_ble_eq_true rfl)
  rw [lg_entry_eq]
  generalize (lg_sl ([.ref a, .int p0, .int p1]) ++ List.replicate (3 - (lg_sl ([.ref a, .int p0, .int p1])).length) Slot.unset).toArray = ls at hl ⊢
  have hl : lv_has ls 3 [(0, .ref a), (1, .int p0), (2, .int p1)] := hl
  obtain ⟨H, eH⟩ : ∃ z, z = s.heap := ⟨_, rfl⟩
  have hP : va_P D classes [(a_said, .inl (cs 0, 123, .inl a_said_c)), (a, .inr (12, [.ref a_tape, .int a__taped, .int a__rules, .ref a_sign, .ref a_length, .ref a_clause, .ref a_clauses, .ref a_read, .int a__next, .int a__wrong, .int a__number, .int a__text, .int a__made, .int a__deep, .int a__lines, .ref a_open, .int a__opened, .ref a_stack, .int a__top, .ref a_word, .ref a_said, .int a__x, .ref a_worth, .ref a_mate, .ref a_wasSaid, .int a__undone, .int a__boughtNow, .ref a_wayBy, .ref a_wayThen, .int a__walkMost, .int a__walkGoing, .int a__walkSet, .ref a_kept, .long a__drawX, .ref a_images, .ref a_imageX, .ref a_isMade]))] H := by rw [eH]; exact hP
  have hS : va_S (fun _ => False) s.heap H [] := by rw [eH]; exact hS
  rw [← eH]
  clear eH
  obtain ⟨locs, el⟩ : ∃ z : List Loc, z = [] := ⟨_, rfl⟩
  rw [← el] at hS ⊢
  clear el
  have z0 : (0 : Int32).toInt = 0 := by decide
  have z1 : (1 : Int32).toInt = 1 := by decide
  have zm1 : (-1 : Int32).toInt = -1 := by decide
  have i_a__lines : 0 ≤ a__lines.toInt ∧ a__lines.toInt ≤ 40 := h_a__lines
  have i_a__made : 0 ≤ a__made.toInt ∧ a__made.toInt ≤ 60 := h_a__made
  have i_a__next : 0 ≤ a__next.toInt ∧ a__next.toInt ≤ 400 := h_a__next
  have i_a__opened : 0 ≤ a__opened.toInt ∧ a__opened.toInt ≤ 400 := h_a__opened
  have i_a__rules : 0 ≤ a__rules.toInt ∧ a__rules.toInt ≤ 6 := h_a__rules
  have i_a__taped : 0 ≤ a__taped.toInt ∧ a__taped.toInt ≤ 400 := h_a__taped
  have i_a__text : 0 ≤ a__text.toInt ∧ a__text.toInt ≤ 6 := h_a__text
  have i_a__top : 0 ≤ a__top.toInt ∧ a__top.toInt ≤ 64 := h_a__top
  have i_a__undone : 0 ≤ a__undone.toInt ∧ a__undone.toInt ≤ 20 := h_a__undone
  have i_a__x : 0 ≤ a__x.toInt ∧ a__x.toInt ≤ 2147483647 := h_a__x
  have i_p1 : 0 ≤ p1.toInt ∧ p1.toInt ≤ 300 := h_p1
  refine lv_iload_n hx hb dX12_spotAt_0 rfl (lv_at hl 1 rfl) ?_
  refine lv_iload_n hx hb dX12_spotAt_1 rfl (lv_at hl 2 rfl) ?_
  refine lv_aload_n hx hb dX12_spotAt_2 rfl (lv_at hl 0 rfl) ?_
  refine va_get (D := D) (ci := 12) (v := .ref a_said) (C := RX12) (T := TX12) (N := 37) hx hb hT i_X12 hown hK hP 1 rfl rfl 20 (by decide) (hT _ q_185) (fun _ h9 => h9) rfl dX12_spotAt_3 ?_
  refine lv_iconst (v := 4) hx hb dX12_spotAt_6 (by decide) ?_
  refine va_iald hx hb hK hP 0 0 rfl rfl (iv_vc (by decide)) dX12_spotAt_7 ?_
  refine lv_topi (fun v1 ev1 => ?_)
  have h2 : IV 0 7 v1 := (by rw [ev1]; exact bs_i4 hf0)
  have ii3 : 0 ≤ v1.toInt ∧ v1.toInt ≤ 7 := h2
  have lv1 : v1.toInt = (a_said_c 4).toInt := by rw [ev1]; rfl
  refine lv_imul hx hb dX12_spotAt_8 ?_
  refine lv_topi (fun v4 ev4 => ?_)
  have hv4 : IV 0 2100 v4 := iv_mul ev4 h_p1 h2 (by decide) (by decide) (by decide) (by decide)
  have ii5 : 0 ≤ v4.toInt ∧ v4.toInt ≤ 2100 := hv4
  have lv4 : v4.toInt = p1.toInt * v1.toInt := lin_mul ev4 h_p1 h2 rfl rfl (by decide) (by decide) (by decide) (by decide)
  refine lv_iadd hx hb dX12_spotAt_9 ?_
  refine lv_topi (fun v6 ev6 => ?_)
  refine lv_aload_n hx hb dX12_spotAt_10 rfl (lv_at hl 0 rfl) ?_
  refine va_get (D := D) (ci := 12) (v := .ref a_said) (C := RX12) (T := TX12) (N := 37) hx hb hT i_X12 hown hK hP 1 rfl rfl 20 (by decide) (hT _ q_185) (fun _ h9 => h9) rfl dX12_spotAt_11 ?_
  refine lv_iconst (v := 0) hx hb dX12_spotAt_14 (by decide) ?_
  refine va_iald hx hb hK hP 0 0 rfl rfl (iv_vc (by decide)) dX12_spotAt_15 ?_
  refine lv_topi (fun v7 ev7 => ?_)
  have h8 : IV 0 8 v7 := (by rw [ev7]; exact bs_i0 hf0)
  have ii9 : 0 ≤ v7.toInt ∧ v7.toInt ≤ 8 := h8
  have lv7 : v7.toInt = (a_said_c 0).toInt := by rw [ev7]; rfl
  have h10 : IV 1 8 v7 := ⟨by omega, by omega⟩
  have ii11 : 1 ≤ v7.toInt ∧ v7.toInt ≤ 8 := h10
  refine lv_irem hx hb dX12_spotAt_16 (iv_ne0 h10 (by decide)) ?_
  refine lv_topi (fun v12 ev12 => ?_)
  have hv12 : IV (-7) 7 v12 := iv_remA ev12 h10 (by decide) (by decide)
  have ii13 : (-7) ≤ v12.toInt ∧ v12.toInt ≤ 7 := hv12
  have g14 : v12 = RM (p0 + p1 * a_said_c 4) (a_said_c 0) := (by rw [ev12, ev6, ev4, ev1, ev7]; rfl)
  exact W.iret (v := v12) hx hb hr (fun t ht hW => ⟨⟨v12, (), rfl, (⟨hv12, g14⟩), trivial⟩, hS.F ht⟩) hS.2.2 dX12_spotAt_17
theorem dX12_stallAt_0 : decode cX12_stallAt 0 = .ok (.iconst 0, 1) := by decide +kernel
theorem dX12_stallAt_1 : decode cX12_stallAt 1 = .ok (.istore_n 3, 1) := by decide +kernel
theorem dX12_stallAt_2 : decode cX12_stallAt 2 = .ok (.aload_n 0, 1) := by decide +kernel
theorem dX12_stallAt_3 : decode cX12_stallAt 3 = .ok (.iload_n 3, 1) := by decide +kernel
theorem dX12_stallAt_4 : decode cX12_stallAt 4 = .ok (.iload_n 2, 1) := by decide +kernel
theorem dX12_stallAt_5 : decode cX12_stallAt 5 = .ok (.invokevirtual 305, 3) := by decide +kernel
theorem dX12_stallAt_8 : decode cX12_stallAt 8 = .ok (.iload_n 1, 1) := by decide +kernel
theorem dX12_stallAt_9 : decode cX12_stallAt 9 = .ok (.if_icmp .eq 9, 3) := by decide +kernel
theorem dX12_stallAt_12 : decode cX12_stallAt 12 = .ok (.iinc 3 1, 3) := by decide +kernel
theorem dX12_stallAt_15 : decode cX12_stallAt 15 = .ok (.goto (-13), 3) := by decide +kernel
theorem dX12_stallAt_18 : decode cX12_stallAt 18 = .ok (.iload_n 3, 1) := by decide +kernel
theorem dX12_stallAt_19 : decode cX12_stallAt 19 = .ok (.ireturn, 1) := by decide +kernel
set_option maxHeartbeats 4000000 in
set_option maxRecDepth 100000 in
theorem c_X12_stallAt (l : Launch) (D : va_G) (cs : Nat → ClassId) (kK kV : Nat → Nat) (a : Nat) (p0 : Int32) (p1 : Int32) (a_said : Nat) (a_said_c : Nat → Int32) (a_tape : Nat) (a__taped : Int32) (a__rules : Int32) (a_sign : Nat) (a_length : Nat) (a_clause : Nat) (a_clauses : Nat) (a_read : Nat) (a__next : Int32) (a__wrong : Int32) (a__number : Int32) (a__text : Int32) (a__made : Int32) (a__deep : Int32) (a__lines : Int32) (a_open : Nat) (a__opened : Int32) (a_stack : Nat) (a__top : Int32) (a_word : Nat) (a__x : Int32) (a_worth : Nat) (a_mate : Nat) (a_wasSaid : Nat) (a__undone : Int32) (a__boughtNow : Int32) (a_wayBy : Nat) (a_wayThen : Nat) (a__walkMost : Int32) (a__walkGoing : Int32) (a__walkSet : Int32) (a_kept : Nat) (a__drawX : Int64) (a_images : Nat) (a_imageX : Nat) (a_isMade : Nat) (h_p1 : IV 0 300 p1) (h_a__taped : IV 0 400 a__taped) (h_a__rules : IV 0 6 a__rules) (h_a__next : IV 0 400 a__next) (h_a__text : IV 0 6 a__text) (h_a__made : IV 0 60 a__made) (h_a__lines : IV 0 40 a__lines) (h_a__opened : IV 0 400 a__opened) (h_a__top : IV 0 64 a__top) (h_a__x : IV 0 2147483647 a__x) (h_a__undone : IV 0 20 a__undone) (hf0 : BS a_said_c 200) (hf1 : 0 ≤ p0.toInt) (hf2 : p0.toInt < (a_said_c 0).toInt) : Met l yX12_stallAt (hz_w yX12_stallAt cX12_stallAt 4 (some .int)) ({ frames := 1, cells := 0, slots := 0, locals := 22 }) (va_Pc [.ref a, .int p0, .int p1] (hz_P D cs kK kV [(a_said, .inl (cs 0, 123, .inl a_said_c)), (a, .inr (12, [.ref a_tape, .int a__taped, .int a__rules, .ref a_sign, .ref a_length, .ref a_clause, .ref a_clauses, .ref a_read, .int a__next, .int a__wrong, .int a__number, .int a__text, .int a__made, .int a__deep, .int a__lines, .ref a_open, .int a__opened, .ref a_stack, .int a__top, .ref a_word, .ref a_said, .int a__x, .ref a_worth, .ref a_mate, .ref a_wasSaid, .int a__undone, .int a__boughtNow, .ref a_wayBy, .ref a_wayThen, .int a__walkMost, .int a__walkGoing, .int a__walkSet, .ref a_kept, .long a__drawX, .ref a_images, .ref a_imageX, .ref a_isMade]))])) (va_Qi (fun (r : Int32) (_ : Unit) => (IV 0 7 r ∧ IV (-7) 7 p0 ∧ (r.toInt < (a_said_c 0).toInt))) (fun _ t => True) (fun _ => False)) 0 0 (fun _ => False) := by
  refine Met.ofW (cc := cX12_stallAt) (maxL := 4) (ret := (some .int)) (by decide) rfl ?_
  intro p e s m args below meth c s₁ B hml hv
  obtain ⟨rfl, hP, hE⟩ := hv
  have hx := B.exec
  have hb := B.bytes
  have hr := B.returns
  have hT : ∀ w ∈ TB, w.before _ s = true := fun w h => atoms_spec (ws := hz_w yX12_stallAt cX12_stallAt 4 (some .int)) B.pre w (List.mem_cons_of_mem _ h)
  have hown : s.vm.findClass RX12 = some m.cls := findClass_of_methodNamed B.named
  have hlocks := B.notSynchronized
  clear B
  have hS : va_S (fun _ => False) s.heap s.heap [] := va_S.rf
  have hK := hE.1
  have hl := lv_entry ([.ref a, .int p0, .int p1]) (n := 4) (Nat.le_of_ble_eq_true rfl)
  rw [lg_entry_eq]
  generalize (lg_sl ([.ref a, .int p0, .int p1]) ++ List.replicate (4 - (lg_sl ([.ref a, .int p0, .int p1])).length) Slot.unset).toArray = ls at hl ⊢
  have hl : lv_has ls 4 [(0, .ref a), (1, .int p0), (2, .int p1)] := hl
  obtain ⟨H, eH⟩ : ∃ z, z = s.heap := ⟨_, rfl⟩
  have hP : va_P D classes [(a_said, .inl (cs 0, 123, .inl a_said_c)), (a, .inr (12, [.ref a_tape, .int a__taped, .int a__rules, .ref a_sign, .ref a_length, .ref a_clause, .ref a_clauses, .ref a_read, .int a__next, .int a__wrong, .int a__number, .int a__text, .int a__made, .int a__deep, .int a__lines, .ref a_open, .int a__opened, .ref a_stack, .int a__top, .ref a_word, .ref a_said, .int a__x, .ref a_worth, .ref a_mate, .ref a_wasSaid, .int a__undone, .int a__boughtNow, .ref a_wayBy, .ref a_wayThen, .int a__walkMost, .int a__walkGoing, .int a__walkSet, .ref a_kept, .long a__drawX, .ref a_images, .ref a_imageX, .ref a_isMade]))] H := by rw [eH]; exact hP
  have hS : va_S (fun _ => False) s.heap H [] := by rw [eH]; exact hS
  rw [← eH]
  clear eH
  obtain ⟨locs, el⟩ : ∃ z : List Loc, z = [] := ⟨_, rfl⟩
  rw [← el] at hS ⊢
  clear el
  have z0 : (0 : Int32).toInt = 0 := by decide
  have z1 : (1 : Int32).toInt = 1 := by decide
  have zm1 : (-1 : Int32).toInt = -1 := by decide
  have i_a__lines : 0 ≤ a__lines.toInt ∧ a__lines.toInt ≤ 40 := h_a__lines
  have i_a__made : 0 ≤ a__made.toInt ∧ a__made.toInt ≤ 60 := h_a__made
  have i_a__next : 0 ≤ a__next.toInt ∧ a__next.toInt ≤ 400 := h_a__next
  have i_a__opened : 0 ≤ a__opened.toInt ∧ a__opened.toInt ≤ 400 := h_a__opened
  have i_a__rules : 0 ≤ a__rules.toInt ∧ a__rules.toInt ≤ 6 := h_a__rules
  have i_a__taped : 0 ≤ a__taped.toInt ∧ a__taped.toInt ≤ 400 := h_a__taped
  have i_a__text : 0 ≤ a__text.toInt ∧ a__text.toInt ≤ 6 := h_a__text
  have i_a__top : 0 ≤ a__top.toInt ∧ a__top.toInt ≤ 64 := h_a__top
  have i_a__undone : 0 ≤ a__undone.toInt ∧ a__undone.toInt ≤ 20 := h_a__undone
  have i_a__x : 0 ≤ a__x.toInt ∧ a__x.toInt ≤ 2147483647 := h_a__x
  have i_p1 : 0 ≤ p1.toInt ∧ p1.toInt ≤ 300 := h_p1
  have K2 : ∀ (n : Nat) (k2_L_3 : Int32), (9 - k2_L_3.toInt).toNat ≤ n → IV 0 7 k2_L_3 → (∃ k : Int32, 0 ≤ k.toInt ∧ k.toInt < (a_said_c 0).toInt ∧ k2_L_3.toInt ≤ k.toInt ∧ RM (k + p1 * a_said_c 4) (a_said_c 0) = p0) → ∀ (H : Heap) (locs : List Loc), va_P D classes [(a_said, .inl (cs 0, 123, .inl a_said_c)), (a, .inr (12, [.ref a_tape, .int a__taped, .int a__rules, .ref a_sign, .ref a_length, .ref a_clause, .ref a_clauses, .ref a_read, .int a__next, .int a__wrong, .int a__number, .int a__text, .int a__made, .int a__deep, .int a__lines, .ref a_open, .int a__opened, .ref a_stack, .int a__top, .ref a_word, .ref a_said, .int a__x, .ref a_worth, .ref a_mate, .ref a_wasSaid, .int a__undone, .int a__boughtNow, .ref a_wayBy, .ref a_wayThen, .int a__walkMost, .int a__walkGoing, .int a__walkSet, .ref a_kept, .long a__drawX, .ref a_images, .ref a_imageX, .ref a_isMade]))] H → va_S (fun _ => False) s.heap H locs → ∀ ls : Array Slot, lv_has ls 4 [(3, .int k2_L_3), (0, .ref a), (1, .int p0), (2, .int p1)] → W p l e (headSpec (hz_w yX12_stallAt cX12_stallAt 4 (some .int)) ({ frames := 1, cells := 0, slots := 0, locals := 22 })).room s m [.ref a, .int p0, .int p1].toArray below meth c H locs 0 0 (MQ below (va_Qi (fun (r : Int32) (_ : Unit) => (IV 0 7 r ∧ IV (-7) 7 p0 ∧ (r.toInt < (a_said_c 0).toInt))) (fun _ t => True) (fun _ => False)) [.ref a, .int p0, .int p1].toArray s 0 0 (fun _ => False)) (F0 m 2 ls []) := by
    intro n
    induction n with
    | zero =>
      intro k2_L_3 hn q2_10 x2_0 H locs hP hS ls hl
      have i_a__lines : 0 ≤ a__lines.toInt ∧ a__lines.toInt ≤ 40 := h_a__lines
      have i_a__made : 0 ≤ a__made.toInt ∧ a__made.toInt ≤ 60 := h_a__made
      have i_a__next : 0 ≤ a__next.toInt ∧ a__next.toInt ≤ 400 := h_a__next
      have i_a__opened : 0 ≤ a__opened.toInt ∧ a__opened.toInt ≤ 400 := h_a__opened
      have i_a__rules : 0 ≤ a__rules.toInt ∧ a__rules.toInt ≤ 6 := h_a__rules
      have i_a__taped : 0 ≤ a__taped.toInt ∧ a__taped.toInt ≤ 400 := h_a__taped
      have i_a__text : 0 ≤ a__text.toInt ∧ a__text.toInt ≤ 6 := h_a__text
      have i_a__top : 0 ≤ a__top.toInt ∧ a__top.toInt ≤ 64 := h_a__top
      have i_a__undone : 0 ≤ a__undone.toInt ∧ a__undone.toInt ≤ 20 := h_a__undone
      have i_a__x : 0 ≤ a__x.toInt ∧ a__x.toInt ≤ 2147483647 := h_a__x
      have i_k2_L_3 : 0 ≤ k2_L_3.toInt ∧ k2_L_3.toInt ≤ 7 := q2_10
      have i_p1 : 0 ≤ p1.toInt ∧ p1.toInt ≤ 300 := h_p1
      exact absurd hn (by omega)
    | succ n ih2 =>
      intro k2_L_3 hn q2_10 x2_0 H locs hP hS ls hl
      have i_a__lines : 0 ≤ a__lines.toInt ∧ a__lines.toInt ≤ 40 := h_a__lines
      have i_a__made : 0 ≤ a__made.toInt ∧ a__made.toInt ≤ 60 := h_a__made
      have i_a__next : 0 ≤ a__next.toInt ∧ a__next.toInt ≤ 400 := h_a__next
      have i_a__opened : 0 ≤ a__opened.toInt ∧ a__opened.toInt ≤ 400 := h_a__opened
      have i_a__rules : 0 ≤ a__rules.toInt ∧ a__rules.toInt ≤ 6 := h_a__rules
      have i_a__taped : 0 ≤ a__taped.toInt ∧ a__taped.toInt ≤ 400 := h_a__taped
      have i_a__text : 0 ≤ a__text.toInt ∧ a__text.toInt ≤ 6 := h_a__text
      have i_a__top : 0 ≤ a__top.toInt ∧ a__top.toInt ≤ 64 := h_a__top
      have i_a__undone : 0 ≤ a__undone.toInt ∧ a__undone.toInt ≤ 20 := h_a__undone
      have i_a__x : 0 ≤ a__x.toInt ∧ a__x.toInt ≤ 2147483647 := h_a__x
      have i_k2_L_3 : 0 ≤ k2_L_3.toInt ∧ k2_L_3.toInt ≤ 7 := q2_10
      have i_p1 : 0 ≤ p1.toInt ∧ p1.toInt ≤ 300 := h_p1
      have q0 := bs_i0 hf0
      unfold IV at q0
      refine lv_aload_n hx hb dX12_stallAt_2 rfl (lv_at hl 1 rfl) ?_
      refine lv_iload_n hx hb dX12_stallAt_3 rfl (lv_at hl 0 rfl) ?_
      refine lv_iload_n hx hb dX12_stallAt_4 rfl (lv_at hl 3 rfl) ?_
      refine va_calli (va_runV (As := [.int k2_L_3, .int p1]) (rest := []) ⟨hx, hb, hml, hown, hT⟩ (c_X12_spotAt l D cs kK kV a k2_L_3 p1 a_said a_said_c a_tape a__taped a__rules a_sign a_length a_clause a_clauses a_read a__next a__wrong a__number a__text a__made a__deep a__lines a_open a__opened a_stack a__top a_word a__x a_worth a_mate a_wasSaid a__undone a__boughtNow a_wayBy a_wayThen a__walkMost a__walkGoing a__walkSet a_kept a__drawX a_images a_imageX a_isMade h_p1 h_a__taped h_a__rules h_a__next h_a__text h_a__made h_a__lines h_a__opened h_a__top h_a__x h_a__undone hf0 ((by omega))) (cwV 2 hT (hz_gV q_1108 q_1109 q_1110 q_701 q_1111) rfl rfl rfl (by decide +kernel) ⟨(Nat.le_of_ble_eq_true rfl), (Nat.le_of_ble_eq_true rfl)⟩) ⟨hz_P.blind, va_recv hK hP (ci := 12) (q0 := 1) rfl rfl, hz_P.mk (hP.sub (ws' := [(a_said, .inl (cs 0, 123, .inl a_said_c)), (a, .inr (12, [.ref a_tape, .int a__taped, .int a__rules, .ref a_sign, .ref a_length, .ref a_clause, .ref a_clauses, .ref a_read, .int a__next, .int a__wrong, .int a__number, .int a__text, .int a__made, .int a__deep, .int a__lines, .ref a_open, .int a__opened, .ref a_stack, .int a__top, .ref a_word, .ref a_said, .int a__x, .ref a_worth, .ref a_mate, .ref a_wasSaid, .int a__undone, .int a__boughtNow, .ref a_wayBy, .ref a_wayThen, .int a__walkMost, .int a__walkGoing, .int a__walkSet, .ref a_kept, .long a__drawX, .ref a_images, .ref a_imageX, .ref a_isMade]))]) [0,1] rfl) hE hS⟩ rfl rfl hl.1 rfl (lv_room (Nat.le_of_ble_eq_true rfl)) dX12_stallAt_5 ⟨(Nat.le_of_ble_eq_true rfl), (Nat.le_of_ble_eq_true rfl)⟩) hS (fun _ _ h => h.elim) (fun _ h => h.elim) (fun r1 u t H1 locs ht hvm hw hB hz1 hk1 hS => ?_)
      have hP := hz_keep hP hk1
      clear hk1 hB hz1
      generalize H1 = H at hP hS ⊢
      rcases hw with ⟨h2, x3⟩
      have ii4 : (-7) ≤ r1.toInt ∧ r1.toInt ≤ 7 := h2
      refine lv_iload_n hx hb dX12_stallAt_8 rfl (lv_at hl 2 rfl) ?_
      refine lv_icmp_eq (tgt := 18) hx hb dX12_stallAt_9 (by decide) (fun c5 => ?_) (fun c5 => ?_)
      · have t6 : r1.toInt = p0.toInt := lin_eq c5 rfl rfl
        have h7 : IV (-7) 7 p0 := iv_eq2 c5 h2 iv_top (by decide) (by decide)
        have ii8 : (-7) ≤ p0.toInt ∧ p0.toInt ≤ 7 := h7
        obtain ⟨kk, kk1, kk2, kk3, kk4⟩ := x2_0
        refine lv_iload_n hx hb dX12_stallAt_18 rfl (lv_at hl 0 rfl) ?_
        have g9 : k2_L_3.toInt < (a_said_c 0).toInt := (by omega)
        exact W.iret (v := k2_L_3) hx hb hr (fun t ht hW => ⟨⟨k2_L_3, (), rfl, (⟨q2_10, h7, g9⟩), trivial⟩, hS.F ht⟩) hS.2.2 dX12_stallAt_19
      · have t10 : r1.toInt ≠ p0.toInt := lin_ne c5 rfl rfl
        obtain ⟨kk, kk1, kk2, kk3, kk4⟩ := x2_0
        have kne : k2_L_3.toInt ≠ kk.toInt := fun z => by
            have z2 := Int32.toInt_inj.mp z
            rw [← z2] at kk4; exact absurd (x3.trans kk4) (by assumption)
        obtain ⟨v11, ev11⟩ : ∃ z : Int32, z = k2_L_3 + 1 := ⟨_, rfl⟩
        have hv11 : IV 1 8 v11 := iv_add ev11 q2_10 (iv_c (a := 1) (b := 1) (by decide)) (by decide) (by decide)
        have dv11 : v11.toInt = k2_L_3.toInt + 1 := iv_addE ev11 q2_10 (iv_c (a := 1) (b := 1) (by decide)) (by decide) (by decide) (by decide)
        refine lv_iinc (v := v11) (lv' := [(3, .int v11), (0, .ref a), (1, .int p0), (2, .int p1)]) hx hb dX12_stallAt_12 hl (k := 0) rfl (by rw [ev11]; rfl) (by decide) rfl (fun ls hl => ?_)
        refine lv_goto (tgt := 2) hx hb dX12_stallAt_15 (by decide) ?_
        exact ih2 v11 (by have h9 := hn; omega) (⟨by omega, by omega⟩ : IV 0 7 v11) (⟨kk, kk1, kk2, by omega, kk4⟩) H locs (hP.sub (ws' := [(a_said, .inl (cs 0, 123, .inl a_said_c)), (a, .inr (12, [.ref a_tape, .int a__taped, .int a__rules, .ref a_sign, .ref a_length, .ref a_clause, .ref a_clauses, .ref a_read, .int a__next, .int a__wrong, .int a__number, .int a__text, .int a__made, .int a__deep, .int a__lines, .ref a_open, .int a__opened, .ref a_stack, .int a__top, .ref a_word, .ref a_said, .int a__x, .ref a_worth, .ref a_mate, .ref a_wasSaid, .int a__undone, .int a__boughtNow, .ref a_wayBy, .ref a_wayThen, .int a__walkMost, .int a__walkGoing, .int a__walkSet, .ref a_kept, .long a__drawX, .ref a_images, .ref a_imageX, .ref a_isMade]))]) [0, 1] rfl) hS ls (lv_sub hl [0, 1, 2, 3] rfl)
  have q0 := bs_i0 hf0
  have q4 := bs_i4 hf0
  unfold IV at q0 q4
  refine lv_iconst (v := 0) hx hb dX12_stallAt_0 (by decide) ?_
  refine lv_istore_n (lv' := [(3, .int 0), (0, .ref a), (1, .int p0), (2, .int p1)]) hx hb dX12_stallAt_1 rfl hl (by decide) rfl (fun ls hl => ?_)
  exact K2 _ ((0 : Int32)) (Nat.le_refl _) (iv_c (by decide)) (by obtain ⟨k, k1, k2, k3⟩ := st_ex (n := a_said_c 0) (p := p0) (h := p1) (sh := a_said_c 4) ⟨by omega, by omega⟩ ⟨by omega, by omega⟩ ⟨by omega, by omega⟩ ⟨by omega, by omega⟩; exact ⟨k, k1, k2, by omega, k3⟩) H locs (hP.sub (ws' := [(a_said, .inl (cs 0, 123, .inl a_said_c)), (a, .inr (12, [.ref a_tape, .int a__taped, .int a__rules, .ref a_sign, .ref a_length, .ref a_clause, .ref a_clauses, .ref a_read, .int a__next, .int a__wrong, .int a__number, .int a__text, .int a__made, .int a__deep, .int a__lines, .ref a_open, .int a__opened, .ref a_stack, .int a__top, .ref a_word, .ref a_said, .int a__x, .ref a_worth, .ref a_mate, .ref a_wasSaid, .int a__undone, .int a__boughtNow, .ref a_wayBy, .ref a_wayThen, .int a__walkMost, .int a__walkGoing, .int a__walkSet, .ref a_kept, .long a__drawX, .ref a_images, .ref a_imageX, .ref a_isMade]))]) [0, 1] rfl) hS ls (lv_sub hl [0, 1, 2, 3] rfl)
theorem dX12_far_0 : decode cX12_far 0 = .ok (.iload_n 1, 1) := by decide +kernel
theorem dX12_far_1 : decode cX12_far 1 = .ok (.iload_n 2, 1) := by decide +kernel
theorem dX12_far_2 : decode cX12_far 2 = .ok (.if_icmp .le 9, 3) := by decide +kernel
theorem dX12_far_5 : decode cX12_far 5 = .ok (.iload_n 1, 1) := by decide +kernel
theorem dX12_far_6 : decode cX12_far 6 = .ok (.iload_n 2, 1) := by decide +kernel
theorem dX12_far_7 : decode cX12_far 7 = .ok (.isub, 1) := by decide +kernel
theorem dX12_far_8 : decode cX12_far 8 = .ok (.goto 6, 3) := by decide +kernel
theorem dX12_far_11 : decode cX12_far 11 = .ok (.iload_n 2, 1) := by decide +kernel
theorem dX12_far_12 : decode cX12_far 12 = .ok (.iload_n 1, 1) := by decide +kernel
theorem dX12_far_13 : decode cX12_far 13 = .ok (.isub, 1) := by decide +kernel
theorem dX12_far_14 : decode cX12_far 14 = .ok (.istore_n 3, 1) := by decide +kernel
theorem dX12_far_15 : decode cX12_far 15 = .ok (.iconst 2, 1) := by decide +kernel
theorem dX12_far_16 : decode cX12_far 16 = .ok (.iload_n 3, 1) := by decide +kernel
theorem dX12_far_17 : decode cX12_far 17 = .ok (.imul, 1) := by decide +kernel
theorem dX12_far_18 : decode cX12_far 18 = .ok (.aload_n 0, 1) := by decide +kernel
theorem dX12_far_19 : decode cX12_far 19 = .ok (.getfield 39, 3) := by decide +kernel
theorem dX12_far_22 : decode cX12_far 22 = .ok (.iconst 0, 1) := by decide +kernel
theorem dX12_far_23 : decode cX12_far 23 = .ok (.iaload, 1) := by decide +kernel
theorem dX12_far_24 : decode cX12_far 24 = .ok (.if_icmp .le 14, 3) := by decide +kernel
theorem dX12_far_27 : decode cX12_far 27 = .ok (.aload_n 0, 1) := by decide +kernel
theorem dX12_far_28 : decode cX12_far 28 = .ok (.getfield 39, 3) := by decide +kernel
theorem dX12_far_31 : decode cX12_far 31 = .ok (.iconst 0, 1) := by decide +kernel
theorem dX12_far_32 : decode cX12_far 32 = .ok (.iaload, 1) := by decide +kernel
theorem dX12_far_33 : decode cX12_far 33 = .ok (.iload_n 3, 1) := by decide +kernel
theorem dX12_far_34 : decode cX12_far 34 = .ok (.isub, 1) := by decide +kernel
theorem dX12_far_35 : decode cX12_far 35 = .ok (.goto 4, 3) := by decide +kernel
theorem dX12_far_38 : decode cX12_far 38 = .ok (.iload_n 3, 1) := by decide +kernel
theorem dX12_far_39 : decode cX12_far 39 = .ok (.ireturn, 1) := by decide +kernel
set_option maxHeartbeats 4000000 in
set_option maxRecDepth 100000 in
theorem c_X12_far (l : Launch) (D : va_G) (cs : Nat → ClassId) (kK kV : Nat → Nat) (a : Nat) (p0 : Int32) (p1 : Int32) (a_tape : Nat) (a__taped : Int32) (a__rules : Int32) (a_sign : Nat) (a_length : Nat) (a_clause : Nat) (a_clauses : Nat) (a_read : Nat) (a__next : Int32) (a__wrong : Int32) (a__number : Int32) (a__text : Int32) (a__made : Int32) (a__deep : Int32) (a__lines : Int32) (a_open : Nat) (a__opened : Int32) (a_stack : Nat) (a__top : Int32) (a_word : Nat) (a_said : Nat) (a__x : Int32) (a_worth : Nat) (a_mate : Nat) (a_wasSaid : Nat) (a__undone : Int32) (a__boughtNow : Int32) (a_wayBy : Nat) (a_wayThen : Nat) (a__walkMost : Int32) (a__walkGoing : Int32) (a__walkSet : Int32) (a_kept : Nat) (a__drawX : Int64) (a_images : Nat) (a_imageX : Nat) (a_isMade : Nat) (a_said_c : Nat → Int32) (h_a__taped : IV 0 400 a__taped) (h_a__rules : IV 0 6 a__rules) (h_a__next : IV 0 400 a__next) (h_a__text : IV 0 6 a__text) (h_a__made : IV 0 60 a__made) (h_a__lines : IV 0 40 a__lines) (h_a__opened : IV 0 400 a__opened) (h_a__top : IV 0 64 a__top) (h_a__x : IV 0 2147483647 a__x) (h_a__undone : IV 0 20 a__undone) : Met l yX12_far (hz_w yX12_far cX12_far 4 (some .int)) ({ frames := 0, cells := 0, slots := 0, locals := 0 }) (va_Pc [.ref a, .int p0, .int p1] (hz_P D cs kK kV [(a, .inr (12, [.ref a_tape, .int a__taped, .int a__rules, .ref a_sign, .ref a_length, .ref a_clause, .ref a_clauses, .ref a_read, .int a__next, .int a__wrong, .int a__number, .int a__text, .int a__made, .int a__deep, .int a__lines, .ref a_open, .int a__opened, .ref a_stack, .int a__top, .ref a_word, .ref a_said, .int a__x, .ref a_worth, .ref a_mate, .ref a_wasSaid, .int a__undone, .int a__boughtNow, .ref a_wayBy, .ref a_wayThen, .int a__walkMost, .int a__walkGoing, .int a__walkSet, .ref a_kept, .long a__drawX, .ref a_images, .ref a_imageX, .ref a_isMade])), (a_said, .inl (cs 0, 123, .inl a_said_c))])) (va_Qi (fun (r : Int32) (_ : Unit) => True) (fun _ t => True) (fun _ => False)) 0 0 (fun _ => False) := by
  refine Met.ofW (cc := cX12_far) (maxL := 4) (ret := (some .int)) (by decide) rfl ?_
  intro p e s m args below meth c s₁ B hml hv
  obtain ⟨rfl, hP, hE⟩ := hv
  have hx := B.exec
  have hb := B.bytes
  have hr := B.returns
  have hT : ∀ w ∈ TB, w.before _ s = true := fun w h => atoms_spec (ws := hz_w yX12_far cX12_far 4 (some .int)) B.pre w (List.mem_cons_of_mem _ h)
  have hown : s.vm.findClass RX12 = some m.cls := findClass_of_methodNamed B.named
  have hlocks := B.notSynchronized
  clear B
  have hS : va_S (fun _ => False) s.heap s.heap [] := va_S.rf
  have hK := hE.1
  have hl := lv_entry ([.ref a, .int p0, .int p1]) (n := 4) (Nat.le_of_ble_eq_true rfl)
  rw [lg_entry_eq]
  generalize (lg_sl ([.ref a, .int p0, .int p1]) ++ List.replicate (4 - (lg_sl ([.ref a, .int p0, .int p1])).length) Slot.unset).toArray = ls at hl ⊢
  have hl : lv_has ls 4 [(0, .ref a), (1, .int p0), (2, .int p1)] := hl
  obtain ⟨H, eH⟩ : ∃ z, z = s.heap := ⟨_, rfl⟩
  have hP : va_P D classes [(a, .inr (12, [.ref a_tape, .int a__taped, .int a__rules, .ref a_sign, .ref a_length, .ref a_clause, .ref a_clauses, .ref a_read, .int a__next, .int a__wrong, .int a__number, .int a__text, .int a__made, .int a__deep, .int a__lines, .ref a_open, .int a__opened, .ref a_stack, .int a__top, .ref a_word, .ref a_said, .int a__x, .ref a_worth, .ref a_mate, .ref a_wasSaid, .int a__undone, .int a__boughtNow, .ref a_wayBy, .ref a_wayThen, .int a__walkMost, .int a__walkGoing, .int a__walkSet, .ref a_kept, .long a__drawX, .ref a_images, .ref a_imageX, .ref a_isMade])), (a_said, .inl (cs 0, 123, .inl a_said_c))] H := by rw [eH]; exact hP
  have hS : va_S (fun _ => False) s.heap H [] := by rw [eH]; exact hS
  rw [← eH]
  clear eH
  obtain ⟨locs, el⟩ : ∃ z : List Loc, z = [] := ⟨_, rfl⟩
  rw [← el] at hS ⊢
  clear el
  have z0 : (0 : Int32).toInt = 0 := by decide
  have z1 : (1 : Int32).toInt = 1 := by decide
  have zm1 : (-1 : Int32).toInt = -1 := by decide
  have i_a__lines : 0 ≤ a__lines.toInt ∧ a__lines.toInt ≤ 40 := h_a__lines
  have i_a__made : 0 ≤ a__made.toInt ∧ a__made.toInt ≤ 60 := h_a__made
  have i_a__next : 0 ≤ a__next.toInt ∧ a__next.toInt ≤ 400 := h_a__next
  have i_a__opened : 0 ≤ a__opened.toInt ∧ a__opened.toInt ≤ 400 := h_a__opened
  have i_a__rules : 0 ≤ a__rules.toInt ∧ a__rules.toInt ≤ 6 := h_a__rules
  have i_a__taped : 0 ≤ a__taped.toInt ∧ a__taped.toInt ≤ 400 := h_a__taped
  have i_a__text : 0 ≤ a__text.toInt ∧ a__text.toInt ≤ 6 := h_a__text
  have i_a__top : 0 ≤ a__top.toInt ∧ a__top.toInt ≤ 64 := h_a__top
  have i_a__undone : 0 ≤ a__undone.toInt ∧ a__undone.toInt ≤ 20 := h_a__undone
  have i_a__x : 0 ≤ a__x.toInt ∧ a__x.toInt ≤ 2147483647 := h_a__x
  refine lv_iload_n hx hb dX12_far_0 rfl (lv_at hl 1 rfl) ?_
  refine lv_iload_n hx hb dX12_far_1 rfl (lv_at hl 2 rfl) ?_
  refine lv_icmp_le (tgt := 11) hx hb dX12_far_2 (by decide) (fun c1 => ?_) (fun c1 => ?_)
  · have t2 : p0.toInt ≤ p1.toInt := lin_le c1 rfl rfl
    refine lv_iload_n hx hb dX12_far_11 rfl (lv_at hl 2 rfl) ?_
    refine lv_iload_n hx hb dX12_far_12 rfl (lv_at hl 1 rfl) ?_
    refine lv_isub hx hb dX12_far_13 ?_
    refine lv_topi (fun v3 ev3 => ?_)
    refine lv_istore_n (lv' := [(3, .int v3), (0, .ref a), (1, .int p0), (2, .int p1)]) hx hb dX12_far_14 rfl hl (by decide) rfl (fun ls hl => ?_)
    refine lv_iconst (v := 2) hx hb dX12_far_15 (by decide) ?_
    refine lv_iload_n hx hb dX12_far_16 rfl (lv_at hl 0 rfl) ?_
    refine lv_imul hx hb dX12_far_17 ?_
    refine lv_topi (fun v4 ev4 => ?_)
    refine lv_aload_n hx hb dX12_far_18 rfl (lv_at hl 1 rfl) ?_
    refine va_get (D := D) (ci := 12) (v := .ref a_said) (C := RX12) (T := TX12) (N := 37) hx hb hT i_X12 hown hK hP 0 rfl rfl 20 (by decide) (hT _ q_185) (fun _ h9 => h9) rfl dX12_far_19 ?_
    refine lv_iconst (v := 0) hx hb dX12_far_22 (by decide) ?_
    refine va_iald hx hb hK hP 1 0 rfl rfl (iv_vc (by decide)) dX12_far_23 ?_
    refine lv_topi (fun v5 ev5 => ?_)
    have lv5 : v5.toInt = (a_said_c 0).toInt := by rw [ev5]; rfl
    refine lv_icmp_le (tgt := 38) hx hb dX12_far_24 (by decide) (fun c6 => ?_) (fun c6 => ?_)
    · have t7 : v4.toInt ≤ v5.toInt := lin_le c6 rfl rfl
      refine lv_iload_n hx hb dX12_far_38 rfl (lv_at hl 0 rfl) ?_
      exact W.iret (v := v3) hx hb hr (fun t ht hW => ⟨⟨v3, (), rfl, trivial, trivial⟩, hS.F ht⟩) hS.2.2 dX12_far_39
    · have t8 : v4.toInt > v5.toInt := lin_leN c6 rfl rfl
      have h9 : IV (-2147483648) 2147483646 v5 := iv_lt1 (Int32.not_le.mp c6) iv_top iv_top (by decide)
      have ii10 : (-2147483648) ≤ v5.toInt ∧ v5.toInt ≤ 2147483646 := h9
      have h11 : IV (-2147483647) 2147483647 v4 := iv_lt2 (Int32.not_le.mp c6) iv_top iv_top (by decide)
      have ii12 : (-2147483647) ≤ v4.toInt ∧ v4.toInt ≤ 2147483647 := h11
      refine lv_aload_n hx hb dX12_far_27 rfl (lv_at hl 1 rfl) ?_
      refine va_get (D := D) (ci := 12) (v := .ref a_said) (C := RX12) (T := TX12) (N := 37) hx hb hT i_X12 hown hK hP 0 rfl rfl 20 (by decide) (hT _ q_185) (fun _ h9 => h9) rfl dX12_far_28 ?_
      refine lv_iconst (v := 0) hx hb dX12_far_31 (by decide) ?_
      refine va_iald hx hb hK hP 1 0 rfl rfl (iv_vc (by decide)) dX12_far_32 ?_
      refine hz_ev v5 ev5.symm ?_
      refine lv_iload_n hx hb dX12_far_33 rfl (lv_at hl 0 rfl) ?_
      refine lv_isub hx hb dX12_far_34 ?_
      refine lv_topi (fun v13 ev13 => ?_)
      refine lv_goto (tgt := 39) hx hb dX12_far_35 (by decide) ?_
      exact W.iret (v := v13) hx hb hr (fun t ht hW => ⟨⟨v13, (), rfl, trivial, trivial⟩, hS.F ht⟩) hS.2.2 dX12_far_39
  · have t14 : p0.toInt > p1.toInt := lin_leN c1 rfl rfl
    have h15 : IV (-2147483648) 2147483646 p1 := iv_lt1 (Int32.not_le.mp c1) iv_top iv_top (by decide)
    have ii16 : (-2147483648) ≤ p1.toInt ∧ p1.toInt ≤ 2147483646 := h15
    have h17 : IV (-2147483647) 2147483647 p0 := iv_lt2 (Int32.not_le.mp c1) iv_top iv_top (by decide)
    have ii18 : (-2147483647) ≤ p0.toInt ∧ p0.toInt ≤ 2147483647 := h17
    refine lv_iload_n hx hb dX12_far_5 rfl (lv_at hl 1 rfl) ?_
    refine lv_iload_n hx hb dX12_far_6 rfl (lv_at hl 2 rfl) ?_
    refine lv_isub hx hb dX12_far_7 ?_
    refine lv_topi (fun v19 ev19 => ?_)
    refine lv_goto (tgt := 14) hx hb dX12_far_8 (by decide) ?_
    refine lv_istore_n (lv' := [(3, .int v19), (0, .ref a), (1, .int p0), (2, .int p1)]) hx hb dX12_far_14 rfl hl (by decide) rfl (fun ls hl => ?_)
    refine lv_iconst (v := 2) hx hb dX12_far_15 (by decide) ?_
    refine lv_iload_n hx hb dX12_far_16 rfl (lv_at hl 0 rfl) ?_
    refine lv_imul hx hb dX12_far_17 ?_
    refine lv_topi (fun v20 ev20 => ?_)
    refine lv_aload_n hx hb dX12_far_18 rfl (lv_at hl 1 rfl) ?_
    refine va_get (D := D) (ci := 12) (v := .ref a_said) (C := RX12) (T := TX12) (N := 37) hx hb hT i_X12 hown hK hP 0 rfl rfl 20 (by decide) (hT _ q_185) (fun _ h9 => h9) rfl dX12_far_19 ?_
    refine lv_iconst (v := 0) hx hb dX12_far_22 (by decide) ?_
    refine va_iald hx hb hK hP 1 0 rfl rfl (iv_vc (by decide)) dX12_far_23 ?_
    refine lv_topi (fun v21 ev21 => ?_)
    have lv21 : v21.toInt = (a_said_c 0).toInt := by rw [ev21]; rfl
    refine lv_icmp_le (tgt := 38) hx hb dX12_far_24 (by decide) (fun c22 => ?_) (fun c22 => ?_)
    · have t23 : v20.toInt ≤ v21.toInt := lin_le c22 rfl rfl
      refine lv_iload_n hx hb dX12_far_38 rfl (lv_at hl 0 rfl) ?_
      exact W.iret (v := v19) hx hb hr (fun t ht hW => ⟨⟨v19, (), rfl, trivial, trivial⟩, hS.F ht⟩) hS.2.2 dX12_far_39
    · have t24 : v20.toInt > v21.toInt := lin_leN c22 rfl rfl
      have h25 : IV (-2147483648) 2147483646 v21 := iv_lt1 (Int32.not_le.mp c22) iv_top iv_top (by decide)
      have ii26 : (-2147483648) ≤ v21.toInt ∧ v21.toInt ≤ 2147483646 := h25
      have h27 : IV (-2147483647) 2147483647 v20 := iv_lt2 (Int32.not_le.mp c22) iv_top iv_top (by decide)
      have ii28 : (-2147483647) ≤ v20.toInt ∧ v20.toInt ≤ 2147483647 := h27
      refine lv_aload_n hx hb dX12_far_27 rfl (lv_at hl 1 rfl) ?_
      refine va_get (D := D) (ci := 12) (v := .ref a_said) (C := RX12) (T := TX12) (N := 37) hx hb hT i_X12 hown hK hP 0 rfl rfl 20 (by decide) (hT _ q_185) (fun _ h9 => h9) rfl dX12_far_28 ?_
      refine lv_iconst (v := 0) hx hb dX12_far_31 (by decide) ?_
      refine va_iald hx hb hK hP 1 0 rfl rfl (iv_vc (by decide)) dX12_far_32 ?_
      refine hz_ev v21 ev21.symm ?_
      refine lv_iload_n hx hb dX12_far_33 rfl (lv_at hl 0 rfl) ?_
      refine lv_isub hx hb dX12_far_34 ?_
      refine lv_topi (fun v29 ev29 => ?_)
      refine lv_goto (tgt := 39) hx hb dX12_far_35 (by decide) ?_
      exact W.iret (v := v29) hx hb hr (fun t ht hW => ⟨⟨v29, (), rfl, trivial, trivial⟩, hS.F ht⟩) hS.2.2 dX12_far_39
theorem dX12_apart_0 : decode cX12_apart 0 = .ok (.iload_n 1, 1) := by decide +kernel
theorem dX12_apart_1 : decode cX12_apart 1 = .ok (.iload_n 2, 1) := by decide +kernel
theorem dX12_apart_2 : decode cX12_apart 2 = .ok (.if_icmp .le 9, 3) := by decide +kernel
theorem dX12_apart_5 : decode cX12_apart 5 = .ok (.iload_n 1, 1) := by decide +kernel
theorem dX12_apart_6 : decode cX12_apart 6 = .ok (.iload_n 2, 1) := by decide +kernel
theorem dX12_apart_7 : decode cX12_apart 7 = .ok (.isub, 1) := by decide +kernel
theorem dX12_apart_8 : decode cX12_apart 8 = .ok (.goto 6, 3) := by decide +kernel
theorem dX12_apart_11 : decode cX12_apart 11 = .ok (.iload_n 2, 1) := by decide +kernel
theorem dX12_apart_12 : decode cX12_apart 12 = .ok (.iload_n 1, 1) := by decide +kernel
theorem dX12_apart_13 : decode cX12_apart 13 = .ok (.isub, 1) := by decide +kernel
theorem dX12_apart_14 : decode cX12_apart 14 = .ok (.ireturn, 1) := by decide +kernel
set_option maxHeartbeats 4000000 in
set_option maxRecDepth 100000 in
theorem c_X12_apart (l : Launch) (D : va_G) (cs : Nat → ClassId) (kK kV : Nat → Nat) (a : Nat) (p0 : Int32) (p1 : Int32)  : Met l yX12_apart (hz_w yX12_apart cX12_apart 3 (some .int)) ({ frames := 0, cells := 0, slots := 0, locals := 0 }) (va_Pc [.ref a, .int p0, .int p1] (hz_P D cs kK kV [])) (va_Qi (fun (r : Int32) (_ : Unit) => True) (fun _ t => True) (fun _ => False)) 0 0 (fun _ => False) := by
  refine Met.ofW (cc := cX12_apart) (maxL := 3) (ret := (some .int)) (by decide) rfl ?_
  intro p e s m args below meth c s₁ B hml hv
  obtain ⟨rfl, hP, hE⟩ := hv
  have hx := B.exec
  have hb := B.bytes
  have hr := B.returns
  have hT : ∀ w ∈ TB, w.before _ s = true := fun w h => atoms_spec (ws := hz_w yX12_apart cX12_apart 3 (some .int)) B.pre w (List.mem_cons_of_mem _ h)
  have hown : s.vm.findClass RX12 = some m.cls := findClass_of_methodNamed B.named
  have hlocks := B.notSynchronized
  clear B
  have hS : va_S (fun _ => False) s.heap s.heap [] := va_S.rf
  have hK := hE.1
  have hl := lv_entry ([.ref a, .int p0, .int p1]) (n := 3) (Nat.le_of_ble_eq_true rfl)
  rw [lg_entry_eq]
  generalize (lg_sl ([.ref a, .int p0, .int p1]) ++ List.replicate (3 - (lg_sl ([.ref a, .int p0, .int p1])).length) Slot.unset).toArray = ls at hl ⊢
  have hl : lv_has ls 3 [(0, .ref a), (1, .int p0), (2, .int p1)] := hl
  obtain ⟨H, eH⟩ : ∃ z, z = s.heap := ⟨_, rfl⟩
  have hP : va_P D classes [] H := by rw [eH]; exact hP
  have hS : va_S (fun _ => False) s.heap H [] := by rw [eH]; exact hS
  rw [← eH]
  clear eH
  obtain ⟨locs, el⟩ : ∃ z : List Loc, z = [] := ⟨_, rfl⟩
  rw [← el] at hS ⊢
  clear el
  have z0 : (0 : Int32).toInt = 0 := by decide
  have z1 : (1 : Int32).toInt = 1 := by decide
  have zm1 : (-1 : Int32).toInt = -1 := by decide
  refine lv_iload_n hx hb dX12_apart_0 rfl (lv_at hl 1 rfl) ?_
  refine lv_iload_n hx hb dX12_apart_1 rfl (lv_at hl 2 rfl) ?_
  refine lv_icmp_le (tgt := 11) hx hb dX12_apart_2 (by decide) (fun c1 => ?_) (fun c1 => ?_)
  · have t2 : p0.toInt ≤ p1.toInt := lin_le c1 rfl rfl
    refine lv_iload_n hx hb dX12_apart_11 rfl (lv_at hl 2 rfl) ?_
    refine lv_iload_n hx hb dX12_apart_12 rfl (lv_at hl 1 rfl) ?_
    refine lv_isub hx hb dX12_apart_13 ?_
    refine lv_topi (fun v3 ev3 => ?_)
    exact W.iret (v := v3) hx hb hr (fun t ht hW => ⟨⟨v3, (), rfl, trivial, trivial⟩, hS.F ht⟩) hS.2.2 dX12_apart_14
  · have t4 : p0.toInt > p1.toInt := lin_leN c1 rfl rfl
    have h5 : IV (-2147483648) 2147483646 p1 := iv_lt1 (Int32.not_le.mp c1) iv_top iv_top (by decide)
    have ii6 : (-2147483648) ≤ p1.toInt ∧ p1.toInt ≤ 2147483646 := h5
    have h7 : IV (-2147483647) 2147483647 p0 := iv_lt2 (Int32.not_le.mp c1) iv_top iv_top (by decide)
    have ii8 : (-2147483647) ≤ p0.toInt ∧ p0.toInt ≤ 2147483647 := h7
    refine lv_iload_n hx hb dX12_apart_5 rfl (lv_at hl 1 rfl) ?_
    refine lv_iload_n hx hb dX12_apart_6 rfl (lv_at hl 2 rfl) ?_
    refine lv_isub hx hb dX12_apart_7 ?_
    refine lv_topi (fun v9 ev9 => ?_)
    refine lv_goto (tgt := 14) hx hb dX12_apart_8 (by decide) ?_
    exact W.iret (v := v9) hx hb hr (fun t ht hW => ⟨⟨v9, (), rfl, trivial, trivial⟩, hS.F ht⟩) hS.2.2 dX12_apart_14
theorem dX12_fitTold_0 : decode cX12_fitTold 0 = .ok (.aload_n 0, 1) := by decide +kernel
theorem dX12_fitTold_1 : decode cX12_fitTold 1 = .ok (.iload_n 1, 1) := by decide +kernel
theorem dX12_fitTold_2 : decode cX12_fitTold 2 = .ok (.iconst 1, 1) := by decide +kernel
theorem dX12_fitTold_3 : decode cX12_fitTold 3 = .ok (.invokevirtual 301, 3) := by decide +kernel
theorem dX12_fitTold_6 : decode cX12_fitTold 6 = .ok (.aload_n 0, 1) := by decide +kernel
theorem dX12_fitTold_7 : decode cX12_fitTold 7 = .ok (.iload_n 2, 1) := by decide +kernel
theorem dX12_fitTold_8 : decode cX12_fitTold 8 = .ok (.iconst 1, 1) := by decide +kernel
theorem dX12_fitTold_9 : decode cX12_fitTold 9 = .ok (.invokevirtual 301, 3) := by decide +kernel
theorem dX12_fitTold_12 : decode cX12_fitTold 12 = .ok (.if_icmp .ne 5, 3) := by decide +kernel
theorem dX12_fitTold_15 : decode cX12_fitTold 15 = .ok (.iconst 0, 1) := by decide +kernel
theorem dX12_fitTold_16 : decode cX12_fitTold 16 = .ok (.ireturn, 1) := by decide +kernel
theorem dX12_fitTold_17 : decode cX12_fitTold 17 = .ok (.aload_n 0, 1) := by decide +kernel
theorem dX12_fitTold_18 : decode cX12_fitTold 18 = .ok (.aload_n 0, 1) := by decide +kernel
theorem dX12_fitTold_19 : decode cX12_fitTold 19 = .ok (.iload_n 1, 1) := by decide +kernel
theorem dX12_fitTold_20 : decode cX12_fitTold 20 = .ok (.iconst 0, 1) := by decide +kernel
theorem dX12_fitTold_21 : decode cX12_fitTold 21 = .ok (.invokevirtual 301, 3) := by decide +kernel
theorem dX12_fitTold_24 : decode cX12_fitTold 24 = .ok (.aload_n 0, 1) := by decide +kernel
theorem dX12_fitTold_25 : decode cX12_fitTold 25 = .ok (.iload_n 2, 1) := by decide +kernel
theorem dX12_fitTold_26 : decode cX12_fitTold 26 = .ok (.iconst 0, 1) := by decide +kernel
theorem dX12_fitTold_27 : decode cX12_fitTold 27 = .ok (.invokevirtual 301, 3) := by decide +kernel
theorem dX12_fitTold_30 : decode cX12_fitTold 30 = .ok (.invokevirtual 308, 3) := by decide +kernel
theorem dX12_fitTold_33 : decode cX12_fitTold 33 = .ok (.istore_n 3, 1) := by decide +kernel
theorem dX12_fitTold_34 : decode cX12_fitTold 34 = .ok (.iload_n 3, 1) := by decide +kernel
theorem dX12_fitTold_35 : decode cX12_fitTold 35 = .ok (.ifCond .ne 7, 3) := by decide +kernel
theorem dX12_fitTold_38 : decode cX12_fitTold 38 = .ok (.iconst 2, 1) := by decide +kernel
theorem dX12_fitTold_39 : decode cX12_fitTold 39 = .ok (.goto 18, 3) := by decide +kernel
theorem dX12_fitTold_42 : decode cX12_fitTold 42 = .ok (.iload_n 3, 1) := by decide +kernel
theorem dX12_fitTold_43 : decode cX12_fitTold 43 = .ok (.aload_n 0, 1) := by decide +kernel
theorem dX12_fitTold_44 : decode cX12_fitTold 44 = .ok (.getfield 39, 3) := by decide +kernel
theorem dX12_fitTold_47 : decode cX12_fitTold 47 = .ok (.iconst 5, 1) := by decide +kernel
theorem dX12_fitTold_48 : decode cX12_fitTold 48 = .ok (.iaload, 1) := by decide +kernel
theorem dX12_fitTold_49 : decode cX12_fitTold 49 = .ok (.if_icmp .gt 7, 3) := by decide +kernel
theorem dX12_fitTold_52 : decode cX12_fitTold 52 = .ok (.iconst 1, 1) := by decide +kernel
theorem dX12_fitTold_53 : decode cX12_fitTold 53 = .ok (.goto 4, 3) := by decide +kernel
theorem dX12_fitTold_56 : decode cX12_fitTold 56 = .ok (.iconst 0, 1) := by decide +kernel
theorem dX12_fitTold_57 : decode cX12_fitTold 57 = .ok (.ireturn, 1) := by decide +kernel
set_option maxHeartbeats 4000000 in
set_option maxRecDepth 100000 in
theorem c_X12_fitTold (l : Launch) (D : va_G) (cs : Nat → ClassId) (kK kV : Nat → Nat) (a : Nat) (p0 : Int32) (p1 : Int32) (a_tape : Nat) (a__taped : Int32) (a__rules : Int32) (a_sign : Nat) (a_length : Nat) (a_clause : Nat) (a_clauses : Nat) (a_read : Nat) (a__next : Int32) (a__wrong : Int32) (a__number : Int32) (a__text : Int32) (a__made : Int32) (a__deep : Int32) (a__lines : Int32) (a_open : Nat) (a__opened : Int32) (a_stack : Nat) (a__top : Int32) (a_word : Nat) (a_said : Nat) (a__x : Int32) (a_worth : Nat) (a_mate : Nat) (a_wasSaid : Nat) (a__undone : Int32) (a__boughtNow : Int32) (a_wayBy : Nat) (a_wayThen : Nat) (a__walkMost : Int32) (a__walkGoing : Int32) (a__walkSet : Int32) (a_kept : Nat) (a__drawX : Int64) (a_images : Nat) (a_imageX : Nat) (a_isMade : Nat) (a_said_c : Nat → Int32) (h_p0 : IV 0 11 p0) (h_p1 : IV 0 11 p1) (h_a__taped : IV 0 400 a__taped) (h_a__rules : IV 0 6 a__rules) (h_a__next : IV 0 400 a__next) (h_a__text : IV 0 6 a__text) (h_a__made : IV 0 60 a__made) (h_a__lines : IV 0 40 a__lines) (h_a__opened : IV 0 400 a__opened) (h_a__top : IV 0 64 a__top) (h_a__x : IV 0 2147483647 a__x) (h_a__undone : IV 0 20 a__undone) : Met l yX12_fitTold (hz_w yX12_fitTold cX12_fitTold 4 (some .int)) ({ frames := 1, cells := 0, slots := 0, locals := 22 }) (va_Pc [.ref a, .int p0, .int p1] (hz_P D cs kK kV [(a, .inr (12, [.ref a_tape, .int a__taped, .int a__rules, .ref a_sign, .ref a_length, .ref a_clause, .ref a_clauses, .ref a_read, .int a__next, .int a__wrong, .int a__number, .int a__text, .int a__made, .int a__deep, .int a__lines, .ref a_open, .int a__opened, .ref a_stack, .int a__top, .ref a_word, .ref a_said, .int a__x, .ref a_worth, .ref a_mate, .ref a_wasSaid, .int a__undone, .int a__boughtNow, .ref a_wayBy, .ref a_wayThen, .int a__walkMost, .int a__walkGoing, .int a__walkSet, .ref a_kept, .long a__drawX, .ref a_images, .ref a_imageX, .ref a_isMade])), (a_said, .inl (cs 0, 123, .inl a_said_c))])) (va_Qi (fun (r : Int32) (_ : Unit) => (r = 0) ∨ (r = 1) ∨ (r = 2)) (fun _ t => True) (fun _ => False)) 0 0 (fun _ => False) := by
  refine Met.ofW (cc := cX12_fitTold) (maxL := 4) (ret := (some .int)) (by decide) rfl ?_
  intro p e s m args below meth c s₁ B hml hv
  obtain ⟨rfl, hP, hE⟩ := hv
  have hx := B.exec
  have hb := B.bytes
  have hr := B.returns
  have hT : ∀ w ∈ TB, w.before _ s = true := fun w h => atoms_spec (ws := hz_w yX12_fitTold cX12_fitTold 4 (some .int)) B.pre w (List.mem_cons_of_mem _ h)
  have hown : s.vm.findClass RX12 = some m.cls := findClass_of_methodNamed B.named
  have hlocks := B.notSynchronized
  clear B
  have hS : va_S (fun _ => False) s.heap s.heap [] := va_S.rf
  have hK := hE.1
  have hl := lv_entry ([.ref a, .int p0, .int p1]) (n := 4) (Nat.le_of_ble_eq_true rfl)
  rw [lg_entry_eq]
  generalize (lg_sl ([.ref a, .int p0, .int p1]) ++ List.replicate (4 - (lg_sl ([.ref a, .int p0, .int p1])).length) Slot.unset).toArray = ls at hl ⊢
  have hl : lv_has ls 4 [(0, .ref a), (1, .int p0), (2, .int p1)] := hl
  obtain ⟨H, eH⟩ : ∃ z, z = s.heap := ⟨_, rfl⟩
  have hP : va_P D classes [(a, .inr (12, [.ref a_tape, .int a__taped, .int a__rules, .ref a_sign, .ref a_length, .ref a_clause, .ref a_clauses, .ref a_read, .int a__next, .int a__wrong, .int a__number, .int a__text, .int a__made, .int a__deep, .int a__lines, .ref a_open, .int a__opened, .ref a_stack, .int a__top, .ref a_word, .ref a_said, .int a__x, .ref a_worth, .ref a_mate, .ref a_wasSaid, .int a__undone, .int a__boughtNow, .ref a_wayBy, .ref a_wayThen, .int a__walkMost, .int a__walkGoing, .int a__walkSet, .ref a_kept, .long a__drawX, .ref a_images, .ref a_imageX, .ref a_isMade])), (a_said, .inl (cs 0, 123, .inl a_said_c))] H := by rw [eH]; exact hP
  have hS : va_S (fun _ => False) s.heap H [] := by rw [eH]; exact hS
  rw [← eH]
  clear eH
  obtain ⟨locs, el⟩ : ∃ z : List Loc, z = [] := ⟨_, rfl⟩
  rw [← el] at hS ⊢
  clear el
  have z0 : (0 : Int32).toInt = 0 := by decide
  have z1 : (1 : Int32).toInt = 1 := by decide
  have zm1 : (-1 : Int32).toInt = -1 := by decide
  have i_a__lines : 0 ≤ a__lines.toInt ∧ a__lines.toInt ≤ 40 := h_a__lines
  have i_a__made : 0 ≤ a__made.toInt ∧ a__made.toInt ≤ 60 := h_a__made
  have i_a__next : 0 ≤ a__next.toInt ∧ a__next.toInt ≤ 400 := h_a__next
  have i_a__opened : 0 ≤ a__opened.toInt ∧ a__opened.toInt ≤ 400 := h_a__opened
  have i_a__rules : 0 ≤ a__rules.toInt ∧ a__rules.toInt ≤ 6 := h_a__rules
  have i_a__taped : 0 ≤ a__taped.toInt ∧ a__taped.toInt ≤ 400 := h_a__taped
  have i_a__text : 0 ≤ a__text.toInt ∧ a__text.toInt ≤ 6 := h_a__text
  have i_a__top : 0 ≤ a__top.toInt ∧ a__top.toInt ≤ 64 := h_a__top
  have i_a__undone : 0 ≤ a__undone.toInt ∧ a__undone.toInt ≤ 20 := h_a__undone
  have i_a__x : 0 ≤ a__x.toInt ∧ a__x.toInt ≤ 2147483647 := h_a__x
  have i_p0 : 0 ≤ p0.toInt ∧ p0.toInt ≤ 11 := h_p0
  have i_p1 : 0 ≤ p1.toInt ∧ p1.toInt ≤ 11 := h_p1
  refine lv_aload_n hx hb dX12_fitTold_0 rfl (lv_at hl 0 rfl) ?_
  refine lv_iload_n hx hb dX12_fitTold_1 rfl (lv_at hl 1 rfl) ?_
  refine lv_iconst (v := 1) hx hb dX12_fitTold_2 (by decide) ?_
  refine va_calli (va_runV (As := [.int p0, .int 1]) (rest := []) ⟨hx, hb, hml, hown, hT⟩ (c_X12_halfOf l D cs kK kV a p0 1 a_tape a__taped a__rules a_sign a_length a_clause a_clauses a_read a__next a__wrong a__number a__text a__made a__deep a__lines a_open a__opened a_stack a__top a_word a_said a__x a_worth a_mate a_wasSaid a__undone a__boughtNow a_wayBy a_wayThen a__walkMost a__walkGoing a__walkSet a_kept a__drawX a_images a_imageX a_isMade a_said_c h_p0 ((iv_c (by decide))) h_a__taped h_a__rules h_a__next h_a__text h_a__made h_a__lines h_a__opened h_a__top h_a__x h_a__undone) (cwV 2 hT (hz_gV q_1104 q_1105 q_1106 q_701 q_1107) rfl rfl rfl (by decide +kernel) ⟨(Nat.le_of_ble_eq_true rfl), (Nat.le_of_ble_eq_true rfl)⟩) ⟨hz_P.blind, va_recv hK hP (ci := 12) (q0 := 0) rfl rfl, hz_P.mk (hP.sub (ws' := [(a, .inr (12, [.ref a_tape, .int a__taped, .int a__rules, .ref a_sign, .ref a_length, .ref a_clause, .ref a_clauses, .ref a_read, .int a__next, .int a__wrong, .int a__number, .int a__text, .int a__made, .int a__deep, .int a__lines, .ref a_open, .int a__opened, .ref a_stack, .int a__top, .ref a_word, .ref a_said, .int a__x, .ref a_worth, .ref a_mate, .ref a_wasSaid, .int a__undone, .int a__boughtNow, .ref a_wayBy, .ref a_wayThen, .int a__walkMost, .int a__walkGoing, .int a__walkSet, .ref a_kept, .long a__drawX, .ref a_images, .ref a_imageX, .ref a_isMade])), (a_said, .inl (cs 0, 123, .inl a_said_c))]) [0,1] rfl) hE hS⟩ rfl rfl hl.1 rfl (lv_room (Nat.le_of_ble_eq_true rfl)) dX12_fitTold_3 ⟨(Nat.le_of_ble_eq_true rfl), (Nat.le_of_ble_eq_true rfl)⟩) hS (fun _ _ h => h.elim) (fun _ h => h.elim) (fun r1 u t H1 locs ht hvm hw hB hz1 hk1 hS => ?_)
  have hP := hz_keep hP hk1
  clear hk1 hB hz1
  generalize H1 = H at hP hS ⊢
  have x2 := hw
  refine lv_aload_n hx hb dX12_fitTold_6 rfl (lv_at hl 0 rfl) ?_
  refine lv_iload_n hx hb dX12_fitTold_7 rfl (lv_at hl 2 rfl) ?_
  refine lv_iconst (v := 1) hx hb dX12_fitTold_8 (by decide) ?_
  refine va_calli (va_runV (As := [.int p1, .int 1]) (rest := [.int r1]) ⟨hx, hb, hml, hown, hT⟩ (c_X12_halfOf l D cs kK kV a p1 1 a_tape a__taped a__rules a_sign a_length a_clause a_clauses a_read a__next a__wrong a__number a__text a__made a__deep a__lines a_open a__opened a_stack a__top a_word a_said a__x a_worth a_mate a_wasSaid a__undone a__boughtNow a_wayBy a_wayThen a__walkMost a__walkGoing a__walkSet a_kept a__drawX a_images a_imageX a_isMade a_said_c h_p1 ((iv_c (by decide))) h_a__taped h_a__rules h_a__next h_a__text h_a__made h_a__lines h_a__opened h_a__top h_a__x h_a__undone) (cwV 2 hT (hz_gV q_1104 q_1105 q_1106 q_701 q_1107) rfl rfl rfl (by decide +kernel) ⟨(Nat.le_of_ble_eq_true rfl), (Nat.le_of_ble_eq_true rfl)⟩) ⟨hz_P.blind, va_recv hK hP (ci := 12) (q0 := 0) rfl rfl, hz_P.mk (hP.sub (ws' := [(a, .inr (12, [.ref a_tape, .int a__taped, .int a__rules, .ref a_sign, .ref a_length, .ref a_clause, .ref a_clauses, .ref a_read, .int a__next, .int a__wrong, .int a__number, .int a__text, .int a__made, .int a__deep, .int a__lines, .ref a_open, .int a__opened, .ref a_stack, .int a__top, .ref a_word, .ref a_said, .int a__x, .ref a_worth, .ref a_mate, .ref a_wasSaid, .int a__undone, .int a__boughtNow, .ref a_wayBy, .ref a_wayThen, .int a__walkMost, .int a__walkGoing, .int a__walkSet, .ref a_kept, .long a__drawX, .ref a_images, .ref a_imageX, .ref a_isMade])), (a_said, .inl (cs 0, 123, .inl a_said_c))]) [0,1] rfl) hE hS⟩ rfl rfl hl.1 rfl (lv_room (Nat.le_of_ble_eq_true rfl)) dX12_fitTold_9 ⟨(Nat.le_of_ble_eq_true rfl), (Nat.le_of_ble_eq_true rfl)⟩) hS (fun _ _ h => h.elim) (fun _ h => h.elim) (fun r3 u t H1 locs ht hvm hw hB hz1 hk1 hS => ?_)
  have hP := hz_keep hP hk1
  clear hk1 hB hz1
  generalize H1 = H at hP hS ⊢
  have x4 := hw
  refine lv_icmp_ne (tgt := 17) hx hb dX12_fitTold_12 (by decide) (fun c5 => ?_) (fun c5 => ?_)
  · have t6 : r1.toInt ≠ r3.toInt := lin_ne c5 rfl rfl
    refine lv_aload_n hx hb dX12_fitTold_17 rfl (lv_at hl 0 rfl) ?_
    refine lv_aload_n hx hb dX12_fitTold_18 rfl (lv_at hl 0 rfl) ?_
    refine lv_iload_n hx hb dX12_fitTold_19 rfl (lv_at hl 1 rfl) ?_
    refine lv_iconst (v := 0) hx hb dX12_fitTold_20 (by decide) ?_
    refine va_calli (va_runV (As := [.int p0, .int 0]) (rest := [.ref a]) ⟨hx, hb, hml, hown, hT⟩ (c_X12_halfOf l D cs kK kV a p0 0 a_tape a__taped a__rules a_sign a_length a_clause a_clauses a_read a__next a__wrong a__number a__text a__made a__deep a__lines a_open a__opened a_stack a__top a_word a_said a__x a_worth a_mate a_wasSaid a__undone a__boughtNow a_wayBy a_wayThen a__walkMost a__walkGoing a__walkSet a_kept a__drawX a_images a_imageX a_isMade a_said_c h_p0 ((iv_c (by decide))) h_a__taped h_a__rules h_a__next h_a__text h_a__made h_a__lines h_a__opened h_a__top h_a__x h_a__undone) (cwV 2 hT (hz_gV q_1104 q_1105 q_1106 q_701 q_1107) rfl rfl rfl (by decide +kernel) ⟨(Nat.le_of_ble_eq_true rfl), (Nat.le_of_ble_eq_true rfl)⟩) ⟨hz_P.blind, va_recv hK hP (ci := 12) (q0 := 0) rfl rfl, hz_P.mk (hP.sub (ws' := [(a, .inr (12, [.ref a_tape, .int a__taped, .int a__rules, .ref a_sign, .ref a_length, .ref a_clause, .ref a_clauses, .ref a_read, .int a__next, .int a__wrong, .int a__number, .int a__text, .int a__made, .int a__deep, .int a__lines, .ref a_open, .int a__opened, .ref a_stack, .int a__top, .ref a_word, .ref a_said, .int a__x, .ref a_worth, .ref a_mate, .ref a_wasSaid, .int a__undone, .int a__boughtNow, .ref a_wayBy, .ref a_wayThen, .int a__walkMost, .int a__walkGoing, .int a__walkSet, .ref a_kept, .long a__drawX, .ref a_images, .ref a_imageX, .ref a_isMade])), (a_said, .inl (cs 0, 123, .inl a_said_c))]) [0,1] rfl) hE hS⟩ rfl rfl hl.1 rfl (lv_room (Nat.le_of_ble_eq_true rfl)) dX12_fitTold_21 ⟨(Nat.le_of_ble_eq_true rfl), (Nat.le_of_ble_eq_true rfl)⟩) hS (fun _ _ h => h.elim) (fun _ h => h.elim) (fun r7 u t H1 locs ht hvm hw hB hz1 hk1 hS => ?_)
    have hP := hz_keep hP hk1
    clear hk1 hB hz1
    generalize H1 = H at hP hS ⊢
    have x8 := hw
    refine lv_aload_n hx hb dX12_fitTold_24 rfl (lv_at hl 0 rfl) ?_
    refine lv_iload_n hx hb dX12_fitTold_25 rfl (lv_at hl 2 rfl) ?_
    refine lv_iconst (v := 0) hx hb dX12_fitTold_26 (by decide) ?_
    refine va_calli (va_runV (As := [.int p1, .int 0]) (rest := [.int r7, .ref a]) ⟨hx, hb, hml, hown, hT⟩ (c_X12_halfOf l D cs kK kV a p1 0 a_tape a__taped a__rules a_sign a_length a_clause a_clauses a_read a__next a__wrong a__number a__text a__made a__deep a__lines a_open a__opened a_stack a__top a_word a_said a__x a_worth a_mate a_wasSaid a__undone a__boughtNow a_wayBy a_wayThen a__walkMost a__walkGoing a__walkSet a_kept a__drawX a_images a_imageX a_isMade a_said_c h_p1 ((iv_c (by decide))) h_a__taped h_a__rules h_a__next h_a__text h_a__made h_a__lines h_a__opened h_a__top h_a__x h_a__undone) (cwV 2 hT (hz_gV q_1104 q_1105 q_1106 q_701 q_1107) rfl rfl rfl (by decide +kernel) ⟨(Nat.le_of_ble_eq_true rfl), (Nat.le_of_ble_eq_true rfl)⟩) ⟨hz_P.blind, va_recv hK hP (ci := 12) (q0 := 0) rfl rfl, hz_P.mk (hP.sub (ws' := [(a, .inr (12, [.ref a_tape, .int a__taped, .int a__rules, .ref a_sign, .ref a_length, .ref a_clause, .ref a_clauses, .ref a_read, .int a__next, .int a__wrong, .int a__number, .int a__text, .int a__made, .int a__deep, .int a__lines, .ref a_open, .int a__opened, .ref a_stack, .int a__top, .ref a_word, .ref a_said, .int a__x, .ref a_worth, .ref a_mate, .ref a_wasSaid, .int a__undone, .int a__boughtNow, .ref a_wayBy, .ref a_wayThen, .int a__walkMost, .int a__walkGoing, .int a__walkSet, .ref a_kept, .long a__drawX, .ref a_images, .ref a_imageX, .ref a_isMade])), (a_said, .inl (cs 0, 123, .inl a_said_c))]) [0,1] rfl) hE hS⟩ rfl rfl hl.1 rfl (lv_room (Nat.le_of_ble_eq_true rfl)) dX12_fitTold_27 ⟨(Nat.le_of_ble_eq_true rfl), (Nat.le_of_ble_eq_true rfl)⟩) hS (fun _ _ h => h.elim) (fun _ h => h.elim) (fun r9 u t H1 locs ht hvm hw hB hz1 hk1 hS => ?_)
    have hP := hz_keep hP hk1
    clear hk1 hB hz1
    generalize H1 = H at hP hS ⊢
    have x10 := hw
    refine va_calli (va_runV (As := [.int r7, .int r9]) (rest := []) ⟨hx, hb, hml, hown, hT⟩ (c_X12_apart l D cs kK kV a r7 r9) (cwV 2 hT (hz_gV q_1112 q_1113 q_1114 q_701 q_1115) rfl rfl rfl (by decide +kernel) ⟨(Nat.le_of_ble_eq_true rfl), (Nat.le_of_ble_eq_true rfl)⟩) ⟨hz_P.blind, va_recv hK hP (ci := 12) (q0 := 0) rfl rfl, hz_P.mk (hP.sub (ws' := []) [] rfl) hE hS⟩ rfl rfl hl.1 rfl (lv_room (Nat.le_of_ble_eq_true rfl)) dX12_fitTold_30 ⟨(Nat.le_of_ble_eq_true rfl), (Nat.le_of_ble_eq_true rfl)⟩) hS (fun _ _ h => h.elim) (fun _ h => h.elim) (fun r11 u t H1 locs ht hvm hw hB hz1 hk1 hS => ?_)
    have hP := hz_keep hP hk1
    clear hk1 hB hz1
    generalize H1 = H at hP hS ⊢
    refine lv_istore_n (lv' := [(3, .int r11), (0, .ref a), (1, .int p0), (2, .int p1)]) hx hb dX12_fitTold_33 rfl hl (by decide) rfl (fun ls hl => ?_)
    refine lv_iload_n hx hb dX12_fitTold_34 rfl (lv_at hl 0 rfl) ?_
    refine lv_if_ne (tgt := 42) hx hb dX12_fitTold_35 (by decide) (fun c12 => ?_) (fun c12 => ?_)
    · have t13 : r11.toInt ≠ 0 := lin_ne c12 rfl (by decide)
      refine lv_iload_n hx hb dX12_fitTold_42 rfl (lv_at hl 0 rfl) ?_
      refine lv_aload_n hx hb dX12_fitTold_43 rfl (lv_at hl 1 rfl) ?_
      refine va_get (D := D) (ci := 12) (v := .ref a_said) (C := RX12) (T := TX12) (N := 37) hx hb hT i_X12 hown hK hP 0 rfl rfl 20 (by decide) (hT _ q_185) (fun _ h9 => h9) rfl dX12_fitTold_44 ?_
      refine lv_iconst (v := 5) hx hb dX12_fitTold_47 (by decide) ?_
      refine va_iald hx hb hK hP 1 0 rfl rfl (iv_vc (by decide)) dX12_fitTold_48 ?_
      refine lv_topi (fun v14 ev14 => ?_)
      have lv14 : v14.toInt = (a_said_c 5).toInt := by rw [ev14]; rfl
      refine lv_icmp_gt (tgt := 56) hx hb dX12_fitTold_49 (by decide) (fun c15 => ?_) (fun c15 => ?_)
      · have t16 : r11.toInt > v14.toInt := lin_gt c15 rfl rfl
        have h17 : IV (-2147483648) 2147483646 v14 := iv_lt1 c15 iv_top iv_top (by decide)
        have ii18 : (-2147483648) ≤ v14.toInt ∧ v14.toInt ≤ 2147483646 := h17
        have h19 : IV (-2147483647) 2147483647 r11 := iv_lt2 c15 iv_top iv_top (by decide)
        have ii20 : (-2147483647) ≤ r11.toInt ∧ r11.toInt ≤ 2147483647 := h19
        refine lv_iconst (v := 0) hx hb dX12_fitTold_56 (by decide) ?_
        exact W.iret (v := 0) hx hb hr (fun t ht hW => ⟨⟨0, (), rfl, (Or.inl (rfl)), trivial⟩, hS.F ht⟩) hS.2.2 dX12_fitTold_57
      · have t21 : r11.toInt ≤ v14.toInt := lin_gtN c15 rfl rfl
        refine lv_iconst (v := 1) hx hb dX12_fitTold_52 (by decide) ?_
        refine lv_goto (tgt := 57) hx hb dX12_fitTold_53 (by decide) ?_
        exact W.iret (v := 1) hx hb hr (fun t ht hW => ⟨⟨1, (), rfl, (Or.inr (Or.inl (rfl))), trivial⟩, hS.F ht⟩) hS.2.2 dX12_fitTold_57
    · have t22 : r11.toInt = 0 := lin_eqN c12 rfl (by decide)
      have h23 : IV 0 0 r11 := iv_eq1 c12 iv_top (iv_c (a := 0) (b := 0) (by decide)) (by decide) (by decide)
      have ii24 : 0 ≤ r11.toInt ∧ r11.toInt ≤ 0 := h23
      refine lv_iconst (v := 2) hx hb dX12_fitTold_38 (by decide) ?_
      refine lv_goto (tgt := 57) hx hb dX12_fitTold_39 (by decide) ?_
      exact W.iret (v := 2) hx hb hr (fun t ht hW => ⟨⟨2, (), rfl, (Or.inr (Or.inr ((rfl)))), trivial⟩, hS.F ht⟩) hS.2.2 dX12_fitTold_57
  · have t25 : r1.toInt = r3.toInt := lin_eqN c5 rfl rfl
    refine lv_iconst (v := 0) hx hb dX12_fitTold_15 (by decide) ?_
    exact W.iret (v := 0) hx hb hr (fun t ht hW => ⟨⟨0, (), rfl, (Or.inl (rfl)), trivial⟩, hS.F ht⟩) hS.2.2 dX12_fitTold_16
theorem dX12_fitOf_0 : decode cX12_fitOf 0 = .ok (.aload_n 0, 1) := by decide +kernel
theorem dX12_fitOf_1 : decode cX12_fitOf 1 = .ok (.iload_n 1, 1) := by decide +kernel
theorem dX12_fitOf_2 : decode cX12_fitOf 2 = .ok (.iconst 4, 1) := by decide +kernel
theorem dX12_fitOf_3 : decode cX12_fitOf 3 = .ok (.invokevirtual 301, 3) := by decide +kernel
theorem dX12_fitOf_6 : decode cX12_fitOf 6 = .ok (.iconst 1, 1) := by decide +kernel
theorem dX12_fitOf_7 : decode cX12_fitOf 7 = .ok (.if_icmp .eq 13, 3) := by decide +kernel
theorem dX12_fitOf_10 : decode cX12_fitOf 10 = .ok (.aload_n 0, 1) := by decide +kernel
theorem dX12_fitOf_11 : decode cX12_fitOf 11 = .ok (.iload_n 2, 1) := by decide +kernel
theorem dX12_fitOf_12 : decode cX12_fitOf 12 = .ok (.iconst 4, 1) := by decide +kernel
theorem dX12_fitOf_13 : decode cX12_fitOf 13 = .ok (.invokevirtual 301, 3) := by decide +kernel
theorem dX12_fitOf_16 : decode cX12_fitOf 16 = .ok (.iconst 1, 1) := by decide +kernel
theorem dX12_fitOf_17 : decode cX12_fitOf 17 = .ok (.if_icmp .ne 7, 3) := by decide +kernel
theorem dX12_fitOf_20 : decode cX12_fitOf 20 = .ok (.iconst 2, 1) := by decide +kernel
theorem dX12_fitOf_21 : decode cX12_fitOf 21 = .ok (.goto 9, 3) := by decide +kernel
theorem dX12_fitOf_24 : decode cX12_fitOf 24 = .ok (.aload_n 0, 1) := by decide +kernel
theorem dX12_fitOf_25 : decode cX12_fitOf 25 = .ok (.iload_n 1, 1) := by decide +kernel
theorem dX12_fitOf_26 : decode cX12_fitOf 26 = .ok (.iload_n 2, 1) := by decide +kernel
theorem dX12_fitOf_27 : decode cX12_fitOf 27 = .ok (.invokevirtual 311, 3) := by decide +kernel
theorem dX12_fitOf_30 : decode cX12_fitOf 30 = .ok (.ireturn, 1) := by decide +kernel
set_option maxHeartbeats 4000000 in
set_option maxRecDepth 100000 in
theorem c_X12_fitOf (l : Launch) (D : va_G) (cs : Nat → ClassId) (kK kV : Nat → Nat) (a : Nat) (p0 : Int32) (p1 : Int32) (a_tape : Nat) (a__taped : Int32) (a__rules : Int32) (a_sign : Nat) (a_length : Nat) (a_clause : Nat) (a_clauses : Nat) (a_read : Nat) (a__next : Int32) (a__wrong : Int32) (a__number : Int32) (a__text : Int32) (a__made : Int32) (a__deep : Int32) (a__lines : Int32) (a_open : Nat) (a__opened : Int32) (a_stack : Nat) (a__top : Int32) (a_word : Nat) (a_said : Nat) (a__x : Int32) (a_worth : Nat) (a_mate : Nat) (a_wasSaid : Nat) (a__undone : Int32) (a__boughtNow : Int32) (a_wayBy : Nat) (a_wayThen : Nat) (a__walkMost : Int32) (a__walkGoing : Int32) (a__walkSet : Int32) (a_kept : Nat) (a__drawX : Int64) (a_images : Nat) (a_imageX : Nat) (a_isMade : Nat) (a_said_c : Nat → Int32) (h_p0 : IV 0 11 p0) (h_p1 : IV 0 11 p1) (h_a__taped : IV 0 400 a__taped) (h_a__rules : IV 0 6 a__rules) (h_a__next : IV 0 400 a__next) (h_a__text : IV 0 6 a__text) (h_a__made : IV 0 60 a__made) (h_a__lines : IV 0 40 a__lines) (h_a__opened : IV 0 400 a__opened) (h_a__top : IV 0 64 a__top) (h_a__x : IV 0 2147483647 a__x) (h_a__undone : IV 0 20 a__undone) : Met l yX12_fitOf (hz_w yX12_fitOf cX12_fitOf 3 (some .int)) ({ frames := 2, cells := 0, slots := 0, locals := 45 }) (va_Pc [.ref a, .int p0, .int p1] (hz_P D cs kK kV [(a, .inr (12, [.ref a_tape, .int a__taped, .int a__rules, .ref a_sign, .ref a_length, .ref a_clause, .ref a_clauses, .ref a_read, .int a__next, .int a__wrong, .int a__number, .int a__text, .int a__made, .int a__deep, .int a__lines, .ref a_open, .int a__opened, .ref a_stack, .int a__top, .ref a_word, .ref a_said, .int a__x, .ref a_worth, .ref a_mate, .ref a_wasSaid, .int a__undone, .int a__boughtNow, .ref a_wayBy, .ref a_wayThen, .int a__walkMost, .int a__walkGoing, .int a__walkSet, .ref a_kept, .long a__drawX, .ref a_images, .ref a_imageX, .ref a_isMade])), (a_said, .inl (cs 0, 123, .inl a_said_c))])) (va_Qi (fun (r : Int32) (_ : Unit) => (r = 0) ∨ (r = 1) ∨ (r = 2)) (fun _ t => True) (fun _ => False)) 0 0 (fun _ => False) := by
  refine Met.ofW (cc := cX12_fitOf) (maxL := 3) (ret := (some .int)) (by decide) rfl ?_
  intro p e s m args below meth c s₁ B hml hv
  obtain ⟨rfl, hP, hE⟩ := hv
  have hx := B.exec
  have hb := B.bytes
  have hr := B.returns
  have hT : ∀ w ∈ TB, w.before _ s = true := fun w h => atoms_spec (ws := hz_w yX12_fitOf cX12_fitOf 3 (some .int)) B.pre w (List.mem_cons_of_mem _ h)
  have hown : s.vm.findClass RX12 = some m.cls := findClass_of_methodNamed B.named
  have hlocks := B.notSynchronized
  clear B
  have hS : va_S (fun _ => False) s.heap s.heap [] := va_S.rf
  have hK := hE.1
  have hl := lv_entry ([.ref a, .int p0, .int p1]) (n := 3) (Nat.le_of_ble_eq_true rfl)
  rw [lg_entry_eq]
  generalize (lg_sl ([.ref a, .int p0, .int p1]) ++ List.replicate (3 - (lg_sl ([.ref a, .int p0, .int p1])).length) Slot.unset).toArray = ls at hl ⊢
  have hl : lv_has ls 3 [(0, .ref a), (1, .int p0), (2, .int p1)] := hl
  obtain ⟨H, eH⟩ : ∃ z, z = s.heap := ⟨_, rfl⟩
  have hP : va_P D classes [(a, .inr (12, [.ref a_tape, .int a__taped, .int a__rules, .ref a_sign, .ref a_length, .ref a_clause, .ref a_clauses, .ref a_read, .int a__next, .int a__wrong, .int a__number, .int a__text, .int a__made, .int a__deep, .int a__lines, .ref a_open, .int a__opened, .ref a_stack, .int a__top, .ref a_word, .ref a_said, .int a__x, .ref a_worth, .ref a_mate, .ref a_wasSaid, .int a__undone, .int a__boughtNow, .ref a_wayBy, .ref a_wayThen, .int a__walkMost, .int a__walkGoing, .int a__walkSet, .ref a_kept, .long a__drawX, .ref a_images, .ref a_imageX, .ref a_isMade])), (a_said, .inl (cs 0, 123, .inl a_said_c))] H := by rw [eH]; exact hP
  have hS : va_S (fun _ => False) s.heap H [] := by rw [eH]; exact hS
  rw [← eH]
  clear eH
  obtain ⟨locs, el⟩ : ∃ z : List Loc, z = [] := ⟨_, rfl⟩
  rw [← el] at hS ⊢
  clear el
  have z0 : (0 : Int32).toInt = 0 := by decide
  have z1 : (1 : Int32).toInt = 1 := by decide
  have zm1 : (-1 : Int32).toInt = -1 := by decide
  have i_a__lines : 0 ≤ a__lines.toInt ∧ a__lines.toInt ≤ 40 := h_a__lines
  have i_a__made : 0 ≤ a__made.toInt ∧ a__made.toInt ≤ 60 := h_a__made
  have i_a__next : 0 ≤ a__next.toInt ∧ a__next.toInt ≤ 400 := h_a__next
  have i_a__opened : 0 ≤ a__opened.toInt ∧ a__opened.toInt ≤ 400 := h_a__opened
  have i_a__rules : 0 ≤ a__rules.toInt ∧ a__rules.toInt ≤ 6 := h_a__rules
  have i_a__taped : 0 ≤ a__taped.toInt ∧ a__taped.toInt ≤ 400 := h_a__taped
  have i_a__text : 0 ≤ a__text.toInt ∧ a__text.toInt ≤ 6 := h_a__text
  have i_a__top : 0 ≤ a__top.toInt ∧ a__top.toInt ≤ 64 := h_a__top
  have i_a__undone : 0 ≤ a__undone.toInt ∧ a__undone.toInt ≤ 20 := h_a__undone
  have i_a__x : 0 ≤ a__x.toInt ∧ a__x.toInt ≤ 2147483647 := h_a__x
  have i_p0 : 0 ≤ p0.toInt ∧ p0.toInt ≤ 11 := h_p0
  have i_p1 : 0 ≤ p1.toInt ∧ p1.toInt ≤ 11 := h_p1
  refine lv_aload_n hx hb dX12_fitOf_0 rfl (lv_at hl 0 rfl) ?_
  refine lv_iload_n hx hb dX12_fitOf_1 rfl (lv_at hl 1 rfl) ?_
  refine lv_iconst (v := 4) hx hb dX12_fitOf_2 (by decide) ?_
  refine va_calli (va_runV (As := [.int p0, .int 4]) (rest := []) ⟨hx, hb, hml, hown, hT⟩ (c_X12_halfOf l D cs kK kV a p0 4 a_tape a__taped a__rules a_sign a_length a_clause a_clauses a_read a__next a__wrong a__number a__text a__made a__deep a__lines a_open a__opened a_stack a__top a_word a_said a__x a_worth a_mate a_wasSaid a__undone a__boughtNow a_wayBy a_wayThen a__walkMost a__walkGoing a__walkSet a_kept a__drawX a_images a_imageX a_isMade a_said_c h_p0 ((iv_c (by decide))) h_a__taped h_a__rules h_a__next h_a__text h_a__made h_a__lines h_a__opened h_a__top h_a__x h_a__undone) (cwV 2 hT (hz_gV q_1104 q_1105 q_1106 q_701 q_1107) rfl rfl rfl (by decide +kernel) ⟨(Nat.le_of_ble_eq_true rfl), (Nat.le_of_ble_eq_true rfl)⟩) ⟨hz_P.blind, va_recv hK hP (ci := 12) (q0 := 0) rfl rfl, hz_P.mk (hP.sub (ws' := [(a, .inr (12, [.ref a_tape, .int a__taped, .int a__rules, .ref a_sign, .ref a_length, .ref a_clause, .ref a_clauses, .ref a_read, .int a__next, .int a__wrong, .int a__number, .int a__text, .int a__made, .int a__deep, .int a__lines, .ref a_open, .int a__opened, .ref a_stack, .int a__top, .ref a_word, .ref a_said, .int a__x, .ref a_worth, .ref a_mate, .ref a_wasSaid, .int a__undone, .int a__boughtNow, .ref a_wayBy, .ref a_wayThen, .int a__walkMost, .int a__walkGoing, .int a__walkSet, .ref a_kept, .long a__drawX, .ref a_images, .ref a_imageX, .ref a_isMade])), (a_said, .inl (cs 0, 123, .inl a_said_c))]) [0,1] rfl) hE hS⟩ rfl rfl hl.1 rfl (lv_room (Nat.le_of_ble_eq_true rfl)) dX12_fitOf_3 ⟨(Nat.le_of_ble_eq_true rfl), (Nat.le_of_ble_eq_true rfl)⟩) hS (fun _ _ h => h.elim) (fun _ h => h.elim) (fun r1 u t H1 locs ht hvm hw hB hz1 hk1 hS => ?_)
  have hP := hz_keep hP hk1
  clear hk1 hB hz1
  generalize H1 = H at hP hS ⊢
  have x2 := hw
  have z4 : (4 : Int32).toInt = 4 := by decide
  refine lv_iconst (v := 1) hx hb dX12_fitOf_6 (by decide) ?_
  refine lv_icmp_eq (tgt := 20) hx hb dX12_fitOf_7 (by decide) (fun c3 => ?_) (fun c3 => ?_)
  · have t4 : r1.toInt = 1 := lin_eq c3 rfl (by decide)
    have h5 : IV 1 1 r1 := iv_eq1 c3 iv_top (iv_c (a := 1) (b := 1) (by decide)) (by decide) (by decide)
    have ii6 : 1 ≤ r1.toInt ∧ r1.toInt ≤ 1 := h5
    refine lv_iconst (v := 2) hx hb dX12_fitOf_20 (by decide) ?_
    refine lv_goto (tgt := 30) hx hb dX12_fitOf_21 (by decide) ?_
    exact W.iret (v := 2) hx hb hr (fun t ht hW => ⟨⟨2, (), rfl, (Or.inr (Or.inr ((rfl)))), trivial⟩, hS.F ht⟩) hS.2.2 dX12_fitOf_30
  · have t7 : r1.toInt ≠ 1 := lin_ne c3 rfl (by decide)
    refine lv_aload_n hx hb dX12_fitOf_10 rfl (lv_at hl 0 rfl) ?_
    refine lv_iload_n hx hb dX12_fitOf_11 rfl (lv_at hl 2 rfl) ?_
    refine lv_iconst (v := 4) hx hb dX12_fitOf_12 (by decide) ?_
    refine va_calli (va_runV (As := [.int p1, .int 4]) (rest := []) ⟨hx, hb, hml, hown, hT⟩ (c_X12_halfOf l D cs kK kV a p1 4 a_tape a__taped a__rules a_sign a_length a_clause a_clauses a_read a__next a__wrong a__number a__text a__made a__deep a__lines a_open a__opened a_stack a__top a_word a_said a__x a_worth a_mate a_wasSaid a__undone a__boughtNow a_wayBy a_wayThen a__walkMost a__walkGoing a__walkSet a_kept a__drawX a_images a_imageX a_isMade a_said_c h_p1 ((iv_c (by decide))) h_a__taped h_a__rules h_a__next h_a__text h_a__made h_a__lines h_a__opened h_a__top h_a__x h_a__undone) (cwV 2 hT (hz_gV q_1104 q_1105 q_1106 q_701 q_1107) rfl rfl rfl (by decide +kernel) ⟨(Nat.le_of_ble_eq_true rfl), (Nat.le_of_ble_eq_true rfl)⟩) ⟨hz_P.blind, va_recv hK hP (ci := 12) (q0 := 0) rfl rfl, hz_P.mk (hP.sub (ws' := [(a, .inr (12, [.ref a_tape, .int a__taped, .int a__rules, .ref a_sign, .ref a_length, .ref a_clause, .ref a_clauses, .ref a_read, .int a__next, .int a__wrong, .int a__number, .int a__text, .int a__made, .int a__deep, .int a__lines, .ref a_open, .int a__opened, .ref a_stack, .int a__top, .ref a_word, .ref a_said, .int a__x, .ref a_worth, .ref a_mate, .ref a_wasSaid, .int a__undone, .int a__boughtNow, .ref a_wayBy, .ref a_wayThen, .int a__walkMost, .int a__walkGoing, .int a__walkSet, .ref a_kept, .long a__drawX, .ref a_images, .ref a_imageX, .ref a_isMade])), (a_said, .inl (cs 0, 123, .inl a_said_c))]) [0,1] rfl) hE hS⟩ rfl rfl hl.1 rfl (lv_room (Nat.le_of_ble_eq_true rfl)) dX12_fitOf_13 ⟨(Nat.le_of_ble_eq_true rfl), (Nat.le_of_ble_eq_true rfl)⟩) hS (fun _ _ h => h.elim) (fun _ h => h.elim) (fun r8 u t H1 locs ht hvm hw hB hz1 hk1 hS => ?_)
    have hP := hz_keep hP hk1
    clear hk1 hB hz1
    generalize H1 = H at hP hS ⊢
    have x9 := hw
    refine lv_iconst (v := 1) hx hb dX12_fitOf_16 (by decide) ?_
    refine lv_icmp_ne (tgt := 24) hx hb dX12_fitOf_17 (by decide) (fun c10 => ?_) (fun c10 => ?_)
    · have t11 : r8.toInt ≠ 1 := lin_ne c10 rfl (by decide)
      refine lv_aload_n hx hb dX12_fitOf_24 rfl (lv_at hl 0 rfl) ?_
      refine lv_iload_n hx hb dX12_fitOf_25 rfl (lv_at hl 1 rfl) ?_
      refine lv_iload_n hx hb dX12_fitOf_26 rfl (lv_at hl 2 rfl) ?_
      refine va_calli (va_runV (As := [.int p0, .int p1]) (rest := []) ⟨hx, hb, hml, hown, hT⟩ (c_X12_fitTold l D cs kK kV a p0 p1 a_tape a__taped a__rules a_sign a_length a_clause a_clauses a_read a__next a__wrong a__number a__text a__made a__deep a__lines a_open a__opened a_stack a__top a_word a_said a__x a_worth a_mate a_wasSaid a__undone a__boughtNow a_wayBy a_wayThen a__walkMost a__walkGoing a__walkSet a_kept a__drawX a_images a_imageX a_isMade a_said_c h_p0 h_p1 h_a__taped h_a__rules h_a__next h_a__text h_a__made h_a__lines h_a__opened h_a__top h_a__x h_a__undone) (cwV 2 hT (hz_gV q_1116 q_1117 q_1118 q_701 q_1119) rfl rfl rfl (by decide +kernel) ⟨(Nat.le_of_ble_eq_true rfl), (Nat.le_of_ble_eq_true rfl)⟩) ⟨hz_P.blind, va_recv hK hP (ci := 12) (q0 := 0) rfl rfl, hz_P.mk (hP.sub (ws' := [(a, .inr (12, [.ref a_tape, .int a__taped, .int a__rules, .ref a_sign, .ref a_length, .ref a_clause, .ref a_clauses, .ref a_read, .int a__next, .int a__wrong, .int a__number, .int a__text, .int a__made, .int a__deep, .int a__lines, .ref a_open, .int a__opened, .ref a_stack, .int a__top, .ref a_word, .ref a_said, .int a__x, .ref a_worth, .ref a_mate, .ref a_wasSaid, .int a__undone, .int a__boughtNow, .ref a_wayBy, .ref a_wayThen, .int a__walkMost, .int a__walkGoing, .int a__walkSet, .ref a_kept, .long a__drawX, .ref a_images, .ref a_imageX, .ref a_isMade])), (a_said, .inl (cs 0, 123, .inl a_said_c))]) [0,1] rfl) hE hS⟩ rfl rfl hl.1 rfl (lv_room (Nat.le_of_ble_eq_true rfl)) dX12_fitOf_27 ⟨(Nat.le_of_ble_eq_true rfl), (Nat.le_of_ble_eq_true rfl)⟩) hS (fun _ _ h => h.elim) (fun _ h => h.elim) (fun r12 u t H1 locs ht hvm hw hB hz1 hk1 hS => ?_)
      have hP := hz_keep hP hk1
      clear hk1 hB hz1
      generalize H1 = H at hP hS ⊢
      rcases hw with rfl | rfl | rfl
      · exact W.iret (v := 0) hx hb hr (fun t ht hW => ⟨⟨0, (), rfl, (Or.inl (rfl)), trivial⟩, hS.F ht⟩) hS.2.2 dX12_fitOf_30
      · exact W.iret (v := 1) hx hb hr (fun t ht hW => ⟨⟨1, (), rfl, (Or.inr (Or.inl (rfl))), trivial⟩, hS.F ht⟩) hS.2.2 dX12_fitOf_30
      · exact W.iret (v := 2) hx hb hr (fun t ht hW => ⟨⟨2, (), rfl, (Or.inr (Or.inr ((rfl)))), trivial⟩, hS.F ht⟩) hS.2.2 dX12_fitOf_30
    · have t13 : r8.toInt = 1 := lin_eqN c10 rfl (by decide)
      have h14 : IV 1 1 r8 := iv_eq1 c10 iv_top (iv_c (a := 1) (b := 1) (by decide)) (by decide) (by decide)
      have ii15 : 1 ≤ r8.toInt ∧ r8.toInt ≤ 1 := h14
      refine lv_iconst (v := 2) hx hb dX12_fitOf_20 (by decide) ?_
      refine lv_goto (tgt := 30) hx hb dX12_fitOf_21 (by decide) ?_
      exact W.iret (v := 2) hx hb hr (fun t ht hW => ⟨⟨2, (), rfl, (Or.inr (Or.inr ((rfl)))), trivial⟩, hS.F ht⟩) hS.2.2 dX12_fitOf_30
