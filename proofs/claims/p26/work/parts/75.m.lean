theorem dX12_hasOf_0 : decode cX12_hasOf 0 = .ok (.iconst 0, 1) := by decide +kernel
theorem dX12_hasOf_1 : decode cX12_hasOf 1 = .ok (.istore_n 2, 1) := by decide +kernel
theorem dX12_hasOf_2 : decode cX12_hasOf 2 = .ok (.iconst 0, 1) := by decide +kernel
theorem dX12_hasOf_3 : decode cX12_hasOf 3 = .ok (.istore_n 3, 1) := by decide +kernel
theorem dX12_hasOf_4 : decode cX12_hasOf 4 = .ok (.iload_n 3, 1) := by decide +kernel
theorem dX12_hasOf_5 : decode cX12_hasOf 5 = .ok (.aload_n 0, 1) := by decide +kernel
theorem dX12_hasOf_6 : decode cX12_hasOf 6 = .ok (.getfield 39, 3) := by decide +kernel
theorem dX12_hasOf_9 : decode cX12_hasOf 9 = .ok (.iconst 1, 1) := by decide +kernel
theorem dX12_hasOf_10 : decode cX12_hasOf 10 = .ok (.iaload, 1) := by decide +kernel
theorem dX12_hasOf_11 : decode cX12_hasOf 11 = .ok (.if_icmp .ge 32, 3) := by decide +kernel
theorem dX12_hasOf_14 : decode cX12_hasOf 14 = .ok (.iload_n 2, 1) := by decide +kernel
theorem dX12_hasOf_15 : decode cX12_hasOf 15 = .ok (.aload_n 0, 1) := by decide +kernel
theorem dX12_hasOf_16 : decode cX12_hasOf 16 = .ok (.iload_n 3, 1) := by decide +kernel
theorem dX12_hasOf_17 : decode cX12_hasOf 17 = .ok (.iconst 3, 1) := by decide +kernel
theorem dX12_hasOf_18 : decode cX12_hasOf 18 = .ok (.invokevirtual 301, 3) := by decide +kernel
theorem dX12_hasOf_21 : decode cX12_hasOf 21 = .ok (.bipush 100, 2) := by decide +kernel
theorem dX12_hasOf_23 : decode cX12_hasOf 23 = .ok (.iload_n 1, 1) := by decide +kernel
theorem dX12_hasOf_24 : decode cX12_hasOf 24 = .ok (.iadd, 1) := by decide +kernel
theorem dX12_hasOf_25 : decode cX12_hasOf 25 = .ok (.if_icmp .ne 9, 3) := by decide +kernel
theorem dX12_hasOf_28 : decode cX12_hasOf 28 = .ok (.iconst 1, 1) := by decide +kernel
theorem dX12_hasOf_29 : decode cX12_hasOf 29 = .ok (.iload_n 3, 1) := by decide +kernel
theorem dX12_hasOf_30 : decode cX12_hasOf 30 = .ok (.ishl, 1) := by decide +kernel
theorem dX12_hasOf_31 : decode cX12_hasOf 31 = .ok (.goto 4, 3) := by decide +kernel
theorem dX12_hasOf_34 : decode cX12_hasOf 34 = .ok (.iconst 0, 1) := by decide +kernel
theorem dX12_hasOf_35 : decode cX12_hasOf 35 = .ok (.ior, 1) := by decide +kernel
theorem dX12_hasOf_36 : decode cX12_hasOf 36 = .ok (.istore_n 2, 1) := by decide +kernel
theorem dX12_hasOf_37 : decode cX12_hasOf 37 = .ok (.iinc 3 1, 3) := by decide +kernel
theorem dX12_hasOf_40 : decode cX12_hasOf 40 = .ok (.goto (-36), 3) := by decide +kernel
theorem dX12_hasOf_43 : decode cX12_hasOf 43 = .ok (.iload_n 2, 1) := by decide +kernel
theorem dX12_hasOf_44 : decode cX12_hasOf 44 = .ok (.ireturn, 1) := by decide +kernel
set_option maxHeartbeats 4000000 in
set_option maxRecDepth 100000 in
theorem c_X12_hasOf (l : Launch) (D : va_G) (cs : Nat → ClassId) (kK kV : Nat → Nat) (a : Nat) (p0 : Int32) (a_said : Nat) (a_said_c : Nat → Int32) (a_tape : Nat) (a__taped : Int32) (a__rules : Int32) (a_sign : Nat) (a_length : Nat) (a_clause : Nat) (a_clauses : Nat) (a_read : Nat) (a__next : Int32) (a__wrong : Int32) (a__number : Int32) (a__text : Int32) (a__made : Int32) (a__deep : Int32) (a__lines : Int32) (a_open : Nat) (a__opened : Int32) (a_stack : Nat) (a__top : Int32) (a_word : Nat) (a__x : Int32) (a_worth : Nat) (a_mate : Nat) (a_wasSaid : Nat) (a__undone : Int32) (a__boughtNow : Int32) (a_wayBy : Nat) (a_wayThen : Nat) (a__walkMost : Int32) (a__walkGoing : Int32) (a__walkSet : Int32) (a_kept : Nat) (a__drawX : Int64) (a_images : Nat) (a_imageX : Nat) (a_isMade : Nat) (h_a__taped : IV 0 400 a__taped) (h_a__rules : IV 0 6 a__rules) (h_a__next : IV 0 400 a__next) (h_a__text : IV 0 6 a__text) (h_a__made : IV 0 60 a__made) (h_a__lines : IV 0 40 a__lines) (h_a__opened : IV 0 400 a__opened) (h_a__top : IV 0 64 a__top) (h_a__x : IV 0 2147483647 a__x) (h_a__undone : IV 0 20 a__undone) (hf0 : BS a_said_c 200) : Met l yX12_hasOf (hz_w yX12_hasOf cX12_hasOf 4 (some .int)) ({ frames := 1, cells := 0, slots := 0, locals := 22 }) (va_Pc [.ref a, .int p0] (hz_P D cs kK kV [(a_said, .inl (cs 0, 123, .inl a_said_c)), (a, .inr (12, [.ref a_tape, .int a__taped, .int a__rules, .ref a_sign, .ref a_length, .ref a_clause, .ref a_clauses, .ref a_read, .int a__next, .int a__wrong, .int a__number, .int a__text, .int a__made, .int a__deep, .int a__lines, .ref a_open, .int a__opened, .ref a_stack, .int a__top, .ref a_word, .ref a_said, .int a__x, .ref a_worth, .ref a_mate, .ref a_wasSaid, .int a__undone, .int a__boughtNow, .ref a_wayBy, .ref a_wayThen, .int a__walkMost, .int a__walkGoing, .int a__walkSet, .ref a_kept, .long a__drawX, .ref a_images, .ref a_imageX, .ref a_isMade]))])) (va_Qi (fun (r : Int32) (_ : Unit) => IV 0 4095 r) (fun _ t => True) (fun _ => False)) 0 0 (fun _ => False) := by
  refine Met.ofW (cc := cX12_hasOf) (maxL := 4) (ret := (some .int)) (by decide) rfl ?_
  intro p e s m args below meth c s₁ B hml hv
  obtain ⟨rfl, hP, hE⟩ := hv
  have hx := B.exec
  have hb := B.bytes
  have hr := B.returns
  have hT : ∀ w ∈ TB, w.before _ s = true := fun w h => atoms_spec (ws := hz_w yX12_hasOf cX12_hasOf 4 (some .int)) B.pre w (List.mem_cons_of_mem _ h)
  have hown : s.vm.findClass RX12 = some m.cls := findClass_of_methodNamed B.named
  have hlocks := B.notSynchronized
  clear B
  have hS : va_S (fun _ => False) s.heap s.heap [] := va_S.rf
  have hK := hE.1
  have hl := lv_entry ([.ref a, .int p0]) (n := 4) (Nat.le_of_ble_eq_true rfl)
  rw [lg_entry_eq]
  generalize (lg_sl ([.ref a, .int p0]) ++ List.replicate (4 - (lg_sl ([.ref a, .int p0])).length) Slot.unset).toArray = ls at hl ⊢
  have hl : lv_has ls 4 [(0, .ref a), (1, .int p0)] := hl
  obtain ⟨H, eH⟩ : ∃ z, z = s.heap := ⟨_, rfl⟩
  have hP : va_P D classes [(a_said, .inl (cs 0, 123, .inl a_said_c)), (a, .inr (12, [.ref a_tape, .int a__taped, .int a__rules, .ref a_sign, .ref a_length, .ref a_clause, .ref a_clauses, .ref a_read, .int a__next, .int a__wrong, .int a__number, .int a__text, .int a__made, .int a__deep, .int a__lines, .ref a_open, .int a__opened, .ref a_stack, .int a__top, .ref a_word, .ref a_said, .int a__x, .ref a_worth, .ref a_mate, .ref a_wasSaid, .int a__undone, .int a__boughtNow, .ref a_wayBy, .ref a_wayThen, .int a__walkMost, .int a__walkGoing, .int a__walkSet, .ref a_kept, .long a__drawX, .ref a_images, .ref a_imageX, .ref a_isMade]))] H := by rw [eH]; exact hP
  have hS : va_S (fun _ => False) s.heap H [] := by rw [eH]; exact hS
  rw [← eH]
  clear eH
  obtain ⟨locs, el⟩ : ∃ z : List Loc, z = [] := ⟨_, rfl⟩
  rw [← el] at hS ⊢
  clear el
  have z0 : (0 : Int32).toInt = 0 := by decide
  have z1 : (1 : Int32).toInt = 1 := by decide
  have zm1 : (-1 : Int32).toInt = -1 := by decide
  have i_a__lines : 0 ≤ a__lines.toInt ∧ a__lines.toInt ≤ 40 := h_a__lines
  have i_a__made : 0 ≤ a__made.toInt ∧ a__made.toInt ≤ 60 := h_a__made
  have i_a__next : 0 ≤ a__next.toInt ∧ a__next.toInt ≤ 400 := h_a__next
  have i_a__opened : 0 ≤ a__opened.toInt ∧ a__opened.toInt ≤ 400 := h_a__opened
  have i_a__rules : 0 ≤ a__rules.toInt ∧ a__rules.toInt ≤ 6 := h_a__rules
  have i_a__taped : 0 ≤ a__taped.toInt ∧ a__taped.toInt ≤ 400 := h_a__taped
  have i_a__text : 0 ≤ a__text.toInt ∧ a__text.toInt ≤ 6 := h_a__text
  have i_a__top : 0 ≤ a__top.toInt ∧ a__top.toInt ≤ 64 := h_a__top
  have i_a__undone : 0 ≤ a__undone.toInt ∧ a__undone.toInt ≤ 20 := h_a__undone
  have i_a__x : 0 ≤ a__x.toInt ∧ a__x.toInt ≤ 2147483647 := h_a__x
  have K4 : ∀ (n : Nat) (k4_L_3 : Int32) (k4_L_2 : Int32), (12 - k4_L_3.toInt + 1).toNat ≤ n → IV 0 4095 k4_L_2 → IV 0 12 k4_L_3 → ∀ (H : Heap) (locs : List Loc), va_P D classes [(a_said, .inl (cs 0, 123, .inl a_said_c)), (a, .inr (12, [.ref a_tape, .int a__taped, .int a__rules, .ref a_sign, .ref a_length, .ref a_clause, .ref a_clauses, .ref a_read, .int a__next, .int a__wrong, .int a__number, .int a__text, .int a__made, .int a__deep, .int a__lines, .ref a_open, .int a__opened, .ref a_stack, .int a__top, .ref a_word, .ref a_said, .int a__x, .ref a_worth, .ref a_mate, .ref a_wasSaid, .int a__undone, .int a__boughtNow, .ref a_wayBy, .ref a_wayThen, .int a__walkMost, .int a__walkGoing, .int a__walkSet, .ref a_kept, .long a__drawX, .ref a_images, .ref a_imageX, .ref a_isMade]))] H → va_S (fun _ => False) s.heap H locs → ∀ ls : Array Slot, lv_has ls 4 [(3, .int k4_L_3), (2, .int k4_L_2), (0, .ref a), (1, .int p0)] → W p l e (headSpec (hz_w yX12_hasOf cX12_hasOf 4 (some .int)) ({ frames := 1, cells := 0, slots := 0, locals := 22 })).room s m [.ref a, .int p0].toArray below meth c H locs 0 0 (MQ below (va_Qi (fun (r : Int32) (_ : Unit) => IV 0 4095 r) (fun _ t => True) (fun _ => False)) [.ref a, .int p0].toArray s 0 0 (fun _ => False)) (F0 m 4 ls []) := by
    intro n
    induction n with
    | zero =>
      intro k4_L_3 k4_L_2 hn q4_10 q4_11 H locs hP hS ls hl
      exact absurd hn (by unfold IV at q4_11; omega)
    | succ n ih4 =>
      intro k4_L_3 k4_L_2 hn q4_10 q4_11 H locs hP hS ls hl
      have i_a__lines : 0 ≤ a__lines.toInt ∧ a__lines.toInt ≤ 40 := h_a__lines
      have i_a__made : 0 ≤ a__made.toInt ∧ a__made.toInt ≤ 60 := h_a__made
      have i_a__next : 0 ≤ a__next.toInt ∧ a__next.toInt ≤ 400 := h_a__next
      have i_a__opened : 0 ≤ a__opened.toInt ∧ a__opened.toInt ≤ 400 := h_a__opened
      have i_a__rules : 0 ≤ a__rules.toInt ∧ a__rules.toInt ≤ 6 := h_a__rules
      have i_a__taped : 0 ≤ a__taped.toInt ∧ a__taped.toInt ≤ 400 := h_a__taped
      have i_a__text : 0 ≤ a__text.toInt ∧ a__text.toInt ≤ 6 := h_a__text
      have i_a__top : 0 ≤ a__top.toInt ∧ a__top.toInt ≤ 64 := h_a__top
      have i_a__undone : 0 ≤ a__undone.toInt ∧ a__undone.toInt ≤ 20 := h_a__undone
      have i_a__x : 0 ≤ a__x.toInt ∧ a__x.toInt ≤ 2147483647 := h_a__x
      have i_k4_L_2 : 0 ≤ k4_L_2.toInt ∧ k4_L_2.toInt ≤ 4095 := q4_10
      have i_k4_L_3 : 0 ≤ k4_L_3.toInt ∧ k4_L_3.toInt ≤ 12 := q4_11
      refine lv_iload_n hx hb dX12_hasOf_4 rfl (lv_at hl 0 rfl) ?_
      refine lv_aload_n hx hb dX12_hasOf_5 rfl (lv_at hl 2 rfl) ?_
      refine va_get (D := D) (ci := 12) (v := .ref a_said) (C := RX12) (T := TX12) (N := 37) hx hb hT i_X12 hown hK hP 1 rfl rfl 20 (by decide) (hT _ q_185) (fun _ h9 => h9) rfl dX12_hasOf_6 ?_
      refine lv_iconst (v := 1) hx hb dX12_hasOf_9 (by decide) ?_
      refine va_iald hx hb hK hP 0 0 rfl rfl (iv_vc (by decide)) dX12_hasOf_10 ?_
      refine lv_topi (fun v1 ev1 => ?_)
      have h2 : IV 0 12 v1 := (by rw [ev1]; exact bs_i1 hf0)
      have ii3 : 0 ≤ v1.toInt ∧ v1.toInt ≤ 12 := h2
      have lv1 : v1.toInt = (a_said_c 1).toInt := by rw [ev1]; rfl
      refine lv_icmp_ge (tgt := 43) hx hb dX12_hasOf_11 (by decide) (fun c4 => ?_) (fun c4 => ?_)
      · have t5 : k4_L_3.toInt ≥ v1.toInt := lin_ge c4 rfl rfl
        refine lv_iload_n hx hb dX12_hasOf_43 rfl (lv_at hl 1 rfl) ?_
        exact W.iret (v := k4_L_2) hx hb hr (fun t ht hW => ⟨⟨k4_L_2, (), rfl, q4_10, trivial⟩, hS.F ht⟩) hS.2.2 dX12_hasOf_44
      · have t6 : k4_L_3.toInt < v1.toInt := lin_geN c4 rfl rfl
        have h7 : IV 0 11 k4_L_3 := iv_lt1 (Int32.not_le.mp c4) q4_11 h2 (by decide)
        have ii8 : 0 ≤ k4_L_3.toInt ∧ k4_L_3.toInt ≤ 11 := h7
        have h9 : IV 1 12 v1 := iv_lt2 (Int32.not_le.mp c4) q4_11 h2 (by decide)
        have ii10 : 1 ≤ v1.toInt ∧ v1.toInt ≤ 12 := h9
        refine lv_iload_n hx hb dX12_hasOf_14 rfl (lv_at hl 1 rfl) ?_
        refine lv_aload_n hx hb dX12_hasOf_15 rfl (lv_at hl 2 rfl) ?_
        refine lv_iload_n hx hb dX12_hasOf_16 rfl (lv_at hl 0 rfl) ?_
        refine lv_iconst (v := 3) hx hb dX12_hasOf_17 (by decide) ?_
        refine va_calli (va_runV (As := [.int k4_L_3, .int 3]) (rest := [.int k4_L_2]) ⟨hx, hb, hml, hown, hT⟩ (c_X12_halfOf l D cs kK kV a k4_L_3 3 a_tape a__taped a__rules a_sign a_length a_clause a_clauses a_read a__next a__wrong a__number a__text a__made a__deep a__lines a_open a__opened a_stack a__top a_word a_said a__x a_worth a_mate a_wasSaid a__undone a__boughtNow a_wayBy a_wayThen a__walkMost a__walkGoing a__walkSet a_kept a__drawX a_images a_imageX a_isMade a_said_c h7 ((iv_c (by decide))) h_a__taped h_a__rules h_a__next h_a__text h_a__made h_a__lines h_a__opened h_a__top h_a__x h_a__undone) (cwV 2 hT (hz_gV q_1104 q_1105 q_1106 q_701 q_1107) rfl rfl rfl (by decide +kernel) ⟨(Nat.le_of_ble_eq_true rfl), (Nat.le_of_ble_eq_true rfl)⟩) ⟨hz_P.blind, va_recv hK hP (ci := 12) (q0 := 1) rfl rfl, hz_P.mk (hP.sub (ws' := [(a, .inr (12, [.ref a_tape, .int a__taped, .int a__rules, .ref a_sign, .ref a_length, .ref a_clause, .ref a_clauses, .ref a_read, .int a__next, .int a__wrong, .int a__number, .int a__text, .int a__made, .int a__deep, .int a__lines, .ref a_open, .int a__opened, .ref a_stack, .int a__top, .ref a_word, .ref a_said, .int a__x, .ref a_worth, .ref a_mate, .ref a_wasSaid, .int a__undone, .int a__boughtNow, .ref a_wayBy, .ref a_wayThen, .int a__walkMost, .int a__walkGoing, .int a__walkSet, .ref a_kept, .long a__drawX, .ref a_images, .ref a_imageX, .ref a_isMade])), (a_said, .inl (cs 0, 123, .inl a_said_c))]) [1,0] rfl) hE hS⟩ rfl rfl hl.1 rfl (lv_room (Nat.le_of_ble_eq_true rfl)) dX12_hasOf_18 ⟨(Nat.le_of_ble_eq_true rfl), (Nat.le_of_ble_eq_true rfl)⟩) hS (fun _ _ h => h.elim) (fun _ h => h.elim) (fun r11 u t H1 locs ht hvm hw hB hz1 hk1 hS => ?_)
        have hP := hz_keep hP hk1
        clear hk1 hB hz1
        generalize H1 = H at hP hS ⊢
        have x12 := hw
        have z3 : (3 : Int32).toInt = 3 := by decide
        refine lv_bipush (v := 100) hx hb dX12_hasOf_21 (by decide) ?_
        refine lv_iload_n hx hb dX12_hasOf_23 rfl (lv_at hl 3 rfl) ?_
        refine lv_iadd hx hb dX12_hasOf_24 ?_
        refine lv_topi (fun v13 ev13 => ?_)
        refine lv_icmp_ne (tgt := 34) hx hb dX12_hasOf_25 (by decide) (fun c14 => ?_) (fun c14 => ?_)
        · have t15 : r11.toInt ≠ v13.toInt := lin_ne c14 rfl rfl
          refine lv_iconst (v := 0) hx hb dX12_hasOf_34 (by decide) ?_
          refine lv_ior hx hb dX12_hasOf_35 ?_
          refine lv_topi (fun v16 ev16 => ?_)
          have hv16 : IV 0 4095 v16 := iv_or (k := 12) ev16 q4_10 (iv_c (a := 0) (b := 0) (by decide)) (by decide) (by decide) (by decide) (by decide) (by decide) (by decide)
          have ii17 : 0 ≤ v16.toInt ∧ v16.toInt ≤ 4095 := hv16
          refine lv_istore_n (lv' := [(2, .int v16), (3, .int k4_L_3), (0, .ref a), (1, .int p0)]) hx hb dX12_hasOf_36 rfl hl (by decide) rfl (fun ls hl => ?_)
          obtain ⟨v18, ev18⟩ : ∃ z : Int32, z = k4_L_3 + 1 := ⟨_, rfl⟩
          have hv18 : IV 1 12 v18 := iv_add ev18 h7 (iv_c (a := 1) (b := 1) (by decide)) (by decide) (by decide)
          have dv18 : v18.toInt = k4_L_3.toInt + 1 := iv_addE ev18 h7 (iv_c (a := 1) (b := 1) (by decide)) (by decide) (by decide) (by decide)
          refine lv_iinc (v := v18) (lv' := [(3, .int v18), (2, .int v16), (0, .ref a), (1, .int p0)]) hx hb dX12_hasOf_37 hl (k := 1) rfl (by rw [ev18]; rfl) (by decide) rfl (fun ls hl => ?_)
          refine lv_goto (tgt := 4) hx hb dX12_hasOf_40 (by decide) ?_
          exact ih4 v18 v16 (by have h9 := h7; unfold IV at h9; have := dv18; omega) hv16 (iv_w hv18 (by decide) (by decide)) H locs (hP.sub (ws' := [(a_said, .inl (cs 0, 123, .inl a_said_c)), (a, .inr (12, [.ref a_tape, .int a__taped, .int a__rules, .ref a_sign, .ref a_length, .ref a_clause, .ref a_clauses, .ref a_read, .int a__next, .int a__wrong, .int a__number, .int a__text, .int a__made, .int a__deep, .int a__lines, .ref a_open, .int a__opened, .ref a_stack, .int a__top, .ref a_word, .ref a_said, .int a__x, .ref a_worth, .ref a_mate, .ref a_wasSaid, .int a__undone, .int a__boughtNow, .ref a_wayBy, .ref a_wayThen, .int a__walkMost, .int a__walkGoing, .int a__walkSet, .ref a_kept, .long a__drawX, .ref a_images, .ref a_imageX, .ref a_isMade]))]) [0, 1] rfl) hS ls (lv_sub hl [0, 1, 2, 3] rfl)
        · have t19 : r11.toInt = v13.toInt := lin_eqN c14 rfl rfl
          refine lv_iconst (v := 1) hx hb dX12_hasOf_28 (by decide) ?_
          refine lv_iload_n hx hb dX12_hasOf_29 rfl (lv_at hl 0 rfl) ?_
          refine lv_ishl hx hb dX12_hasOf_30 ?_
          refine lv_topi (fun v20 ev20 => ?_)
          have hv20 : IV 1 2048 v20 := iv_shl1 ev20 h7 (by decide) (by decide) (by decide)
          have ii21 : 1 ≤ v20.toInt ∧ v20.toInt ≤ 2048 := hv20
          refine lv_goto (tgt := 35) hx hb dX12_hasOf_31 (by decide) ?_
          refine lv_ior hx hb dX12_hasOf_35 ?_
          refine lv_topi (fun v22 ev22 => ?_)
          have hv22 : IV 0 4095 v22 := iv_or (k := 12) ev22 q4_10 hv20 (by decide) (by decide) (by decide) (by decide) (by decide) (by decide)
          have ii23 : 0 ≤ v22.toInt ∧ v22.toInt ≤ 4095 := hv22
          refine lv_istore_n (lv' := [(2, .int v22), (3, .int k4_L_3), (0, .ref a), (1, .int p0)]) hx hb dX12_hasOf_36 rfl hl (by decide) rfl (fun ls hl => ?_)
          obtain ⟨v24, ev24⟩ : ∃ z : Int32, z = k4_L_3 + 1 := ⟨_, rfl⟩
          have hv24 : IV 1 12 v24 := iv_add ev24 h7 (iv_c (a := 1) (b := 1) (by decide)) (by decide) (by decide)
          have dv24 : v24.toInt = k4_L_3.toInt + 1 := iv_addE ev24 h7 (iv_c (a := 1) (b := 1) (by decide)) (by decide) (by decide) (by decide)
          refine lv_iinc (v := v24) (lv' := [(3, .int v24), (2, .int v22), (0, .ref a), (1, .int p0)]) hx hb dX12_hasOf_37 hl (k := 1) rfl (by rw [ev24]; rfl) (by decide) rfl (fun ls hl => ?_)
          refine lv_goto (tgt := 4) hx hb dX12_hasOf_40 (by decide) ?_
          exact ih4 v24 v22 (by have h9 := h7; unfold IV at h9; have := dv24; omega) hv22 (iv_w hv24 (by decide) (by decide)) H locs (hP.sub (ws' := [(a_said, .inl (cs 0, 123, .inl a_said_c)), (a, .inr (12, [.ref a_tape, .int a__taped, .int a__rules, .ref a_sign, .ref a_length, .ref a_clause, .ref a_clauses, .ref a_read, .int a__next, .int a__wrong, .int a__number, .int a__text, .int a__made, .int a__deep, .int a__lines, .ref a_open, .int a__opened, .ref a_stack, .int a__top, .ref a_word, .ref a_said, .int a__x, .ref a_worth, .ref a_mate, .ref a_wasSaid, .int a__undone, .int a__boughtNow, .ref a_wayBy, .ref a_wayThen, .int a__walkMost, .int a__walkGoing, .int a__walkSet, .ref a_kept, .long a__drawX, .ref a_images, .ref a_imageX, .ref a_isMade]))]) [0, 1] rfl) hS ls (lv_sub hl [0, 1, 2, 3] rfl)
  refine lv_iconst (v := 0) hx hb dX12_hasOf_0 (by decide) ?_
  refine lv_istore_n (lv' := [(2, .int 0), (0, .ref a), (1, .int p0)]) hx hb dX12_hasOf_1 rfl hl (by decide) rfl (fun ls hl => ?_)
  refine lv_iconst (v := 0) hx hb dX12_hasOf_2 (by decide) ?_
  refine lv_istore_n (lv' := [(3, .int 0), (2, .int 0), (0, .ref a), (1, .int p0)]) hx hb dX12_hasOf_3 rfl hl (by decide) rfl (fun ls hl => ?_)
  exact K4 _ ((0 : Int32)) ((0 : Int32)) (Nat.le_refl _) (iv_c (by decide)) (iv_c (by decide)) H locs (hP.sub (ws' := [(a_said, .inl (cs 0, 123, .inl a_said_c)), (a, .inr (12, [.ref a_tape, .int a__taped, .int a__rules, .ref a_sign, .ref a_length, .ref a_clause, .ref a_clauses, .ref a_read, .int a__next, .int a__wrong, .int a__number, .int a__text, .int a__made, .int a__deep, .int a__lines, .ref a_open, .int a__opened, .ref a_stack, .int a__top, .ref a_word, .ref a_said, .int a__x, .ref a_worth, .ref a_mate, .ref a_wasSaid, .int a__undone, .int a__boughtNow, .ref a_wayBy, .ref a_wayThen, .int a__walkMost, .int a__walkGoing, .int a__walkSet, .ref a_kept, .long a__drawX, .ref a_images, .ref a_imageX, .ref a_isMade]))]) [0, 1] rfl) hS ls (lv_sub hl [0, 1, 2, 3] rfl)
theorem dX12_atStall_0 : decode cX12_atStall 0 = .ok (.iconst 0, 1) := by decide +kernel
theorem dX12_atStall_1 : decode cX12_atStall 1 = .ok (.istore_n 2, 1) := by decide +kernel
theorem dX12_atStall_2 : decode cX12_atStall 2 = .ok (.iconst 0, 1) := by decide +kernel
theorem dX12_atStall_3 : decode cX12_atStall 3 = .ok (.istore_n 3, 1) := by decide +kernel
theorem dX12_atStall_4 : decode cX12_atStall 4 = .ok (.iload_n 3, 1) := by decide +kernel
theorem dX12_atStall_5 : decode cX12_atStall 5 = .ok (.aload_n 0, 1) := by decide +kernel
theorem dX12_atStall_6 : decode cX12_atStall 6 = .ok (.getfield 39, 3) := by decide +kernel
theorem dX12_atStall_9 : decode cX12_atStall 9 = .ok (.iconst 1, 1) := by decide +kernel
theorem dX12_atStall_10 : decode cX12_atStall 10 = .ok (.iaload, 1) := by decide +kernel
theorem dX12_atStall_11 : decode cX12_atStall 11 = .ok (.if_icmp .ge 29, 3) := by decide +kernel
theorem dX12_atStall_14 : decode cX12_atStall 14 = .ok (.iload_n 2, 1) := by decide +kernel
theorem dX12_atStall_15 : decode cX12_atStall 15 = .ok (.aload_n 0, 1) := by decide +kernel
theorem dX12_atStall_16 : decode cX12_atStall 16 = .ok (.iload_n 3, 1) := by decide +kernel
theorem dX12_atStall_17 : decode cX12_atStall 17 = .ok (.iconst 3, 1) := by decide +kernel
theorem dX12_atStall_18 : decode cX12_atStall 18 = .ok (.invokevirtual 301, 3) := by decide +kernel
theorem dX12_atStall_21 : decode cX12_atStall 21 = .ok (.iload_n 1, 1) := by decide +kernel
theorem dX12_atStall_22 : decode cX12_atStall 22 = .ok (.if_icmp .ne 9, 3) := by decide +kernel
theorem dX12_atStall_25 : decode cX12_atStall 25 = .ok (.iconst 1, 1) := by decide +kernel
theorem dX12_atStall_26 : decode cX12_atStall 26 = .ok (.iload_n 3, 1) := by decide +kernel
theorem dX12_atStall_27 : decode cX12_atStall 27 = .ok (.ishl, 1) := by decide +kernel
theorem dX12_atStall_28 : decode cX12_atStall 28 = .ok (.goto 4, 3) := by decide +kernel
theorem dX12_atStall_31 : decode cX12_atStall 31 = .ok (.iconst 0, 1) := by decide +kernel
theorem dX12_atStall_32 : decode cX12_atStall 32 = .ok (.ior, 1) := by decide +kernel
theorem dX12_atStall_33 : decode cX12_atStall 33 = .ok (.istore_n 2, 1) := by decide +kernel
theorem dX12_atStall_34 : decode cX12_atStall 34 = .ok (.iinc 3 1, 3) := by decide +kernel
theorem dX12_atStall_37 : decode cX12_atStall 37 = .ok (.goto (-33), 3) := by decide +kernel
theorem dX12_atStall_40 : decode cX12_atStall 40 = .ok (.iload_n 2, 1) := by decide +kernel
theorem dX12_atStall_41 : decode cX12_atStall 41 = .ok (.ireturn, 1) := by decide +kernel
set_option maxHeartbeats 4000000 in
set_option maxRecDepth 100000 in
theorem c_X12_atStall (l : Launch) (D : va_G) (cs : Nat → ClassId) (kK kV : Nat → Nat) (a : Nat) (p0 : Int32) (a_said : Nat) (a_said_c : Nat → Int32) (a_tape : Nat) (a__taped : Int32) (a__rules : Int32) (a_sign : Nat) (a_length : Nat) (a_clause : Nat) (a_clauses : Nat) (a_read : Nat) (a__next : Int32) (a__wrong : Int32) (a__number : Int32) (a__text : Int32) (a__made : Int32) (a__deep : Int32) (a__lines : Int32) (a_open : Nat) (a__opened : Int32) (a_stack : Nat) (a__top : Int32) (a_word : Nat) (a__x : Int32) (a_worth : Nat) (a_mate : Nat) (a_wasSaid : Nat) (a__undone : Int32) (a__boughtNow : Int32) (a_wayBy : Nat) (a_wayThen : Nat) (a__walkMost : Int32) (a__walkGoing : Int32) (a__walkSet : Int32) (a_kept : Nat) (a__drawX : Int64) (a_images : Nat) (a_imageX : Nat) (a_isMade : Nat) (h_a__taped : IV 0 400 a__taped) (h_a__rules : IV 0 6 a__rules) (h_a__next : IV 0 400 a__next) (h_a__text : IV 0 6 a__text) (h_a__made : IV 0 60 a__made) (h_a__lines : IV 0 40 a__lines) (h_a__opened : IV 0 400 a__opened) (h_a__top : IV 0 64 a__top) (h_a__x : IV 0 2147483647 a__x) (h_a__undone : IV 0 20 a__undone) (hf0 : BS a_said_c 200) : Met l yX12_atStall (hz_w yX12_atStall cX12_atStall 4 (some .int)) ({ frames := 1, cells := 0, slots := 0, locals := 22 }) (va_Pc [.ref a, .int p0] (hz_P D cs kK kV [(a_said, .inl (cs 0, 123, .inl a_said_c)), (a, .inr (12, [.ref a_tape, .int a__taped, .int a__rules, .ref a_sign, .ref a_length, .ref a_clause, .ref a_clauses, .ref a_read, .int a__next, .int a__wrong, .int a__number, .int a__text, .int a__made, .int a__deep, .int a__lines, .ref a_open, .int a__opened, .ref a_stack, .int a__top, .ref a_word, .ref a_said, .int a__x, .ref a_worth, .ref a_mate, .ref a_wasSaid, .int a__undone, .int a__boughtNow, .ref a_wayBy, .ref a_wayThen, .int a__walkMost, .int a__walkGoing, .int a__walkSet, .ref a_kept, .long a__drawX, .ref a_images, .ref a_imageX, .ref a_isMade]))])) (va_Qi (fun (r : Int32) (_ : Unit) => IV 0 4095 r) (fun _ t => True) (fun _ => False)) 0 0 (fun _ => False) := by
  refine Met.ofW (cc := cX12_atStall) (maxL := 4) (ret := (some .int)) (by decide) rfl ?_
  intro p e s m args below meth c s₁ B hml hv
  obtain ⟨rfl, hP, hE⟩ := hv
  have hx := B.exec
  have hb := B.bytes
  have hr := B.returns
  have hT : ∀ w ∈ TB, w.before _ s = true := fun w h => atoms_spec (ws := hz_w yX12_atStall cX12_atStall 4 (some .int)) B.pre w (List.mem_cons_of_mem _ h)
  have hown : s.vm.findClass RX12 = some m.cls := findClass_of_methodNamed B.named
  have hlocks := B.notSynchronized
  clear B
  have hS : va_S (fun _ => False) s.heap s.heap [] := va_S.rf
  have hK := hE.1
  have hl := lv_entry ([.ref a, .int p0]) (n := 4) (Nat.le_of_ble_eq_true rfl)
  rw [lg_entry_eq]
  generalize (lg_sl ([.ref a, .int p0]) ++ List.replicate (4 - (lg_sl ([.ref a, .int p0])).length) Slot.unset).toArray = ls at hl ⊢
  have hl : lv_has ls 4 [(0, .ref a), (1, .int p0)] := hl
  obtain ⟨H, eH⟩ : ∃ z, z = s.heap := ⟨_, rfl⟩
  have hP : va_P D classes [(a_said, .inl (cs 0, 123, .inl a_said_c)), (a, .inr (12, [.ref a_tape, .int a__taped, .int a__rules, .ref a_sign, .ref a_length, .ref a_clause, .ref a_clauses, .ref a_read, .int a__next, .int a__wrong, .int a__number, .int a__text, .int a__made, .int a__deep, .int a__lines, .ref a_open, .int a__opened, .ref a_stack, .int a__top, .ref a_word, .ref a_said, .int a__x, .ref a_worth, .ref a_mate, .ref a_wasSaid, .int a__undone, .int a__boughtNow, .ref a_wayBy, .ref a_wayThen, .int a__walkMost, .int a__walkGoing, .int a__walkSet, .ref a_kept, .long a__drawX, .ref a_images, .ref a_imageX, .ref a_isMade]))] H := by rw [eH]; exact hP
  have hS : va_S (fun _ => False) s.heap H [] := by rw [eH]; exact hS
  rw [← eH]
  clear eH
  obtain ⟨locs, el⟩ : ∃ z : List Loc, z = [] := ⟨_, rfl⟩
  rw [← el] at hS ⊢
  clear el
  have z0 : (0 : Int32).toInt = 0 := by decide
  have z1 : (1 : Int32).toInt = 1 := by decide
  have zm1 : (-1 : Int32).toInt = -1 := by decide
  have i_a__lines : 0 ≤ a__lines.toInt ∧ a__lines.toInt ≤ 40 := h_a__lines
  have i_a__made : 0 ≤ a__made.toInt ∧ a__made.toInt ≤ 60 := h_a__made
  have i_a__next : 0 ≤ a__next.toInt ∧ a__next.toInt ≤ 400 := h_a__next
  have i_a__opened : 0 ≤ a__opened.toInt ∧ a__opened.toInt ≤ 400 := h_a__opened
  have i_a__rules : 0 ≤ a__rules.toInt ∧ a__rules.toInt ≤ 6 := h_a__rules
  have i_a__taped : 0 ≤ a__taped.toInt ∧ a__taped.toInt ≤ 400 := h_a__taped
  have i_a__text : 0 ≤ a__text.toInt ∧ a__text.toInt ≤ 6 := h_a__text
  have i_a__top : 0 ≤ a__top.toInt ∧ a__top.toInt ≤ 64 := h_a__top
  have i_a__undone : 0 ≤ a__undone.toInt ∧ a__undone.toInt ≤ 20 := h_a__undone
  have i_a__x : 0 ≤ a__x.toInt ∧ a__x.toInt ≤ 2147483647 := h_a__x
  have K4 : ∀ (n : Nat) (k4_L_3 : Int32) (k4_L_2 : Int32), (12 - k4_L_3.toInt + 1).toNat ≤ n → IV 0 4095 k4_L_2 → IV 0 12 k4_L_3 → ∀ (H : Heap) (locs : List Loc), va_P D classes [(a_said, .inl (cs 0, 123, .inl a_said_c)), (a, .inr (12, [.ref a_tape, .int a__taped, .int a__rules, .ref a_sign, .ref a_length, .ref a_clause, .ref a_clauses, .ref a_read, .int a__next, .int a__wrong, .int a__number, .int a__text, .int a__made, .int a__deep, .int a__lines, .ref a_open, .int a__opened, .ref a_stack, .int a__top, .ref a_word, .ref a_said, .int a__x, .ref a_worth, .ref a_mate, .ref a_wasSaid, .int a__undone, .int a__boughtNow, .ref a_wayBy, .ref a_wayThen, .int a__walkMost, .int a__walkGoing, .int a__walkSet, .ref a_kept, .long a__drawX, .ref a_images, .ref a_imageX, .ref a_isMade]))] H → va_S (fun _ => False) s.heap H locs → ∀ ls : Array Slot, lv_has ls 4 [(3, .int k4_L_3), (2, .int k4_L_2), (0, .ref a), (1, .int p0)] → W p l e (headSpec (hz_w yX12_atStall cX12_atStall 4 (some .int)) ({ frames := 1, cells := 0, slots := 0, locals := 22 })).room s m [.ref a, .int p0].toArray below meth c H locs 0 0 (MQ below (va_Qi (fun (r : Int32) (_ : Unit) => IV 0 4095 r) (fun _ t => True) (fun _ => False)) [.ref a, .int p0].toArray s 0 0 (fun _ => False)) (F0 m 4 ls []) := by
    intro n
    induction n with
    | zero =>
      intro k4_L_3 k4_L_2 hn q4_10 q4_11 H locs hP hS ls hl
      exact absurd hn (by unfold IV at q4_11; omega)
    | succ n ih4 =>
      intro k4_L_3 k4_L_2 hn q4_10 q4_11 H locs hP hS ls hl
      have i_a__lines : 0 ≤ a__lines.toInt ∧ a__lines.toInt ≤ 40 := h_a__lines
      have i_a__made : 0 ≤ a__made.toInt ∧ a__made.toInt ≤ 60 := h_a__made
      have i_a__next : 0 ≤ a__next.toInt ∧ a__next.toInt ≤ 400 := h_a__next
      have i_a__opened : 0 ≤ a__opened.toInt ∧ a__opened.toInt ≤ 400 := h_a__opened
      have i_a__rules : 0 ≤ a__rules.toInt ∧ a__rules.toInt ≤ 6 := h_a__rules
      have i_a__taped : 0 ≤ a__taped.toInt ∧ a__taped.toInt ≤ 400 := h_a__taped
      have i_a__text : 0 ≤ a__text.toInt ∧ a__text.toInt ≤ 6 := h_a__text
      have i_a__top : 0 ≤ a__top.toInt ∧ a__top.toInt ≤ 64 := h_a__top
      have i_a__undone : 0 ≤ a__undone.toInt ∧ a__undone.toInt ≤ 20 := h_a__undone
      have i_a__x : 0 ≤ a__x.toInt ∧ a__x.toInt ≤ 2147483647 := h_a__x
      have i_k4_L_2 : 0 ≤ k4_L_2.toInt ∧ k4_L_2.toInt ≤ 4095 := q4_10
      have i_k4_L_3 : 0 ≤ k4_L_3.toInt ∧ k4_L_3.toInt ≤ 12 := q4_11
      refine lv_iload_n hx hb dX12_atStall_4 rfl (lv_at hl 0 rfl) ?_
      refine lv_aload_n hx hb dX12_atStall_5 rfl (lv_at hl 2 rfl) ?_
      refine va_get (D := D) (ci := 12) (v := .ref a_said) (C := RX12) (T := TX12) (N := 37) hx hb hT i_X12 hown hK hP 1 rfl rfl 20 (by decide) (hT _ q_185) (fun _ h9 => h9) rfl dX12_atStall_6 ?_
      refine lv_iconst (v := 1) hx hb dX12_atStall_9 (by decide) ?_
      refine va_iald hx hb hK hP 0 0 rfl rfl (iv_vc (by decide)) dX12_atStall_10 ?_
      refine lv_topi (fun v1 ev1 => ?_)
      have h2 : IV 0 12 v1 := (by rw [ev1]; exact bs_i1 hf0)
      have ii3 : 0 ≤ v1.toInt ∧ v1.toInt ≤ 12 := h2
      have lv1 : v1.toInt = (a_said_c 1).toInt := by rw [ev1]; rfl
      refine lv_icmp_ge (tgt := 40) hx hb dX12_atStall_11 (by decide) (fun c4 => ?_) (fun c4 => ?_)
      · have t5 : k4_L_3.toInt ≥ v1.toInt := lin_ge c4 rfl rfl
        refine lv_iload_n hx hb dX12_atStall_40 rfl (lv_at hl 1 rfl) ?_
        exact W.iret (v := k4_L_2) hx hb hr (fun t ht hW => ⟨⟨k4_L_2, (), rfl, q4_10, trivial⟩, hS.F ht⟩) hS.2.2 dX12_atStall_41
      · have t6 : k4_L_3.toInt < v1.toInt := lin_geN c4 rfl rfl
        have h7 : IV 0 11 k4_L_3 := iv_lt1 (Int32.not_le.mp c4) q4_11 h2 (by decide)
        have ii8 : 0 ≤ k4_L_3.toInt ∧ k4_L_3.toInt ≤ 11 := h7
        have h9 : IV 1 12 v1 := iv_lt2 (Int32.not_le.mp c4) q4_11 h2 (by decide)
        have ii10 : 1 ≤ v1.toInt ∧ v1.toInt ≤ 12 := h9
        refine lv_iload_n hx hb dX12_atStall_14 rfl (lv_at hl 1 rfl) ?_
        refine lv_aload_n hx hb dX12_atStall_15 rfl (lv_at hl 2 rfl) ?_
        refine lv_iload_n hx hb dX12_atStall_16 rfl (lv_at hl 0 rfl) ?_
        refine lv_iconst (v := 3) hx hb dX12_atStall_17 (by decide) ?_
        refine va_calli (va_runV (As := [.int k4_L_3, .int 3]) (rest := [.int k4_L_2]) ⟨hx, hb, hml, hown, hT⟩ (c_X12_halfOf l D cs kK kV a k4_L_3 3 a_tape a__taped a__rules a_sign a_length a_clause a_clauses a_read a__next a__wrong a__number a__text a__made a__deep a__lines a_open a__opened a_stack a__top a_word a_said a__x a_worth a_mate a_wasSaid a__undone a__boughtNow a_wayBy a_wayThen a__walkMost a__walkGoing a__walkSet a_kept a__drawX a_images a_imageX a_isMade a_said_c h7 ((iv_c (by decide))) h_a__taped h_a__rules h_a__next h_a__text h_a__made h_a__lines h_a__opened h_a__top h_a__x h_a__undone) (cwV 2 hT (hz_gV q_1104 q_1105 q_1106 q_701 q_1107) rfl rfl rfl (by decide +kernel) ⟨(Nat.le_of_ble_eq_true rfl), (Nat.le_of_ble_eq_true rfl)⟩) ⟨hz_P.blind, va_recv hK hP (ci := 12) (q0 := 1) rfl rfl, hz_P.mk (hP.sub (ws' := [(a, .inr (12, [.ref a_tape, .int a__taped, .int a__rules, .ref a_sign, .ref a_length, .ref a_clause, .ref a_clauses, .ref a_read, .int a__next, .int a__wrong, .int a__number, .int a__text, .int a__made, .int a__deep, .int a__lines, .ref a_open, .int a__opened, .ref a_stack, .int a__top, .ref a_word, .ref a_said, .int a__x, .ref a_worth, .ref a_mate, .ref a_wasSaid, .int a__undone, .int a__boughtNow, .ref a_wayBy, .ref a_wayThen, .int a__walkMost, .int a__walkGoing, .int a__walkSet, .ref a_kept, .long a__drawX, .ref a_images, .ref a_imageX, .ref a_isMade])), (a_said, .inl (cs 0, 123, .inl a_said_c))]) [1,0] rfl) hE hS⟩ rfl rfl hl.1 rfl (lv_room (Nat.le_of_ble_eq_true rfl)) dX12_atStall_18 ⟨(Nat.le_of_ble_eq_true rfl), (Nat.le_of_ble_eq_true rfl)⟩) hS (fun _ _ h => h.elim) (fun _ h => h.elim) (fun r11 u t H1 locs ht hvm hw hB hz1 hk1 hS => ?_)
        have hP := hz_keep hP hk1
        clear hk1 hB hz1
        generalize H1 = H at hP hS ⊢
        have x12 := hw
        have z3 : (3 : Int32).toInt = 3 := by decide
        refine lv_iload_n hx hb dX12_atStall_21 rfl (lv_at hl 3 rfl) ?_
        refine lv_icmp_ne (tgt := 31) hx hb dX12_atStall_22 (by decide) (fun c13 => ?_) (fun c13 => ?_)
        · have t14 : r11.toInt ≠ p0.toInt := lin_ne c13 rfl rfl
          refine lv_iconst (v := 0) hx hb dX12_atStall_31 (by decide) ?_
          refine lv_ior hx hb dX12_atStall_32 ?_
          refine lv_topi (fun v15 ev15 => ?_)
          have hv15 : IV 0 4095 v15 := iv_or (k := 12) ev15 q4_10 (iv_c (a := 0) (b := 0) (by decide)) (by decide) (by decide) (by decide) (by decide) (by decide) (by decide)
          have ii16 : 0 ≤ v15.toInt ∧ v15.toInt ≤ 4095 := hv15
          refine lv_istore_n (lv' := [(2, .int v15), (3, .int k4_L_3), (0, .ref a), (1, .int p0)]) hx hb dX12_atStall_33 rfl hl (by decide) rfl (fun ls hl => ?_)
          obtain ⟨v17, ev17⟩ : ∃ z : Int32, z = k4_L_3 + 1 := ⟨_, rfl⟩
          have hv17 : IV 1 12 v17 := iv_add ev17 h7 (iv_c (a := 1) (b := 1) (by decide)) (by decide) (by decide)
          have dv17 : v17.toInt = k4_L_3.toInt + 1 := iv_addE ev17 h7 (iv_c (a := 1) (b := 1) (by decide)) (by decide) (by decide) (by decide)
          refine lv_iinc (v := v17) (lv' := [(3, .int v17), (2, .int v15), (0, .ref a), (1, .int p0)]) hx hb dX12_atStall_34 hl (k := 1) rfl (by rw [ev17]; rfl) (by decide) rfl (fun ls hl => ?_)
          refine lv_goto (tgt := 4) hx hb dX12_atStall_37 (by decide) ?_
          exact ih4 v17 v15 (by have h9 := h7; unfold IV at h9; have := dv17; omega) hv15 (iv_w hv17 (by decide) (by decide)) H locs (hP.sub (ws' := [(a_said, .inl (cs 0, 123, .inl a_said_c)), (a, .inr (12, [.ref a_tape, .int a__taped, .int a__rules, .ref a_sign, .ref a_length, .ref a_clause, .ref a_clauses, .ref a_read, .int a__next, .int a__wrong, .int a__number, .int a__text, .int a__made, .int a__deep, .int a__lines, .ref a_open, .int a__opened, .ref a_stack, .int a__top, .ref a_word, .ref a_said, .int a__x, .ref a_worth, .ref a_mate, .ref a_wasSaid, .int a__undone, .int a__boughtNow, .ref a_wayBy, .ref a_wayThen, .int a__walkMost, .int a__walkGoing, .int a__walkSet, .ref a_kept, .long a__drawX, .ref a_images, .ref a_imageX, .ref a_isMade]))]) [0, 1] rfl) hS ls (lv_sub hl [0, 1, 2, 3] rfl)
        · have t18 : r11.toInt = p0.toInt := lin_eqN c13 rfl rfl
          refine lv_iconst (v := 1) hx hb dX12_atStall_25 (by decide) ?_
          refine lv_iload_n hx hb dX12_atStall_26 rfl (lv_at hl 0 rfl) ?_
          refine lv_ishl hx hb dX12_atStall_27 ?_
          refine lv_topi (fun v19 ev19 => ?_)
          have hv19 : IV 1 2048 v19 := iv_shl1 ev19 h7 (by decide) (by decide) (by decide)
          have ii20 : 1 ≤ v19.toInt ∧ v19.toInt ≤ 2048 := hv19
          refine lv_goto (tgt := 32) hx hb dX12_atStall_28 (by decide) ?_
          refine lv_ior hx hb dX12_atStall_32 ?_
          refine lv_topi (fun v21 ev21 => ?_)
          have hv21 : IV 0 4095 v21 := iv_or (k := 12) ev21 q4_10 hv19 (by decide) (by decide) (by decide) (by decide) (by decide) (by decide)
          have ii22 : 0 ≤ v21.toInt ∧ v21.toInt ≤ 4095 := hv21
          refine lv_istore_n (lv' := [(2, .int v21), (3, .int k4_L_3), (0, .ref a), (1, .int p0)]) hx hb dX12_atStall_33 rfl hl (by decide) rfl (fun ls hl => ?_)
          obtain ⟨v23, ev23⟩ : ∃ z : Int32, z = k4_L_3 + 1 := ⟨_, rfl⟩
          have hv23 : IV 1 12 v23 := iv_add ev23 h7 (iv_c (a := 1) (b := 1) (by decide)) (by decide) (by decide)
          have dv23 : v23.toInt = k4_L_3.toInt + 1 := iv_addE ev23 h7 (iv_c (a := 1) (b := 1) (by decide)) (by decide) (by decide) (by decide)
          refine lv_iinc (v := v23) (lv' := [(3, .int v23), (2, .int v21), (0, .ref a), (1, .int p0)]) hx hb dX12_atStall_34 hl (k := 1) rfl (by rw [ev23]; rfl) (by decide) rfl (fun ls hl => ?_)
          refine lv_goto (tgt := 4) hx hb dX12_atStall_37 (by decide) ?_
          exact ih4 v23 v21 (by have h9 := h7; unfold IV at h9; have := dv23; omega) hv21 (iv_w hv23 (by decide) (by decide)) H locs (hP.sub (ws' := [(a_said, .inl (cs 0, 123, .inl a_said_c)), (a, .inr (12, [.ref a_tape, .int a__taped, .int a__rules, .ref a_sign, .ref a_length, .ref a_clause, .ref a_clauses, .ref a_read, .int a__next, .int a__wrong, .int a__number, .int a__text, .int a__made, .int a__deep, .int a__lines, .ref a_open, .int a__opened, .ref a_stack, .int a__top, .ref a_word, .ref a_said, .int a__x, .ref a_worth, .ref a_mate, .ref a_wasSaid, .int a__undone, .int a__boughtNow, .ref a_wayBy, .ref a_wayThen, .int a__walkMost, .int a__walkGoing, .int a__walkSet, .ref a_kept, .long a__drawX, .ref a_images, .ref a_imageX, .ref a_isMade]))]) [0, 1] rfl) hS ls (lv_sub hl [0, 1, 2, 3] rfl)
  refine lv_iconst (v := 0) hx hb dX12_atStall_0 (by decide) ?_
  refine lv_istore_n (lv' := [(2, .int 0), (0, .ref a), (1, .int p0)]) hx hb dX12_atStall_1 rfl hl (by decide) rfl (fun ls hl => ?_)
  refine lv_iconst (v := 0) hx hb dX12_atStall_2 (by decide) ?_
  refine lv_istore_n (lv' := [(3, .int 0), (2, .int 0), (0, .ref a), (1, .int p0)]) hx hb dX12_atStall_3 rfl hl (by decide) rfl (fun ls hl => ?_)
  exact K4 _ ((0 : Int32)) ((0 : Int32)) (Nat.le_refl _) (iv_c (by decide)) (iv_c (by decide)) H locs (hP.sub (ws' := [(a_said, .inl (cs 0, 123, .inl a_said_c)), (a, .inr (12, [.ref a_tape, .int a__taped, .int a__rules, .ref a_sign, .ref a_length, .ref a_clause, .ref a_clauses, .ref a_read, .int a__next, .int a__wrong, .int a__number, .int a__text, .int a__made, .int a__deep, .int a__lines, .ref a_open, .int a__opened, .ref a_stack, .int a__top, .ref a_word, .ref a_said, .int a__x, .ref a_worth, .ref a_mate, .ref a_wasSaid, .int a__undone, .int a__boughtNow, .ref a_wayBy, .ref a_wayThen, .int a__walkMost, .int a__walkGoing, .int a__walkSet, .ref a_kept, .long a__drawX, .ref a_images, .ref a_imageX, .ref a_isMade]))]) [0, 1] rfl) hS ls (lv_sub hl [0, 1, 2, 3] rfl)
theorem dX12_atStalls_0 : decode cX12_atStalls 0 = .ok (.iconst 0, 1) := by decide +kernel
theorem dX12_atStalls_1 : decode cX12_atStalls 1 = .ok (.istore_n 1, 1) := by decide +kernel
theorem dX12_atStalls_2 : decode cX12_atStalls 2 = .ok (.iconst 0, 1) := by decide +kernel
theorem dX12_atStalls_3 : decode cX12_atStalls 3 = .ok (.istore_n 2, 1) := by decide +kernel
theorem dX12_atStalls_4 : decode cX12_atStalls 4 = .ok (.iload_n 2, 1) := by decide +kernel
theorem dX12_atStalls_5 : decode cX12_atStalls 5 = .ok (.aload_n 0, 1) := by decide +kernel
theorem dX12_atStalls_6 : decode cX12_atStalls 6 = .ok (.getfield 39, 3) := by decide +kernel
theorem dX12_atStalls_9 : decode cX12_atStalls 9 = .ok (.iconst 1, 1) := by decide +kernel
theorem dX12_atStalls_10 : decode cX12_atStalls 10 = .ok (.iaload, 1) := by decide +kernel
theorem dX12_atStalls_11 : decode cX12_atStalls 11 = .ok (.if_icmp .ge 30, 3) := by decide +kernel
theorem dX12_atStalls_14 : decode cX12_atStalls 14 = .ok (.iload_n 1, 1) := by decide +kernel
theorem dX12_atStalls_15 : decode cX12_atStalls 15 = .ok (.aload_n 0, 1) := by decide +kernel
theorem dX12_atStalls_16 : decode cX12_atStalls 16 = .ok (.iload_n 2, 1) := by decide +kernel
theorem dX12_atStalls_17 : decode cX12_atStalls 17 = .ok (.iconst 3, 1) := by decide +kernel
theorem dX12_atStalls_18 : decode cX12_atStalls 18 = .ok (.invokevirtual 301, 3) := by decide +kernel
theorem dX12_atStalls_21 : decode cX12_atStalls 21 = .ok (.bipush 100, 2) := by decide +kernel
theorem dX12_atStalls_23 : decode cX12_atStalls 23 = .ok (.if_icmp .ge 9, 3) := by decide +kernel
theorem dX12_atStalls_26 : decode cX12_atStalls 26 = .ok (.iconst 1, 1) := by decide +kernel
theorem dX12_atStalls_27 : decode cX12_atStalls 27 = .ok (.iload_n 2, 1) := by decide +kernel
theorem dX12_atStalls_28 : decode cX12_atStalls 28 = .ok (.ishl, 1) := by decide +kernel
theorem dX12_atStalls_29 : decode cX12_atStalls 29 = .ok (.goto 4, 3) := by decide +kernel
theorem dX12_atStalls_32 : decode cX12_atStalls 32 = .ok (.iconst 0, 1) := by decide +kernel
theorem dX12_atStalls_33 : decode cX12_atStalls 33 = .ok (.ior, 1) := by decide +kernel
theorem dX12_atStalls_34 : decode cX12_atStalls 34 = .ok (.istore_n 1, 1) := by decide +kernel
theorem dX12_atStalls_35 : decode cX12_atStalls 35 = .ok (.iinc 2 1, 3) := by decide +kernel
theorem dX12_atStalls_38 : decode cX12_atStalls 38 = .ok (.goto (-34), 3) := by decide +kernel
theorem dX12_atStalls_41 : decode cX12_atStalls 41 = .ok (.iload_n 1, 1) := by decide +kernel
theorem dX12_atStalls_42 : decode cX12_atStalls 42 = .ok (.ireturn, 1) := by decide +kernel
set_option maxHeartbeats 4000000 in
set_option maxRecDepth 100000 in
theorem c_X12_atStalls (l : Launch) (D : va_G) (cs : Nat → ClassId) (kK kV : Nat → Nat) (a : Nat) (a_said : Nat) (a_said_c : Nat → Int32) (a_tape : Nat) (a__taped : Int32) (a__rules : Int32) (a_sign : Nat) (a_length : Nat) (a_clause : Nat) (a_clauses : Nat) (a_read : Nat) (a__next : Int32) (a__wrong : Int32) (a__number : Int32) (a__text : Int32) (a__made : Int32) (a__deep : Int32) (a__lines : Int32) (a_open : Nat) (a__opened : Int32) (a_stack : Nat) (a__top : Int32) (a_word : Nat) (a__x : Int32) (a_worth : Nat) (a_mate : Nat) (a_wasSaid : Nat) (a__undone : Int32) (a__boughtNow : Int32) (a_wayBy : Nat) (a_wayThen : Nat) (a__walkMost : Int32) (a__walkGoing : Int32) (a__walkSet : Int32) (a_kept : Nat) (a__drawX : Int64) (a_images : Nat) (a_imageX : Nat) (a_isMade : Nat) (h_a__taped : IV 0 400 a__taped) (h_a__rules : IV 0 6 a__rules) (h_a__next : IV 0 400 a__next) (h_a__text : IV 0 6 a__text) (h_a__made : IV 0 60 a__made) (h_a__lines : IV 0 40 a__lines) (h_a__opened : IV 0 400 a__opened) (h_a__top : IV 0 64 a__top) (h_a__x : IV 0 2147483647 a__x) (h_a__undone : IV 0 20 a__undone) (hf0 : BS a_said_c 200) : Met l yX12_atStalls (hz_w yX12_atStalls cX12_atStalls 3 (some .int)) ({ frames := 1, cells := 0, slots := 0, locals := 22 }) (va_Pc [.ref a] (hz_P D cs kK kV [(a_said, .inl (cs 0, 123, .inl a_said_c)), (a, .inr (12, [.ref a_tape, .int a__taped, .int a__rules, .ref a_sign, .ref a_length, .ref a_clause, .ref a_clauses, .ref a_read, .int a__next, .int a__wrong, .int a__number, .int a__text, .int a__made, .int a__deep, .int a__lines, .ref a_open, .int a__opened, .ref a_stack, .int a__top, .ref a_word, .ref a_said, .int a__x, .ref a_worth, .ref a_mate, .ref a_wasSaid, .int a__undone, .int a__boughtNow, .ref a_wayBy, .ref a_wayThen, .int a__walkMost, .int a__walkGoing, .int a__walkSet, .ref a_kept, .long a__drawX, .ref a_images, .ref a_imageX, .ref a_isMade]))])) (va_Qi (fun (r : Int32) (_ : Unit) => IV 0 4095 r) (fun _ t => True) (fun _ => False)) 0 0 (fun _ => False) := by
  refine Met.ofW (cc := cX12_atStalls) (maxL := 3) (ret := (some .int)) (by decide) rfl ?_
  intro p e s m args below meth c s₁ B hml hv
  obtain ⟨rfl, hP, hE⟩ := hv
  have hx := B.exec
  have hb := B.bytes
  have hr := B.returns
  have hT : ∀ w ∈ TB, w.before _ s = true := fun w h => atoms_spec (ws := hz_w yX12_atStalls cX12_atStalls 3 (some .int)) B.pre w (List.mem_cons_of_mem _ h)
  have hown : s.vm.findClass RX12 = some m.cls := findClass_of_methodNamed B.named
  have hlocks := B.notSynchronized
  clear B
  have hS : va_S (fun _ => False) s.heap s.heap [] := va_S.rf
  have hK := hE.1
  have hl := lv_entry ([.ref a]) (n := 3) (Nat.le_of_ble_eq_true rfl)
  rw [lg_entry_eq]
  generalize (lg_sl ([.ref a]) ++ List.replicate (3 - (lg_sl ([.ref a])).length) Slot.unset).toArray = ls at hl ⊢
  have hl : lv_has ls 3 [(0, .ref a)] := hl
  obtain ⟨H, eH⟩ : ∃ z, z = s.heap := ⟨_, rfl⟩
  have hP : va_P D classes [(a_said, .inl (cs 0, 123, .inl a_said_c)), (a, .inr (12, [.ref a_tape, .int a__taped, .int a__rules, .ref a_sign, .ref a_length, .ref a_clause, .ref a_clauses, .ref a_read, .int a__next, .int a__wrong, .int a__number, .int a__text, .int a__made, .int a__deep, .int a__lines, .ref a_open, .int a__opened, .ref a_stack, .int a__top, .ref a_word, .ref a_said, .int a__x, .ref a_worth, .ref a_mate, .ref a_wasSaid, .int a__undone, .int a__boughtNow, .ref a_wayBy, .ref a_wayThen, .int a__walkMost, .int a__walkGoing, .int a__walkSet, .ref a_kept, .long a__drawX, .ref a_images, .ref a_imageX, .ref a_isMade]))] H := by rw [eH]; exact hP
  have hS : va_S (fun _ => False) s.heap H [] := by rw [eH]; exact hS
  rw [← eH]
  clear eH
  obtain ⟨locs, el⟩ : ∃ z : List Loc, z = [] := ⟨_, rfl⟩
  rw [← el] at hS ⊢
  clear el
  have z0 : (0 : Int32).toInt = 0 := by decide
  have z1 : (1 : Int32).toInt = 1 := by decide
  have zm1 : (-1 : Int32).toInt = -1 := by decide
  have i_a__lines : 0 ≤ a__lines.toInt ∧ a__lines.toInt ≤ 40 := h_a__lines
  have i_a__made : 0 ≤ a__made.toInt ∧ a__made.toInt ≤ 60 := h_a__made
  have i_a__next : 0 ≤ a__next.toInt ∧ a__next.toInt ≤ 400 := h_a__next
  have i_a__opened : 0 ≤ a__opened.toInt ∧ a__opened.toInt ≤ 400 := h_a__opened
  have i_a__rules : 0 ≤ a__rules.toInt ∧ a__rules.toInt ≤ 6 := h_a__rules
  have i_a__taped : 0 ≤ a__taped.toInt ∧ a__taped.toInt ≤ 400 := h_a__taped
  have i_a__text : 0 ≤ a__text.toInt ∧ a__text.toInt ≤ 6 := h_a__text
  have i_a__top : 0 ≤ a__top.toInt ∧ a__top.toInt ≤ 64 := h_a__top
  have i_a__undone : 0 ≤ a__undone.toInt ∧ a__undone.toInt ≤ 20 := h_a__undone
  have i_a__x : 0 ≤ a__x.toInt ∧ a__x.toInt ≤ 2147483647 := h_a__x
  have K4 : ∀ (n : Nat) (k4_L_2 : Int32) (k4_L_1 : Int32), (12 - k4_L_2.toInt + 1).toNat ≤ n → IV 0 4095 k4_L_1 → IV 0 12 k4_L_2 → ∀ (H : Heap) (locs : List Loc), va_P D classes [(a_said, .inl (cs 0, 123, .inl a_said_c)), (a, .inr (12, [.ref a_tape, .int a__taped, .int a__rules, .ref a_sign, .ref a_length, .ref a_clause, .ref a_clauses, .ref a_read, .int a__next, .int a__wrong, .int a__number, .int a__text, .int a__made, .int a__deep, .int a__lines, .ref a_open, .int a__opened, .ref a_stack, .int a__top, .ref a_word, .ref a_said, .int a__x, .ref a_worth, .ref a_mate, .ref a_wasSaid, .int a__undone, .int a__boughtNow, .ref a_wayBy, .ref a_wayThen, .int a__walkMost, .int a__walkGoing, .int a__walkSet, .ref a_kept, .long a__drawX, .ref a_images, .ref a_imageX, .ref a_isMade]))] H → va_S (fun _ => False) s.heap H locs → ∀ ls : Array Slot, lv_has ls 3 [(2, .int k4_L_2), (1, .int k4_L_1), (0, .ref a)] → W p l e (headSpec (hz_w yX12_atStalls cX12_atStalls 3 (some .int)) ({ frames := 1, cells := 0, slots := 0, locals := 22 })).room s m [.ref a].toArray below meth c H locs 0 0 (MQ below (va_Qi (fun (r : Int32) (_ : Unit) => IV 0 4095 r) (fun _ t => True) (fun _ => False)) [.ref a].toArray s 0 0 (fun _ => False)) (F0 m 4 ls []) := by
    intro n
    induction n with
    | zero =>
      intro k4_L_2 k4_L_1 hn q4_10 q4_11 H locs hP hS ls hl
      exact absurd hn (by unfold IV at q4_11; omega)
    | succ n ih4 =>
      intro k4_L_2 k4_L_1 hn q4_10 q4_11 H locs hP hS ls hl
      have i_a__lines : 0 ≤ a__lines.toInt ∧ a__lines.toInt ≤ 40 := h_a__lines
      have i_a__made : 0 ≤ a__made.toInt ∧ a__made.toInt ≤ 60 := h_a__made
      have i_a__next : 0 ≤ a__next.toInt ∧ a__next.toInt ≤ 400 := h_a__next
      have i_a__opened : 0 ≤ a__opened.toInt ∧ a__opened.toInt ≤ 400 := h_a__opened
      have i_a__rules : 0 ≤ a__rules.toInt ∧ a__rules.toInt ≤ 6 := h_a__rules
      have i_a__taped : 0 ≤ a__taped.toInt ∧ a__taped.toInt ≤ 400 := h_a__taped
      have i_a__text : 0 ≤ a__text.toInt ∧ a__text.toInt ≤ 6 := h_a__text
      have i_a__top : 0 ≤ a__top.toInt ∧ a__top.toInt ≤ 64 := h_a__top
      have i_a__undone : 0 ≤ a__undone.toInt ∧ a__undone.toInt ≤ 20 := h_a__undone
      have i_a__x : 0 ≤ a__x.toInt ∧ a__x.toInt ≤ 2147483647 := h_a__x
      have i_k4_L_1 : 0 ≤ k4_L_1.toInt ∧ k4_L_1.toInt ≤ 4095 := q4_10
      have i_k4_L_2 : 0 ≤ k4_L_2.toInt ∧ k4_L_2.toInt ≤ 12 := q4_11
      refine lv_iload_n hx hb dX12_atStalls_4 rfl (lv_at hl 0 rfl) ?_
      refine lv_aload_n hx hb dX12_atStalls_5 rfl (lv_at hl 2 rfl) ?_
      refine va_get (D := D) (ci := 12) (v := .ref a_said) (C := RX12) (T := TX12) (N := 37) hx hb hT i_X12 hown hK hP 1 rfl rfl 20 (by decide) (hT _ q_185) (fun _ h9 => h9) rfl dX12_atStalls_6 ?_
      refine lv_iconst (v := 1) hx hb dX12_atStalls_9 (by decide) ?_
      refine va_iald hx hb hK hP 0 0 rfl rfl (iv_vc (by decide)) dX12_atStalls_10 ?_
      refine lv_topi (fun v1 ev1 => ?_)
      have h2 : IV 0 12 v1 := (by rw [ev1]; exact bs_i1 hf0)
      have ii3 : 0 ≤ v1.toInt ∧ v1.toInt ≤ 12 := h2
      have lv1 : v1.toInt = (a_said_c 1).toInt := by rw [ev1]; rfl
      refine lv_icmp_ge (tgt := 41) hx hb dX12_atStalls_11 (by decide) (fun c4 => ?_) (fun c4 => ?_)
      · have t5 : k4_L_2.toInt ≥ v1.toInt := lin_ge c4 rfl rfl
        refine lv_iload_n hx hb dX12_atStalls_41 rfl (lv_at hl 1 rfl) ?_
        exact W.iret (v := k4_L_1) hx hb hr (fun t ht hW => ⟨⟨k4_L_1, (), rfl, q4_10, trivial⟩, hS.F ht⟩) hS.2.2 dX12_atStalls_42
      · have t6 : k4_L_2.toInt < v1.toInt := lin_geN c4 rfl rfl
        have h7 : IV 0 11 k4_L_2 := iv_lt1 (Int32.not_le.mp c4) q4_11 h2 (by decide)
        have ii8 : 0 ≤ k4_L_2.toInt ∧ k4_L_2.toInt ≤ 11 := h7
        have h9 : IV 1 12 v1 := iv_lt2 (Int32.not_le.mp c4) q4_11 h2 (by decide)
        have ii10 : 1 ≤ v1.toInt ∧ v1.toInt ≤ 12 := h9
        refine lv_iload_n hx hb dX12_atStalls_14 rfl (lv_at hl 1 rfl) ?_
        refine lv_aload_n hx hb dX12_atStalls_15 rfl (lv_at hl 2 rfl) ?_
        refine lv_iload_n hx hb dX12_atStalls_16 rfl (lv_at hl 0 rfl) ?_
        refine lv_iconst (v := 3) hx hb dX12_atStalls_17 (by decide) ?_
        refine va_calli (va_runV (As := [.int k4_L_2, .int 3]) (rest := [.int k4_L_1]) ⟨hx, hb, hml, hown, hT⟩ (c_X12_halfOf l D cs kK kV a k4_L_2 3 a_tape a__taped a__rules a_sign a_length a_clause a_clauses a_read a__next a__wrong a__number a__text a__made a__deep a__lines a_open a__opened a_stack a__top a_word a_said a__x a_worth a_mate a_wasSaid a__undone a__boughtNow a_wayBy a_wayThen a__walkMost a__walkGoing a__walkSet a_kept a__drawX a_images a_imageX a_isMade a_said_c h7 ((iv_c (by decide))) h_a__taped h_a__rules h_a__next h_a__text h_a__made h_a__lines h_a__opened h_a__top h_a__x h_a__undone) (cwV 2 hT (hz_gV q_1104 q_1105 q_1106 q_701 q_1107) rfl rfl rfl (by decide +kernel) ⟨(Nat.le_of_ble_eq_true rfl), (Nat.le_of_ble_eq_true rfl)⟩) ⟨hz_P.blind, va_recv hK hP (ci := 12) (q0 := 1) rfl rfl, hz_P.mk (hP.sub (ws' := [(a, .inr (12, [.ref a_tape, .int a__taped, .int a__rules, .ref a_sign, .ref a_length, .ref a_clause, .ref a_clauses, .ref a_read, .int a__next, .int a__wrong, .int a__number, .int a__text, .int a__made, .int a__deep, .int a__lines, .ref a_open, .int a__opened, .ref a_stack, .int a__top, .ref a_word, .ref a_said, .int a__x, .ref a_worth, .ref a_mate, .ref a_wasSaid, .int a__undone, .int a__boughtNow, .ref a_wayBy, .ref a_wayThen, .int a__walkMost, .int a__walkGoing, .int a__walkSet, .ref a_kept, .long a__drawX, .ref a_images, .ref a_imageX, .ref a_isMade])), (a_said, .inl (cs 0, 123, .inl a_said_c))]) [1,0] rfl) hE hS⟩ rfl rfl hl.1 rfl (lv_room (Nat.le_of_ble_eq_true rfl)) dX12_atStalls_18 ⟨(Nat.le_of_ble_eq_true rfl), (Nat.le_of_ble_eq_true rfl)⟩) hS (fun _ _ h => h.elim) (fun _ h => h.elim) (fun r11 u t H1 locs ht hvm hw hB hz1 hk1 hS => ?_)
        have hP := hz_keep hP hk1
        clear hk1 hB hz1
        generalize H1 = H at hP hS ⊢
        have x12 := hw
        have z3 : (3 : Int32).toInt = 3 := by decide
        refine lv_bipush (v := 100) hx hb dX12_atStalls_21 (by decide) ?_
        refine lv_icmp_ge (tgt := 32) hx hb dX12_atStalls_23 (by decide) (fun c13 => ?_) (fun c13 => ?_)
        · have t14 : r11.toInt ≥ 100 := lin_ge c13 rfl (by decide)
          have h15 : IV 100 2147483647 r11 := iv_le2 c13 (iv_c (a := 100) (b := 100) (by decide)) iv_top (by decide)
          have ii16 : 100 ≤ r11.toInt ∧ r11.toInt ≤ 2147483647 := h15
          refine lv_iconst (v := 0) hx hb dX12_atStalls_32 (by decide) ?_
          refine lv_ior hx hb dX12_atStalls_33 ?_
          refine lv_topi (fun v17 ev17 => ?_)
          have hv17 : IV 0 4095 v17 := iv_or (k := 12) ev17 q4_10 (iv_c (a := 0) (b := 0) (by decide)) (by decide) (by decide) (by decide) (by decide) (by decide) (by decide)
          have ii18 : 0 ≤ v17.toInt ∧ v17.toInt ≤ 4095 := hv17
          refine lv_istore_n (lv' := [(1, .int v17), (2, .int k4_L_2), (0, .ref a)]) hx hb dX12_atStalls_34 rfl hl (by decide) rfl (fun ls hl => ?_)
          obtain ⟨v19, ev19⟩ : ∃ z : Int32, z = k4_L_2 + 1 := ⟨_, rfl⟩
          have hv19 : IV 1 12 v19 := iv_add ev19 h7 (iv_c (a := 1) (b := 1) (by decide)) (by decide) (by decide)
          have dv19 : v19.toInt = k4_L_2.toInt + 1 := iv_addE ev19 h7 (iv_c (a := 1) (b := 1) (by decide)) (by decide) (by decide) (by decide)
          refine lv_iinc (v := v19) (lv' := [(2, .int v19), (1, .int v17), (0, .ref a)]) hx hb dX12_atStalls_35 hl (k := 1) rfl (by rw [ev19]; rfl) (by decide) rfl (fun ls hl => ?_)
          refine lv_goto (tgt := 4) hx hb dX12_atStalls_38 (by decide) ?_
          exact ih4 v19 v17 (by have h9 := h7; unfold IV at h9; have := dv19; omega) hv17 (iv_w hv19 (by decide) (by decide)) H locs (hP.sub (ws' := [(a_said, .inl (cs 0, 123, .inl a_said_c)), (a, .inr (12, [.ref a_tape, .int a__taped, .int a__rules, .ref a_sign, .ref a_length, .ref a_clause, .ref a_clauses, .ref a_read, .int a__next, .int a__wrong, .int a__number, .int a__text, .int a__made, .int a__deep, .int a__lines, .ref a_open, .int a__opened, .ref a_stack, .int a__top, .ref a_word, .ref a_said, .int a__x, .ref a_worth, .ref a_mate, .ref a_wasSaid, .int a__undone, .int a__boughtNow, .ref a_wayBy, .ref a_wayThen, .int a__walkMost, .int a__walkGoing, .int a__walkSet, .ref a_kept, .long a__drawX, .ref a_images, .ref a_imageX, .ref a_isMade]))]) [0, 1] rfl) hS ls (lv_sub hl [0, 1, 2] rfl)
        · have t20 : r11.toInt < 100 := lin_geN c13 rfl (by decide)
          have h21 : IV (-2147483648) 99 r11 := iv_lt1 (Int32.not_le.mp c13) iv_top (iv_c (a := 100) (b := 100) (by decide)) (by decide)
          have ii22 : (-2147483648) ≤ r11.toInt ∧ r11.toInt ≤ 99 := h21
          refine lv_iconst (v := 1) hx hb dX12_atStalls_26 (by decide) ?_
          refine lv_iload_n hx hb dX12_atStalls_27 rfl (lv_at hl 0 rfl) ?_
          refine lv_ishl hx hb dX12_atStalls_28 ?_
          refine lv_topi (fun v23 ev23 => ?_)
          have hv23 : IV 1 2048 v23 := iv_shl1 ev23 h7 (by decide) (by decide) (by decide)
          have ii24 : 1 ≤ v23.toInt ∧ v23.toInt ≤ 2048 := hv23
          refine lv_goto (tgt := 33) hx hb dX12_atStalls_29 (by decide) ?_
          refine lv_ior hx hb dX12_atStalls_33 ?_
          refine lv_topi (fun v25 ev25 => ?_)
          have hv25 : IV 0 4095 v25 := iv_or (k := 12) ev25 q4_10 hv23 (by decide) (by decide) (by decide) (by decide) (by decide) (by decide)
          have ii26 : 0 ≤ v25.toInt ∧ v25.toInt ≤ 4095 := hv25
          refine lv_istore_n (lv' := [(1, .int v25), (2, .int k4_L_2), (0, .ref a)]) hx hb dX12_atStalls_34 rfl hl (by decide) rfl (fun ls hl => ?_)
          obtain ⟨v27, ev27⟩ : ∃ z : Int32, z = k4_L_2 + 1 := ⟨_, rfl⟩
          have hv27 : IV 1 12 v27 := iv_add ev27 h7 (iv_c (a := 1) (b := 1) (by decide)) (by decide) (by decide)
          have dv27 : v27.toInt = k4_L_2.toInt + 1 := iv_addE ev27 h7 (iv_c (a := 1) (b := 1) (by decide)) (by decide) (by decide) (by decide)
          refine lv_iinc (v := v27) (lv' := [(2, .int v27), (1, .int v25), (0, .ref a)]) hx hb dX12_atStalls_35 hl (k := 1) rfl (by rw [ev27]; rfl) (by decide) rfl (fun ls hl => ?_)
          refine lv_goto (tgt := 4) hx hb dX12_atStalls_38 (by decide) ?_
          exact ih4 v27 v25 (by have h9 := h7; unfold IV at h9; have := dv27; omega) hv25 (iv_w hv27 (by decide) (by decide)) H locs (hP.sub (ws' := [(a_said, .inl (cs 0, 123, .inl a_said_c)), (a, .inr (12, [.ref a_tape, .int a__taped, .int a__rules, .ref a_sign, .ref a_length, .ref a_clause, .ref a_clauses, .ref a_read, .int a__next, .int a__wrong, .int a__number, .int a__text, .int a__made, .int a__deep, .int a__lines, .ref a_open, .int a__opened, .ref a_stack, .int a__top, .ref a_word, .ref a_said, .int a__x, .ref a_worth, .ref a_mate, .ref a_wasSaid, .int a__undone, .int a__boughtNow, .ref a_wayBy, .ref a_wayThen, .int a__walkMost, .int a__walkGoing, .int a__walkSet, .ref a_kept, .long a__drawX, .ref a_images, .ref a_imageX, .ref a_isMade]))]) [0, 1] rfl) hS ls (lv_sub hl [0, 1, 2] rfl)
  refine lv_iconst (v := 0) hx hb dX12_atStalls_0 (by decide) ?_
  refine lv_istore_n (lv' := [(1, .int 0), (0, .ref a)]) hx hb dX12_atStalls_1 rfl hl (by decide) rfl (fun ls hl => ?_)
  refine lv_iconst (v := 0) hx hb dX12_atStalls_2 (by decide) ?_
  refine lv_istore_n (lv' := [(2, .int 0), (1, .int 0), (0, .ref a)]) hx hb dX12_atStalls_3 rfl hl (by decide) rfl (fun ls hl => ?_)
  exact K4 _ ((0 : Int32)) ((0 : Int32)) (Nat.le_refl _) (iv_c (by decide)) (iv_c (by decide)) H locs (hP.sub (ws' := [(a_said, .inl (cs 0, 123, .inl a_said_c)), (a, .inr (12, [.ref a_tape, .int a__taped, .int a__rules, .ref a_sign, .ref a_length, .ref a_clause, .ref a_clauses, .ref a_read, .int a__next, .int a__wrong, .int a__number, .int a__text, .int a__made, .int a__deep, .int a__lines, .ref a_open, .int a__opened, .ref a_stack, .int a__top, .ref a_word, .ref a_said, .int a__x, .ref a_worth, .ref a_mate, .ref a_wasSaid, .int a__undone, .int a__boughtNow, .ref a_wayBy, .ref a_wayThen, .int a__walkMost, .int a__walkGoing, .int a__walkSet, .ref a_kept, .long a__drawX, .ref a_images, .ref a_imageX, .ref a_isMade]))]) [0, 1] rfl) hS ls (lv_sub hl [0, 1, 2] rfl)
theorem dX12_sawOf_0 : decode cX12_sawOf 0 = .ok (.iconst 0, 1) := by decide +kernel
theorem dX12_sawOf_1 : decode cX12_sawOf 1 = .ok (.istore_n 2, 1) := by decide +kernel
theorem dX12_sawOf_2 : decode cX12_sawOf 2 = .ok (.iconst 0, 1) := by decide +kernel
theorem dX12_sawOf_3 : decode cX12_sawOf 3 = .ok (.istore_n 3, 1) := by decide +kernel
theorem dX12_sawOf_4 : decode cX12_sawOf 4 = .ok (.iload_n 3, 1) := by decide +kernel
theorem dX12_sawOf_5 : decode cX12_sawOf 5 = .ok (.aload_n 0, 1) := by decide +kernel
theorem dX12_sawOf_6 : decode cX12_sawOf 6 = .ok (.getfield 39, 3) := by decide +kernel
theorem dX12_sawOf_9 : decode cX12_sawOf 9 = .ok (.iconst 2, 1) := by decide +kernel
theorem dX12_sawOf_10 : decode cX12_sawOf 10 = .ok (.iaload, 1) := by decide +kernel
theorem dX12_sawOf_11 : decode cX12_sawOf 11 = .ok (.if_icmp .ge 35, 3) := by decide +kernel
theorem dX12_sawOf_14 : decode cX12_sawOf 14 = .ok (.iload_n 2, 1) := by decide +kernel
theorem dX12_sawOf_15 : decode cX12_sawOf 15 = .ok (.aload_n 0, 1) := by decide +kernel
theorem dX12_sawOf_16 : decode cX12_sawOf 16 = .ok (.iload_n 1, 1) := by decide +kernel
theorem dX12_sawOf_17 : decode cX12_sawOf 17 = .ok (.iconst 3, 1) := by decide +kernel
theorem dX12_sawOf_18 : decode cX12_sawOf 18 = .ok (.invokevirtual 314, 3) := by decide +kernel
theorem dX12_sawOf_21 : decode cX12_sawOf 21 = .ok (.iload_n 3, 1) := by decide +kernel
theorem dX12_sawOf_22 : decode cX12_sawOf 22 = .ok (.invokestatic 215, 3) := by decide +kernel
theorem dX12_sawOf_25 : decode cX12_sawOf 25 = .ok (.ifCond .eq 12, 3) := by decide +kernel
theorem dX12_sawOf_28 : decode cX12_sawOf 28 = .ok (.aload_n 0, 1) := by decide +kernel
theorem dX12_sawOf_29 : decode cX12_sawOf 29 = .ok (.iload_n 3, 1) := by decide +kernel
theorem dX12_sawOf_30 : decode cX12_sawOf 30 = .ok (.iconst 2, 1) := by decide +kernel
theorem dX12_sawOf_31 : decode cX12_sawOf 31 = .ok (.invokevirtual 314, 3) := by decide +kernel
theorem dX12_sawOf_34 : decode cX12_sawOf 34 = .ok (.goto 4, 3) := by decide +kernel
theorem dX12_sawOf_37 : decode cX12_sawOf 37 = .ok (.iconst 0, 1) := by decide +kernel
theorem dX12_sawOf_38 : decode cX12_sawOf 38 = .ok (.ior, 1) := by decide +kernel
theorem dX12_sawOf_39 : decode cX12_sawOf 39 = .ok (.istore_n 2, 1) := by decide +kernel
theorem dX12_sawOf_40 : decode cX12_sawOf 40 = .ok (.iinc 3 1, 3) := by decide +kernel
theorem dX12_sawOf_43 : decode cX12_sawOf 43 = .ok (.goto (-39), 3) := by decide +kernel
theorem dX12_sawOf_46 : decode cX12_sawOf 46 = .ok (.iload_n 2, 1) := by decide +kernel
theorem dX12_sawOf_47 : decode cX12_sawOf 47 = .ok (.ireturn, 1) := by decide +kernel
set_option maxHeartbeats 4000000 in
set_option maxRecDepth 100000 in
theorem c_X12_sawOf (l : Launch) (D : va_G) (cs : Nat → ClassId) (kK kV : Nat → Nat) (a : Nat) (p0 : Int32) (a_said : Nat) (a_said_c : Nat → Int32) (a_tape : Nat) (a__taped : Int32) (a__rules : Int32) (a_sign : Nat) (a_length : Nat) (a_clause : Nat) (a_clauses : Nat) (a_read : Nat) (a__next : Int32) (a__wrong : Int32) (a__number : Int32) (a__text : Int32) (a__made : Int32) (a__deep : Int32) (a__lines : Int32) (a_open : Nat) (a__opened : Int32) (a_stack : Nat) (a__top : Int32) (a_word : Nat) (a__x : Int32) (a_worth : Nat) (a_mate : Nat) (a_wasSaid : Nat) (a__undone : Int32) (a__boughtNow : Int32) (a_wayBy : Nat) (a_wayThen : Nat) (a__walkMost : Int32) (a__walkGoing : Int32) (a__walkSet : Int32) (a_kept : Nat) (a__drawX : Int64) (a_images : Nat) (a_imageX : Nat) (a_isMade : Nat) (h_p0 : IV 0 3 p0) (h_a__taped : IV 0 400 a__taped) (h_a__rules : IV 0 6 a__rules) (h_a__next : IV 0 400 a__next) (h_a__text : IV 0 6 a__text) (h_a__made : IV 0 60 a__made) (h_a__lines : IV 0 40 a__lines) (h_a__opened : IV 0 400 a__opened) (h_a__top : IV 0 64 a__top) (h_a__x : IV 0 2147483647 a__x) (h_a__undone : IV 0 20 a__undone) (hf0 : BS a_said_c 200) : Met l yX12_sawOf (hz_w yX12_sawOf cX12_sawOf 4 (some .int)) ({ frames := 1, cells := 0, slots := 0, locals := 22 }) (va_Pc [.ref a, .int p0] (hz_P D cs kK kV [(a_said, .inl (cs 0, 123, .inl a_said_c)), (a, .inr (12, [.ref a_tape, .int a__taped, .int a__rules, .ref a_sign, .ref a_length, .ref a_clause, .ref a_clauses, .ref a_read, .int a__next, .int a__wrong, .int a__number, .int a__text, .int a__made, .int a__deep, .int a__lines, .ref a_open, .int a__opened, .ref a_stack, .int a__top, .ref a_word, .ref a_said, .int a__x, .ref a_worth, .ref a_mate, .ref a_wasSaid, .int a__undone, .int a__boughtNow, .ref a_wayBy, .ref a_wayThen, .int a__walkMost, .int a__walkGoing, .int a__walkSet, .ref a_kept, .long a__drawX, .ref a_images, .ref a_imageX, .ref a_isMade]))])) (va_Qi (fun (r : Int32) (_ : Unit) => True) (fun _ t => True) (fun _ => False)) 0 0 (fun _ => False) := by
  refine Met.ofW (cc := cX12_sawOf) (maxL := 4) (ret := (some .int)) (by decide) rfl ?_
  intro p e s m args below meth c s₁ B hml hv
  obtain ⟨rfl, hP, hE⟩ := hv
  have hx := B.exec
  have hb := B.bytes
  have hr := B.returns
  have hT : ∀ w ∈ TB, w.before _ s = true := fun w h => atoms_spec (ws := hz_w yX12_sawOf cX12_sawOf 4 (some .int)) B.pre w (List.mem_cons_of_mem _ h)
  have hown : s.vm.findClass RX12 = some m.cls := findClass_of_methodNamed B.named
  have hlocks := B.notSynchronized
  clear B
  have hS : va_S (fun _ => False) s.heap s.heap [] := va_S.rf
  have hK := hE.1
  have hl := lv_entry ([.ref a, .int p0]) (n := 4) (Nat.le_of_ble_eq_true rfl)
  rw [lg_entry_eq]
  generalize (lg_sl ([.ref a, .int p0]) ++ List.replicate (4 - (lg_sl ([.ref a, .int p0])).length) Slot.unset).toArray = ls at hl ⊢
  have hl : lv_has ls 4 [(0, .ref a), (1, .int p0)] := hl
  obtain ⟨H, eH⟩ : ∃ z, z = s.heap := ⟨_, rfl⟩
  have hP : va_P D classes [(a_said, .inl (cs 0, 123, .inl a_said_c)), (a, .inr (12, [.ref a_tape, .int a__taped, .int a__rules, .ref a_sign, .ref a_length, .ref a_clause, .ref a_clauses, .ref a_read, .int a__next, .int a__wrong, .int a__number, .int a__text, .int a__made, .int a__deep, .int a__lines, .ref a_open, .int a__opened, .ref a_stack, .int a__top, .ref a_word, .ref a_said, .int a__x, .ref a_worth, .ref a_mate, .ref a_wasSaid, .int a__undone, .int a__boughtNow, .ref a_wayBy, .ref a_wayThen, .int a__walkMost, .int a__walkGoing, .int a__walkSet, .ref a_kept, .long a__drawX, .ref a_images, .ref a_imageX, .ref a_isMade]))] H := by rw [eH]; exact hP
  have hS : va_S (fun _ => False) s.heap H [] := by rw [eH]; exact hS
  rw [← eH]
  clear eH
  obtain ⟨locs, el⟩ : ∃ z : List Loc, z = [] := ⟨_, rfl⟩
  rw [← el] at hS ⊢
  clear el
  have z0 : (0 : Int32).toInt = 0 := by decide
  have z1 : (1 : Int32).toInt = 1 := by decide
  have zm1 : (-1 : Int32).toInt = -1 := by decide
  have i_a__lines : 0 ≤ a__lines.toInt ∧ a__lines.toInt ≤ 40 := h_a__lines
  have i_a__made : 0 ≤ a__made.toInt ∧ a__made.toInt ≤ 60 := h_a__made
  have i_a__next : 0 ≤ a__next.toInt ∧ a__next.toInt ≤ 400 := h_a__next
  have i_a__opened : 0 ≤ a__opened.toInt ∧ a__opened.toInt ≤ 400 := h_a__opened
  have i_a__rules : 0 ≤ a__rules.toInt ∧ a__rules.toInt ≤ 6 := h_a__rules
  have i_a__taped : 0 ≤ a__taped.toInt ∧ a__taped.toInt ≤ 400 := h_a__taped
  have i_a__text : 0 ≤ a__text.toInt ∧ a__text.toInt ≤ 6 := h_a__text
  have i_a__top : 0 ≤ a__top.toInt ∧ a__top.toInt ≤ 64 := h_a__top
  have i_a__undone : 0 ≤ a__undone.toInt ∧ a__undone.toInt ≤ 20 := h_a__undone
  have i_a__x : 0 ≤ a__x.toInt ∧ a__x.toInt ≤ 2147483647 := h_a__x
  have i_p0 : 0 ≤ p0.toInt ∧ p0.toInt ≤ 3 := h_p0
  have K4 : ∀ (n : Nat) (k4_L_3 : Int32) (k4_L_2 : Int32), (4 - k4_L_3.toInt + 1).toNat ≤ n → IV 0 4 k4_L_3 → ∀ (H : Heap) (locs : List Loc), va_P D classes [(a_said, .inl (cs 0, 123, .inl a_said_c)), (a, .inr (12, [.ref a_tape, .int a__taped, .int a__rules, .ref a_sign, .ref a_length, .ref a_clause, .ref a_clauses, .ref a_read, .int a__next, .int a__wrong, .int a__number, .int a__text, .int a__made, .int a__deep, .int a__lines, .ref a_open, .int a__opened, .ref a_stack, .int a__top, .ref a_word, .ref a_said, .int a__x, .ref a_worth, .ref a_mate, .ref a_wasSaid, .int a__undone, .int a__boughtNow, .ref a_wayBy, .ref a_wayThen, .int a__walkMost, .int a__walkGoing, .int a__walkSet, .ref a_kept, .long a__drawX, .ref a_images, .ref a_imageX, .ref a_isMade]))] H → va_S (fun _ => False) s.heap H locs → ∀ ls : Array Slot, lv_has ls 4 [(3, .int k4_L_3), (2, .int k4_L_2), (0, .ref a), (1, .int p0)] → W p l e (headSpec (hz_w yX12_sawOf cX12_sawOf 4 (some .int)) ({ frames := 1, cells := 0, slots := 0, locals := 22 })).room s m [.ref a, .int p0].toArray below meth c H locs 0 0 (MQ below (va_Qi (fun (r : Int32) (_ : Unit) => True) (fun _ t => True) (fun _ => False)) [.ref a, .int p0].toArray s 0 0 (fun _ => False)) (F0 m 4 ls []) := by
    intro n
    induction n with
    | zero =>
      intro k4_L_3 k4_L_2 hn q4_10 H locs hP hS ls hl
      exact absurd hn (by unfold IV at q4_10; omega)
    | succ n ih4 =>
      intro k4_L_3 k4_L_2 hn q4_10 H locs hP hS ls hl
      have i_a__lines : 0 ≤ a__lines.toInt ∧ a__lines.toInt ≤ 40 := h_a__lines
      have i_a__made : 0 ≤ a__made.toInt ∧ a__made.toInt ≤ 60 := h_a__made
      have i_a__next : 0 ≤ a__next.toInt ∧ a__next.toInt ≤ 400 := h_a__next
      have i_a__opened : 0 ≤ a__opened.toInt ∧ a__opened.toInt ≤ 400 := h_a__opened
      have i_a__rules : 0 ≤ a__rules.toInt ∧ a__rules.toInt ≤ 6 := h_a__rules
      have i_a__taped : 0 ≤ a__taped.toInt ∧ a__taped.toInt ≤ 400 := h_a__taped
      have i_a__text : 0 ≤ a__text.toInt ∧ a__text.toInt ≤ 6 := h_a__text
      have i_a__top : 0 ≤ a__top.toInt ∧ a__top.toInt ≤ 64 := h_a__top
      have i_a__undone : 0 ≤ a__undone.toInt ∧ a__undone.toInt ≤ 20 := h_a__undone
      have i_a__x : 0 ≤ a__x.toInt ∧ a__x.toInt ≤ 2147483647 := h_a__x
      have i_k4_L_3 : 0 ≤ k4_L_3.toInt ∧ k4_L_3.toInt ≤ 4 := q4_10
      have i_p0 : 0 ≤ p0.toInt ∧ p0.toInt ≤ 3 := h_p0
      refine lv_iload_n hx hb dX12_sawOf_4 rfl (lv_at hl 0 rfl) ?_
      refine lv_aload_n hx hb dX12_sawOf_5 rfl (lv_at hl 2 rfl) ?_
      refine va_get (D := D) (ci := 12) (v := .ref a_said) (C := RX12) (T := TX12) (N := 37) hx hb hT i_X12 hown hK hP 1 rfl rfl 20 (by decide) (hT _ q_185) (fun _ h9 => h9) rfl dX12_sawOf_6 ?_
      refine lv_iconst (v := 2) hx hb dX12_sawOf_9 (by decide) ?_
      refine va_iald hx hb hK hP 0 0 rfl rfl (iv_vc (by decide)) dX12_sawOf_10 ?_
      refine lv_topi (fun v1 ev1 => ?_)
      have h2 : IV 0 4 v1 := (by rw [ev1]; exact bs_i2 hf0)
      have ii3 : 0 ≤ v1.toInt ∧ v1.toInt ≤ 4 := h2
      have lv1 : v1.toInt = (a_said_c 2).toInt := by rw [ev1]; rfl
      refine lv_icmp_ge (tgt := 46) hx hb dX12_sawOf_11 (by decide) (fun c4 => ?_) (fun c4 => ?_)
      · have t5 : k4_L_3.toInt ≥ v1.toInt := lin_ge c4 rfl rfl
        refine lv_iload_n hx hb dX12_sawOf_46 rfl (lv_at hl 1 rfl) ?_
        exact W.iret (v := k4_L_2) hx hb hr (fun t ht hW => ⟨⟨k4_L_2, (), rfl, trivial, trivial⟩, hS.F ht⟩) hS.2.2 dX12_sawOf_47
      · have t6 : k4_L_3.toInt < v1.toInt := lin_geN c4 rfl rfl
        have h7 : IV 0 3 k4_L_3 := iv_lt1 (Int32.not_le.mp c4) q4_10 h2 (by decide)
        have ii8 : 0 ≤ k4_L_3.toInt ∧ k4_L_3.toInt ≤ 3 := h7
        have h9 : IV 1 4 v1 := iv_lt2 (Int32.not_le.mp c4) q4_10 h2 (by decide)
        have ii10 : 1 ≤ v1.toInt ∧ v1.toInt ≤ 4 := h9
        refine lv_iload_n hx hb dX12_sawOf_14 rfl (lv_at hl 1 rfl) ?_
        refine lv_aload_n hx hb dX12_sawOf_15 rfl (lv_at hl 2 rfl) ?_
        refine lv_iload_n hx hb dX12_sawOf_16 rfl (lv_at hl 3 rfl) ?_
        refine lv_iconst (v := 3) hx hb dX12_sawOf_17 (by decide) ?_
        refine va_calli (va_runV (As := [.int p0, .int 3]) (rest := [.int k4_L_2]) ⟨hx, hb, hml, hown, hT⟩ (c_X12_buyerOf l D cs kK kV a p0 3 a_said a_said_c a_tape a__taped a__rules a_sign a_length a_clause a_clauses a_read a__next a__wrong a__number a__text a__made a__deep a__lines a_open a__opened a_stack a__top a_word a__x a_worth a_mate a_wasSaid a__undone a__boughtNow a_wayBy a_wayThen a__walkMost a__walkGoing a__walkSet a_kept a__drawX a_images a_imageX a_isMade h_p0 ((iv_c (by decide))) h_a__taped h_a__rules h_a__next h_a__text h_a__made h_a__lines h_a__opened h_a__top h_a__x h_a__undone hf0) (cwV 2 hT (hz_gV q_1120 q_1121 q_1122 q_701 q_1123) rfl rfl rfl (by decide +kernel) ⟨(Nat.le_of_ble_eq_true rfl), (Nat.le_of_ble_eq_true rfl)⟩) ⟨hz_P.blind, va_recv hK hP (ci := 12) (q0 := 1) rfl rfl, hz_P.mk (hP.sub (ws' := [(a_said, .inl (cs 0, 123, .inl a_said_c)), (a, .inr (12, [.ref a_tape, .int a__taped, .int a__rules, .ref a_sign, .ref a_length, .ref a_clause, .ref a_clauses, .ref a_read, .int a__next, .int a__wrong, .int a__number, .int a__text, .int a__made, .int a__deep, .int a__lines, .ref a_open, .int a__opened, .ref a_stack, .int a__top, .ref a_word, .ref a_said, .int a__x, .ref a_worth, .ref a_mate, .ref a_wasSaid, .int a__undone, .int a__boughtNow, .ref a_wayBy, .ref a_wayThen, .int a__walkMost, .int a__walkGoing, .int a__walkSet, .ref a_kept, .long a__drawX, .ref a_images, .ref a_imageX, .ref a_isMade]))]) [0,1] rfl) hE hS⟩ rfl rfl hl.1 rfl (lv_room (Nat.le_of_ble_eq_true rfl)) dX12_sawOf_18 ⟨(Nat.le_of_ble_eq_true rfl), (Nat.le_of_ble_eq_true rfl)⟩) hS (fun _ _ h => h.elim) (fun _ h => h.elim) (fun r11 u t H1 locs ht hvm hw hB hz1 hk1 hS => ?_)
        have hP := hz_keep hP hk1
        clear hk1 hB hz1
        generalize H1 = H at hP hS ⊢
        rcases hw with ⟨x12, x13⟩
        have z3 : (3 : Int32).toInt = 3 := by decide
        refine lv_iload_n hx hb dX12_sawOf_21 rfl (lv_at hl 0 rfl) ?_
        refine va_calli (va_runS (As := [.int r11, .int k4_L_3]) (rest := [.int k4_L_2]) ⟨hx, hb, hml, hown, hT⟩ (c_X12_isOf l D cs kK kV r11 k4_L_3) (va_cwS 2 hT (hz_gS q_1034 q_1035 q_701 q_1036) rfl rfl rfl (by decide +kernel) ⟨(Nat.le_of_ble_eq_true rfl), (Nat.le_of_ble_eq_true rfl)⟩) ⟨hz_P.blind, hz_P.mk (hP.sub (ws' := []) [] rfl) hE hS⟩ rfl rfl hl.1 rfl (lv_room (Nat.le_of_ble_eq_true rfl)) dX12_sawOf_22 ⟨(Nat.le_of_ble_eq_true rfl), (Nat.le_of_ble_eq_true rfl)⟩) hS (fun _ _ h => h.elim) (fun _ h => h.elim) (fun r14 u t H1 locs ht hvm hw hB hz1 hk1 hS => ?_)
        have hP := hz_keep hP hk1
        clear hk1 hB hz1
        generalize H1 = H at hP hS ⊢
        rcases hw with ⟨rfl, x15⟩ | ⟨rfl, x16⟩
        · refine lv_if_eq (tgt := 37) hx hb dX12_sawOf_25 (by decide) (fun _ => ?_) (fun z => absurd (by decide) z)
          refine lv_iconst (v := 0) hx hb dX12_sawOf_37 (by decide) ?_
          refine lv_ior hx hb dX12_sawOf_38 ?_
          refine lv_topi (fun v17 ev17 => ?_)
          refine lv_istore_n (lv' := [(2, .int v17), (3, .int k4_L_3), (0, .ref a), (1, .int p0)]) hx hb dX12_sawOf_39 rfl hl (by decide) rfl (fun ls hl => ?_)
          obtain ⟨v18, ev18⟩ : ∃ z : Int32, z = k4_L_3 + 1 := ⟨_, rfl⟩
          have hv18 : IV 1 4 v18 := iv_add ev18 h7 (iv_c (a := 1) (b := 1) (by decide)) (by decide) (by decide)
          have dv18 : v18.toInt = k4_L_3.toInt + 1 := iv_addE ev18 h7 (iv_c (a := 1) (b := 1) (by decide)) (by decide) (by decide) (by decide)
          refine lv_iinc (v := v18) (lv' := [(3, .int v18), (2, .int v17), (0, .ref a), (1, .int p0)]) hx hb dX12_sawOf_40 hl (k := 1) rfl (by rw [ev18]; rfl) (by decide) rfl (fun ls hl => ?_)
          refine lv_goto (tgt := 4) hx hb dX12_sawOf_43 (by decide) ?_
          exact ih4 v18 v17 (by have h9 := h7; unfold IV at h9; have := dv18; omega) (iv_w hv18 (by decide) (by decide)) H locs (hP.sub (ws' := [(a_said, .inl (cs 0, 123, .inl a_said_c)), (a, .inr (12, [.ref a_tape, .int a__taped, .int a__rules, .ref a_sign, .ref a_length, .ref a_clause, .ref a_clauses, .ref a_read, .int a__next, .int a__wrong, .int a__number, .int a__text, .int a__made, .int a__deep, .int a__lines, .ref a_open, .int a__opened, .ref a_stack, .int a__top, .ref a_word, .ref a_said, .int a__x, .ref a_worth, .ref a_mate, .ref a_wasSaid, .int a__undone, .int a__boughtNow, .ref a_wayBy, .ref a_wayThen, .int a__walkMost, .int a__walkGoing, .int a__walkSet, .ref a_kept, .long a__drawX, .ref a_images, .ref a_imageX, .ref a_isMade]))]) [0, 1] rfl) hS ls (lv_sub hl [0, 1, 2, 3] rfl)
        · refine lv_if_eq (tgt := 37) hx hb dX12_sawOf_25 (by decide) (fun z => absurd z (by decide)) (fun _ => ?_)
          refine lv_aload_n hx hb dX12_sawOf_28 rfl (lv_at hl 2 rfl) ?_
          refine lv_iload_n hx hb dX12_sawOf_29 rfl (lv_at hl 0 rfl) ?_
          refine lv_iconst (v := 2) hx hb dX12_sawOf_30 (by decide) ?_
          refine va_calli (va_runV (As := [.int k4_L_3, .int 2]) (rest := [.int k4_L_2]) ⟨hx, hb, hml, hown, hT⟩ (c_X12_buyerOf l D cs kK kV a k4_L_3 2 a_said a_said_c a_tape a__taped a__rules a_sign a_length a_clause a_clauses a_read a__next a__wrong a__number a__text a__made a__deep a__lines a_open a__opened a_stack a__top a_word a__x a_worth a_mate a_wasSaid a__undone a__boughtNow a_wayBy a_wayThen a__walkMost a__walkGoing a__walkSet a_kept a__drawX a_images a_imageX a_isMade h7 ((iv_c (by decide))) h_a__taped h_a__rules h_a__next h_a__text h_a__made h_a__lines h_a__opened h_a__top h_a__x h_a__undone hf0) (cwV 2 hT (hz_gV q_1120 q_1121 q_1122 q_701 q_1123) rfl rfl rfl (by decide +kernel) ⟨(Nat.le_of_ble_eq_true rfl), (Nat.le_of_ble_eq_true rfl)⟩) ⟨hz_P.blind, va_recv hK hP (ci := 12) (q0 := 1) rfl rfl, hz_P.mk (hP.sub (ws' := [(a_said, .inl (cs 0, 123, .inl a_said_c)), (a, .inr (12, [.ref a_tape, .int a__taped, .int a__rules, .ref a_sign, .ref a_length, .ref a_clause, .ref a_clauses, .ref a_read, .int a__next, .int a__wrong, .int a__number, .int a__text, .int a__made, .int a__deep, .int a__lines, .ref a_open, .int a__opened, .ref a_stack, .int a__top, .ref a_word, .ref a_said, .int a__x, .ref a_worth, .ref a_mate, .ref a_wasSaid, .int a__undone, .int a__boughtNow, .ref a_wayBy, .ref a_wayThen, .int a__walkMost, .int a__walkGoing, .int a__walkSet, .ref a_kept, .long a__drawX, .ref a_images, .ref a_imageX, .ref a_isMade]))]) [0,1] rfl) hE hS⟩ rfl rfl hl.1 rfl (lv_room (Nat.le_of_ble_eq_true rfl)) dX12_sawOf_31 ⟨(Nat.le_of_ble_eq_true rfl), (Nat.le_of_ble_eq_true rfl)⟩) hS (fun _ _ h => h.elim) (fun _ h => h.elim) (fun r19 u t H1 locs ht hvm hw hB hz1 hk1 hS => ?_)
          have hP := hz_keep hP hk1
          clear hk1 hB hz1
          generalize H1 = H at hP hS ⊢
          rcases hw with ⟨x20, x21⟩
          have z2 : (2 : Int32).toInt = 2 := by decide
          refine lv_goto (tgt := 38) hx hb dX12_sawOf_34 (by decide) ?_
          refine lv_ior hx hb dX12_sawOf_38 ?_
          refine lv_topi (fun v22 ev22 => ?_)
          refine lv_istore_n (lv' := [(2, .int v22), (3, .int k4_L_3), (0, .ref a), (1, .int p0)]) hx hb dX12_sawOf_39 rfl hl (by decide) rfl (fun ls hl => ?_)
          obtain ⟨v23, ev23⟩ : ∃ z : Int32, z = k4_L_3 + 1 := ⟨_, rfl⟩
          have hv23 : IV 1 4 v23 := iv_add ev23 h7 (iv_c (a := 1) (b := 1) (by decide)) (by decide) (by decide)
          have dv23 : v23.toInt = k4_L_3.toInt + 1 := iv_addE ev23 h7 (iv_c (a := 1) (b := 1) (by decide)) (by decide) (by decide) (by decide)
          refine lv_iinc (v := v23) (lv' := [(3, .int v23), (2, .int v22), (0, .ref a), (1, .int p0)]) hx hb dX12_sawOf_40 hl (k := 1) rfl (by rw [ev23]; rfl) (by decide) rfl (fun ls hl => ?_)
          refine lv_goto (tgt := 4) hx hb dX12_sawOf_43 (by decide) ?_
          exact ih4 v23 v22 (by have h9 := h7; unfold IV at h9; have := dv23; omega) (iv_w hv23 (by decide) (by decide)) H locs (hP.sub (ws' := [(a_said, .inl (cs 0, 123, .inl a_said_c)), (a, .inr (12, [.ref a_tape, .int a__taped, .int a__rules, .ref a_sign, .ref a_length, .ref a_clause, .ref a_clauses, .ref a_read, .int a__next, .int a__wrong, .int a__number, .int a__text, .int a__made, .int a__deep, .int a__lines, .ref a_open, .int a__opened, .ref a_stack, .int a__top, .ref a_word, .ref a_said, .int a__x, .ref a_worth, .ref a_mate, .ref a_wasSaid, .int a__undone, .int a__boughtNow, .ref a_wayBy, .ref a_wayThen, .int a__walkMost, .int a__walkGoing, .int a__walkSet, .ref a_kept, .long a__drawX, .ref a_images, .ref a_imageX, .ref a_isMade]))]) [0, 1] rfl) hS ls (lv_sub hl [0, 1, 2, 3] rfl)
  refine lv_iconst (v := 0) hx hb dX12_sawOf_0 (by decide) ?_
  refine lv_istore_n (lv' := [(2, .int 0), (0, .ref a), (1, .int p0)]) hx hb dX12_sawOf_1 rfl hl (by decide) rfl (fun ls hl => ?_)
  refine lv_iconst (v := 0) hx hb dX12_sawOf_2 (by decide) ?_
  refine lv_istore_n (lv' := [(3, .int 0), (2, .int 0), (0, .ref a), (1, .int p0)]) hx hb dX12_sawOf_3 rfl hl (by decide) rfl (fun ls hl => ?_)
  exact K4 _ ((0 : Int32)) ((0 : Int32)) (Nat.le_refl _) (iv_c (by decide)) H locs (hP.sub (ws' := [(a_said, .inl (cs 0, 123, .inl a_said_c)), (a, .inr (12, [.ref a_tape, .int a__taped, .int a__rules, .ref a_sign, .ref a_length, .ref a_clause, .ref a_clauses, .ref a_read, .int a__next, .int a__wrong, .int a__number, .int a__text, .int a__made, .int a__deep, .int a__lines, .ref a_open, .int a__opened, .ref a_stack, .int a__top, .ref a_word, .ref a_said, .int a__x, .ref a_worth, .ref a_mate, .ref a_wasSaid, .int a__undone, .int a__boughtNow, .ref a_wayBy, .ref a_wayThen, .int a__walkMost, .int a__walkGoing, .int a__walkSet, .ref a_kept, .long a__drawX, .ref a_images, .ref a_imageX, .ref a_isMade]))]) [0, 1] rfl) hS ls (lv_sub hl [0, 1, 2, 3] rfl)
theorem dX12_allSee_0 : decode cX12_allSee 0 = .ok (.iconst 0, 1) := by decide +kernel
theorem dX12_allSee_1 : decode cX12_allSee 1 = .ok (.istore_n 1, 1) := by decide +kernel
theorem dX12_allSee_2 : decode cX12_allSee 2 = .ok (.iload_n 1, 1) := by decide +kernel
theorem dX12_allSee_3 : decode cX12_allSee 3 = .ok (.aload_n 0, 1) := by decide +kernel
theorem dX12_allSee_4 : decode cX12_allSee 4 = .ok (.getfield 39, 3) := by decide +kernel
theorem dX12_allSee_7 : decode cX12_allSee 7 = .ok (.iconst 2, 1) := by decide +kernel
theorem dX12_allSee_8 : decode cX12_allSee 8 = .ok (.iaload, 1) := by decide +kernel
theorem dX12_allSee_9 : decode cX12_allSee 9 = .ok (.if_icmp .ge 45, 3) := by decide +kernel
theorem dX12_allSee_12 : decode cX12_allSee 12 = .ok (.aload_n 0, 1) := by decide +kernel
theorem dX12_allSee_13 : decode cX12_allSee 13 = .ok (.getfield 39, 3) := by decide +kernel
theorem dX12_allSee_16 : decode cX12_allSee 16 = .ok (.bipush 70, 2) := by decide +kernel
theorem dX12_allSee_18 : decode cX12_allSee 18 = .ok (.iconst 4, 1) := by decide +kernel
theorem dX12_allSee_19 : decode cX12_allSee 19 = .ok (.iload_n 1, 1) := by decide +kernel
theorem dX12_allSee_20 : decode cX12_allSee 20 = .ok (.imul, 1) := by decide +kernel
theorem dX12_allSee_21 : decode cX12_allSee 21 = .ok (.iadd, 1) := by decide +kernel
theorem dX12_allSee_22 : decode cX12_allSee 22 = .ok (.iconst 2, 1) := by decide +kernel
theorem dX12_allSee_23 : decode cX12_allSee 23 = .ok (.iadd, 1) := by decide +kernel
theorem dX12_allSee_24 : decode cX12_allSee 24 = .ok (.dup2, 1) := by decide +kernel
theorem dX12_allSee_25 : decode cX12_allSee 25 = .ok (.iaload, 1) := by decide +kernel
theorem dX12_allSee_26 : decode cX12_allSee 26 = .ok (.aload_n 0, 1) := by decide +kernel
theorem dX12_allSee_27 : decode cX12_allSee 27 = .ok (.aload_n 0, 1) := by decide +kernel
theorem dX12_allSee_28 : decode cX12_allSee 28 = .ok (.aload_n 0, 1) := by decide +kernel
theorem dX12_allSee_29 : decode cX12_allSee 29 = .ok (.iload_n 1, 1) := by decide +kernel
theorem dX12_allSee_30 : decode cX12_allSee 30 = .ok (.iconst 1, 1) := by decide +kernel
theorem dX12_allSee_31 : decode cX12_allSee 31 = .ok (.invokevirtual 314, 3) := by decide +kernel
theorem dX12_allSee_34 : decode cX12_allSee 34 = .ok (.aload_n 0, 1) := by decide +kernel
theorem dX12_allSee_35 : decode cX12_allSee 35 = .ok (.getfield 39, 3) := by decide +kernel
theorem dX12_allSee_38 : decode cX12_allSee 38 = .ok (.iconst 3, 1) := by decide +kernel
theorem dX12_allSee_39 : decode cX12_allSee 39 = .ok (.iaload, 1) := by decide +kernel
theorem dX12_allSee_40 : decode cX12_allSee 40 = .ok (.invokevirtual 317, 3) := by decide +kernel
theorem dX12_allSee_43 : decode cX12_allSee 43 = .ok (.invokevirtual 320, 3) := by decide +kernel
theorem dX12_allSee_46 : decode cX12_allSee 46 = .ok (.ior, 1) := by decide +kernel
theorem dX12_allSee_47 : decode cX12_allSee 47 = .ok (.iastore, 1) := by decide +kernel
theorem dX12_allSee_48 : decode cX12_allSee 48 = .ok (.iinc 1 1, 3) := by decide +kernel
theorem dX12_allSee_51 : decode cX12_allSee 51 = .ok (.goto (-49), 3) := by decide +kernel
theorem dX12_allSee_54 : decode cX12_allSee 54 = .ok (.return_, 1) := by decide +kernel
set_option maxHeartbeats 4000000 in
set_option maxRecDepth 100000 in
theorem c_X12_allSee (l : Launch) (D : va_G) (cs : Nat → ClassId) (kK kV : Nat → Nat) (a : Nat) (a_said : Nat) (a_said_c : Nat → Int32) (a_tape : Nat) (a__taped : Int32) (a__rules : Int32) (a_sign : Nat) (a_length : Nat) (a_clause : Nat) (a_clauses : Nat) (a_read : Nat) (a__next : Int32) (a__wrong : Int32) (a__number : Int32) (a__text : Int32) (a__made : Int32) (a__deep : Int32) (a__lines : Int32) (a_open : Nat) (a__opened : Int32) (a_stack : Nat) (a__top : Int32) (a_word : Nat) (a__x : Int32) (a_worth : Nat) (a_mate : Nat) (a_wasSaid : Nat) (a__undone : Int32) (a__boughtNow : Int32) (a_wayBy : Nat) (a_wayThen : Nat) (a__walkMost : Int32) (a__walkGoing : Int32) (a__walkSet : Int32) (a_kept : Nat) (a__drawX : Int64) (a_images : Nat) (a_imageX : Nat) (a_isMade : Nat) (h_a__taped : IV 0 400 a__taped) (h_a__rules : IV 0 6 a__rules) (h_a__next : IV 0 400 a__next) (h_a__text : IV 0 6 a__text) (h_a__made : IV 0 60 a__made) (h_a__lines : IV 0 40 a__lines) (h_a__opened : IV 0 400 a__opened) (h_a__top : IV 0 64 a__top) (h_a__x : IV 0 2147483647 a__x) (h_a__undone : IV 0 20 a__undone) (hf0 : BS a_said_c 200) (hf1 : TR a_said_c) (sz : Nat) : Met l yX12_allSee (hz_w yX12_allSee cX12_allSee 2 none) ({ frames := 2, cells := 0, slots := 0, locals := 45 }) (va_Pc [.ref a] (hz_C D cs kK kV sz [(a_said, .inl (cs 0, 123, .inl a_said_c)), (a, .inr (12, [.ref a_tape, .int a__taped, .int a__rules, .ref a_sign, .ref a_length, .ref a_clause, .ref a_clauses, .ref a_read, .int a__next, .int a__wrong, .int a__number, .int a__text, .int a__made, .int a__deep, .int a__lines, .ref a_open, .int a__opened, .ref a_stack, .int a__top, .ref a_word, .ref a_said, .int a__x, .ref a_worth, .ref a_mate, .ref a_wasSaid, .int a__undone, .int a__boughtNow, .ref a_wayBy, .ref a_wayThen, .int a__walkMost, .int a__walkGoing, .int a__walkSet, .ref a_kept, .long a__drawX, .ref a_images, .ref a_imageX, .ref a_isMade]))])) (va_Qv (fun (u : (Nat → Int32) × (Nat → Nat → Int32)) => ((BS (u.2 0) 200) ∧ (TR (u.2 0)) ∧ (((u.2 0) 3).toInt = (a_said_c 3).toInt))) (fun u t => va_P D classes [(a_said, .inl (cs 0, 123, .inl (u.2 0))), (a, .inr (12, [.ref a_tape, .int a__taped, .int a__rules, .ref a_sign, .ref a_length, .ref a_clause, .ref a_clauses, .ref a_read, .int a__next, .int a__wrong, .int a__number, .int a__text, .int a__made, .int a__deep, .int a__lines, .ref a_open, .int a__opened, .ref a_stack, .int a__top, .ref a_word, .ref a_said, .int a__x, .ref a_worth, .ref a_mate, .ref a_wasSaid, .int a__undone, .int a__boughtNow, .ref a_wayBy, .ref a_wayThen, .int a__walkMost, .int a__walkGoing, .int a__walkSet, .ref a_kept, .long a__drawX, .ref a_images, .ref a_imageX, .ref a_isMade]))] t.heap ∧ va_D (va_A [(a_said, .inl (cs 0, 123, .inl a_said_c)), (a, .inr (12, [.ref a_tape, .int a__taped, .int a__rules, .ref a_sign, .ref a_length, .ref a_clause, .ref a_clauses, .ref a_read, .int a__next, .int a__wrong, .int a__number, .int a__text, .int a__made, .int a__deep, .int a__lines, .ref a_open, .int a__opened, .ref a_stack, .int a__top, .ref a_word, .ref a_said, .int a__x, .ref a_worth, .ref a_mate, .ref a_wasSaid, .int a__undone, .int a__boughtNow, .ref a_wayBy, .ref a_wayThen, .int a__walkMost, .int a__walkGoing, .int a__walkSet, .ref a_kept, .long a__drawX, .ref a_images, .ref a_imageX, .ref a_isMade]))] sz) [(a_said, .inl (cs 0, 123, .inl (u.2 0))), (a, .inr (12, [.ref a_tape, .int a__taped, .int a__rules, .ref a_sign, .ref a_length, .ref a_clause, .ref a_clauses, .ref a_read, .int a__next, .int a__wrong, .int a__number, .int a__text, .int a__made, .int a__deep, .int a__lines, .ref a_open, .int a__opened, .ref a_stack, .int a__top, .ref a_word, .ref a_said, .int a__x, .ref a_worth, .ref a_mate, .ref a_wasSaid, .int a__undone, .int a__boughtNow, .ref a_wayBy, .ref a_wayThen, .int a__walkMost, .int a__walkGoing, .int a__walkSet, .ref a_kept, .long a__drawX, .ref a_images, .ref a_imageX, .ref a_isMade]))]) (va_A [(a_said, .inl (cs 0, 123, .inl a_said_c)), (a, .inr (12, [.ref a_tape, .int a__taped, .int a__rules, .ref a_sign, .ref a_length, .ref a_clause, .ref a_clauses, .ref a_read, .int a__next, .int a__wrong, .int a__number, .int a__text, .int a__made, .int a__deep, .int a__lines, .ref a_open, .int a__opened, .ref a_stack, .int a__top, .ref a_word, .ref a_said, .int a__x, .ref a_worth, .ref a_mate, .ref a_wasSaid, .int a__undone, .int a__boughtNow, .ref a_wayBy, .ref a_wayThen, .int a__walkMost, .int a__walkGoing, .int a__walkSet, .ref a_kept, .long a__drawX, .ref a_images, .ref a_imageX, .ref a_isMade]))] sz)) 0 0 (va_A [(a_said, .inl (cs 0, 123, .inl a_said_c)), (a, .inr (12, [.ref a_tape, .int a__taped, .int a__rules, .ref a_sign, .ref a_length, .ref a_clause, .ref a_clauses, .ref a_read, .int a__next, .int a__wrong, .int a__number, .int a__text, .int a__made, .int a__deep, .int a__lines, .ref a_open, .int a__opened, .ref a_stack, .int a__top, .ref a_word, .ref a_said, .int a__x, .ref a_worth, .ref a_mate, .ref a_wasSaid, .int a__undone, .int a__boughtNow, .ref a_wayBy, .ref a_wayThen, .int a__walkMost, .int a__walkGoing, .int a__walkSet, .ref a_kept, .long a__drawX, .ref a_images, .ref a_imageX, .ref a_isMade]))] sz) := by
  refine Met.ofW (cc := cX12_allSee) (maxL := 2) (ret := none) (by decide) rfl ?_
  intro p e s m args below meth c s₁ B hml hv
  obtain ⟨rfl, hsz, hP, hD0, hE⟩ := hv
  have hx := B.exec
  have hb := B.bytes
  have hr := B.returns
  have hT : ∀ w ∈ TB, w.before _ s = true := fun w h => atoms_spec (ws := hz_w yX12_allSee cX12_allSee 2 none) B.pre w (List.mem_cons_of_mem _ h)
  have hown : s.vm.findClass RX12 = some m.cls := findClass_of_methodNamed B.named
  have hlocks := B.notSynchronized
  clear B
  subst hsz
  have hD := hD0.self (sz := s.heap.size)
  generalize hAe : va_A [(a_said, .inl (cs 0, 123, .inl a_said_c)), (a, .inr (12, [.ref a_tape, .int a__taped, .int a__rules, .ref a_sign, .ref a_length, .ref a_clause, .ref a_clauses, .ref a_read, .int a__next, .int a__wrong, .int a__number, .int a__text, .int a__made, .int a__deep, .int a__lines, .ref a_open, .int a__opened, .ref a_stack, .int a__top, .ref a_word, .ref a_said, .int a__x, .ref a_worth, .ref a_mate, .ref a_wasSaid, .int a__undone, .int a__boughtNow, .ref a_wayBy, .ref a_wayThen, .int a__walkMost, .int a__walkGoing, .int a__walkSet, .ref a_kept, .long a__drawX, .ref a_images, .ref a_imageX, .ref a_isMade]))] s.heap.size = A at hD hE ⊢
  have hA : ∀ q : Nat, s.heap.size ≤ q → A q := fun q h => by rw [← hAe]; exact Or.inr h
  clear hAe hD0
  have hS : va_S A s.heap s.heap [] := va_S.rf
  have hK := hE.1
  have hl := lv_entry ([.ref a]) (n := 2) (Nat.le_of_ble_eq_true rfl)
  rw [lg_entry_eq]
  generalize (lg_sl ([.ref a]) ++ List.replicate (2 - (lg_sl ([.ref a])).length) Slot.unset).toArray = ls at hl ⊢
  have hl : lv_has ls 2 [(0, .ref a)] := hl
  obtain ⟨H, eH⟩ : ∃ z, z = s.heap := ⟨_, rfl⟩
  have hP : va_P D classes [(a_said, .inl (cs 0, 123, .inl a_said_c)), (a, .inr (12, [.ref a_tape, .int a__taped, .int a__rules, .ref a_sign, .ref a_length, .ref a_clause, .ref a_clauses, .ref a_read, .int a__next, .int a__wrong, .int a__number, .int a__text, .int a__made, .int a__deep, .int a__lines, .ref a_open, .int a__opened, .ref a_stack, .int a__top, .ref a_word, .ref a_said, .int a__x, .ref a_worth, .ref a_mate, .ref a_wasSaid, .int a__undone, .int a__boughtNow, .ref a_wayBy, .ref a_wayThen, .int a__walkMost, .int a__walkGoing, .int a__walkSet, .ref a_kept, .long a__drawX, .ref a_images, .ref a_imageX, .ref a_isMade]))] H := by rw [eH]; exact hP
  have hS : va_S A s.heap H [] := by rw [eH]; exact hS
  rw [← eH]
  clear eH
  obtain ⟨locs, el⟩ : ∃ z : List Loc, z = [] := ⟨_, rfl⟩
  rw [← el] at hS ⊢
  clear el
  have z0 : (0 : Int32).toInt = 0 := by decide
  have z1 : (1 : Int32).toInt = 1 := by decide
  have zm1 : (-1 : Int32).toInt = -1 := by decide
  have i_a__lines : 0 ≤ a__lines.toInt ∧ a__lines.toInt ≤ 40 := h_a__lines
  have i_a__made : 0 ≤ a__made.toInt ∧ a__made.toInt ≤ 60 := h_a__made
  have i_a__next : 0 ≤ a__next.toInt ∧ a__next.toInt ≤ 400 := h_a__next
  have i_a__opened : 0 ≤ a__opened.toInt ∧ a__opened.toInt ≤ 400 := h_a__opened
  have i_a__rules : 0 ≤ a__rules.toInt ∧ a__rules.toInt ≤ 6 := h_a__rules
  have i_a__taped : 0 ≤ a__taped.toInt ∧ a__taped.toInt ≤ 400 := h_a__taped
  have i_a__text : 0 ≤ a__text.toInt ∧ a__text.toInt ≤ 6 := h_a__text
  have i_a__top : 0 ≤ a__top.toInt ∧ a__top.toInt ≤ 64 := h_a__top
  have i_a__undone : 0 ≤ a__undone.toInt ∧ a__undone.toInt ≤ 20 := h_a__undone
  have i_a__x : 0 ≤ a__x.toInt ∧ a__x.toInt ≤ 2147483647 := h_a__x
  have K2 : ∀ (n : Nat) (k2_L_1 : Int32) (k2_C_a_said : Nat → Int32), (5 - k2_L_1.toInt).toNat ≤ n → IV 0 4 k2_L_1 → (BS k2_C_a_said 200) → (TR k2_C_a_said) → ((k2_C_a_said 3).toInt = (a_said_c 3).toInt) → ∀ (H : Heap) (locs : List Loc), va_P D classes [(a_said, .inl (cs 0, 123, .inl k2_C_a_said)), (a, .inr (12, [.ref a_tape, .int a__taped, .int a__rules, .ref a_sign, .ref a_length, .ref a_clause, .ref a_clauses, .ref a_read, .int a__next, .int a__wrong, .int a__number, .int a__text, .int a__made, .int a__deep, .int a__lines, .ref a_open, .int a__opened, .ref a_stack, .int a__top, .ref a_word, .ref a_said, .int a__x, .ref a_worth, .ref a_mate, .ref a_wasSaid, .int a__undone, .int a__boughtNow, .ref a_wayBy, .ref a_wayThen, .int a__walkMost, .int a__walkGoing, .int a__walkSet, .ref a_kept, .long a__drawX, .ref a_images, .ref a_imageX, .ref a_isMade]))] H → va_D A [(a_said, .inl (cs 0, 123, .inl k2_C_a_said)), (a, .inr (12, [.ref a_tape, .int a__taped, .int a__rules, .ref a_sign, .ref a_length, .ref a_clause, .ref a_clauses, .ref a_read, .int a__next, .int a__wrong, .int a__number, .int a__text, .int a__made, .int a__deep, .int a__lines, .ref a_open, .int a__opened, .ref a_stack, .int a__top, .ref a_word, .ref a_said, .int a__x, .ref a_worth, .ref a_mate, .ref a_wasSaid, .int a__undone, .int a__boughtNow, .ref a_wayBy, .ref a_wayThen, .int a__walkMost, .int a__walkGoing, .int a__walkSet, .ref a_kept, .long a__drawX, .ref a_images, .ref a_imageX, .ref a_isMade]))] → va_S A s.heap H locs → ∀ ls : Array Slot, lv_has ls 2 [(1, .int k2_L_1), (0, .ref a)] → W p l e (headSpec (hz_w yX12_allSee cX12_allSee 2 none) ({ frames := 2, cells := 0, slots := 0, locals := 45 })).room s m [.ref a].toArray below meth c H locs 0 0 (MQ below (va_Qv (fun (u : (Nat → Int32) × (Nat → Nat → Int32)) => ((BS (u.2 0) 200) ∧ (TR (u.2 0)) ∧ (((u.2 0) 3).toInt = (a_said_c 3).toInt))) (fun u t => va_P D classes [(a_said, .inl (cs 0, 123, .inl (u.2 0))), (a, .inr (12, [.ref a_tape, .int a__taped, .int a__rules, .ref a_sign, .ref a_length, .ref a_clause, .ref a_clauses, .ref a_read, .int a__next, .int a__wrong, .int a__number, .int a__text, .int a__made, .int a__deep, .int a__lines, .ref a_open, .int a__opened, .ref a_stack, .int a__top, .ref a_word, .ref a_said, .int a__x, .ref a_worth, .ref a_mate, .ref a_wasSaid, .int a__undone, .int a__boughtNow, .ref a_wayBy, .ref a_wayThen, .int a__walkMost, .int a__walkGoing, .int a__walkSet, .ref a_kept, .long a__drawX, .ref a_images, .ref a_imageX, .ref a_isMade]))] t.heap ∧ va_D A [(a_said, .inl (cs 0, 123, .inl (u.2 0))), (a, .inr (12, [.ref a_tape, .int a__taped, .int a__rules, .ref a_sign, .ref a_length, .ref a_clause, .ref a_clauses, .ref a_read, .int a__next, .int a__wrong, .int a__number, .int a__text, .int a__made, .int a__deep, .int a__lines, .ref a_open, .int a__opened, .ref a_stack, .int a__top, .ref a_word, .ref a_said, .int a__x, .ref a_worth, .ref a_mate, .ref a_wasSaid, .int a__undone, .int a__boughtNow, .ref a_wayBy, .ref a_wayThen, .int a__walkMost, .int a__walkGoing, .int a__walkSet, .ref a_kept, .long a__drawX, .ref a_images, .ref a_imageX, .ref a_isMade]))]) A) [.ref a].toArray s 0 0 A) (F0 m 2 ls []) := by
    intro n
    induction n with
    | zero =>
      intro k2_L_1 k2_C_a_said hn q2_10 x2_0 x2_1 x2_2 H locs hP hD hS ls hl
      have i_a__lines : 0 ≤ a__lines.toInt ∧ a__lines.toInt ≤ 40 := h_a__lines
      have i_a__made : 0 ≤ a__made.toInt ∧ a__made.toInt ≤ 60 := h_a__made
      have i_a__next : 0 ≤ a__next.toInt ∧ a__next.toInt ≤ 400 := h_a__next
      have i_a__opened : 0 ≤ a__opened.toInt ∧ a__opened.toInt ≤ 400 := h_a__opened
      have i_a__rules : 0 ≤ a__rules.toInt ∧ a__rules.toInt ≤ 6 := h_a__rules
      have i_a__taped : 0 ≤ a__taped.toInt ∧ a__taped.toInt ≤ 400 := h_a__taped
      have i_a__text : 0 ≤ a__text.toInt ∧ a__text.toInt ≤ 6 := h_a__text
      have i_a__top : 0 ≤ a__top.toInt ∧ a__top.toInt ≤ 64 := h_a__top
      have i_a__undone : 0 ≤ a__undone.toInt ∧ a__undone.toInt ≤ 20 := h_a__undone
      have i_a__x : 0 ≤ a__x.toInt ∧ a__x.toInt ≤ 2147483647 := h_a__x
      have i_k2_L_1 : 0 ≤ k2_L_1.toInt ∧ k2_L_1.toInt ≤ 4 := q2_10
      exact absurd hn (by omega)
    | succ n ih2 =>
      intro k2_L_1 k2_C_a_said hn q2_10 x2_0 x2_1 x2_2 H locs hP hD hS ls hl
      have i_a__lines : 0 ≤ a__lines.toInt ∧ a__lines.toInt ≤ 40 := h_a__lines
      have i_a__made : 0 ≤ a__made.toInt ∧ a__made.toInt ≤ 60 := h_a__made
      have i_a__next : 0 ≤ a__next.toInt ∧ a__next.toInt ≤ 400 := h_a__next
      have i_a__opened : 0 ≤ a__opened.toInt ∧ a__opened.toInt ≤ 400 := h_a__opened
      have i_a__rules : 0 ≤ a__rules.toInt ∧ a__rules.toInt ≤ 6 := h_a__rules
      have i_a__taped : 0 ≤ a__taped.toInt ∧ a__taped.toInt ≤ 400 := h_a__taped
      have i_a__text : 0 ≤ a__text.toInt ∧ a__text.toInt ≤ 6 := h_a__text
      have i_a__top : 0 ≤ a__top.toInt ∧ a__top.toInt ≤ 64 := h_a__top
      have i_a__undone : 0 ≤ a__undone.toInt ∧ a__undone.toInt ≤ 20 := h_a__undone
      have i_a__x : 0 ≤ a__x.toInt ∧ a__x.toInt ≤ 2147483647 := h_a__x
      have i_k2_L_1 : 0 ≤ k2_L_1.toInt ∧ k2_L_1.toInt ≤ 4 := q2_10
      refine lv_iload_n hx hb dX12_allSee_2 rfl (lv_at hl 0 rfl) ?_
      refine lv_aload_n hx hb dX12_allSee_3 rfl (lv_at hl 1 rfl) ?_
      refine va_get (D := D) (ci := 12) (v := .ref a_said) (C := RX12) (T := TX12) (N := 37) hx hb hT i_X12 hown hK hP 1 rfl rfl 20 (by decide) (hT _ q_185) (fun _ h9 => h9) rfl dX12_allSee_4 ?_
      refine lv_iconst (v := 2) hx hb dX12_allSee_7 (by decide) ?_
      refine va_iald hx hb hK hP 0 0 rfl rfl (iv_vc (by decide)) dX12_allSee_8 ?_
      refine lv_topi (fun v1 ev1 => ?_)
      have h2 : IV 0 4 v1 := (by rw [ev1]; exact bs_i2 x2_0)
      have ii3 : 0 ≤ v1.toInt ∧ v1.toInt ≤ 4 := h2
      have lv1 : v1.toInt = (k2_C_a_said 2).toInt := by rw [ev1]; rfl
      refine lv_icmp_ge (tgt := 54) hx hb dX12_allSee_9 (by decide) (fun c4 => ?_) (fun c4 => ?_)
      · have t5 : k2_L_1.toInt ≥ v1.toInt := lin_ge c4 rfl rfl
        refine W.widen (k := 0) (n := 0) (Nat.le_of_ble_eq_true rfl) (Nat.le_of_ble_eq_true rfl) ?_
        exact W.vret hx hb hr (fun t ht hW => ⟨⟨(fun k => match k with | 0 => 0 | _ => 0, fun k => match k with | 0 => k2_C_a_said | _ => fun _ => 0), rfl, (⟨x2_0, x2_1, x2_2⟩), by rw [ht]; exact hP.sub [0, 1] rfl, hD.sub [0, 1] (by decide) rfl⟩, hS.F ht⟩) hS.2.2 dX12_allSee_54
      · have t6 : k2_L_1.toInt < v1.toInt := lin_geN c4 rfl rfl
        have h7 : IV 0 3 k2_L_1 := iv_lt1 (Int32.not_le.mp c4) q2_10 h2 (by decide)
        have ii8 : 0 ≤ k2_L_1.toInt ∧ k2_L_1.toInt ≤ 3 := h7
        have h9 : IV 1 4 v1 := iv_lt2 (Int32.not_le.mp c4) q2_10 h2 (by decide)
        have ii10 : 1 ≤ v1.toInt ∧ v1.toInt ≤ 4 := h9
        refine lv_aload_n hx hb dX12_allSee_12 rfl (lv_at hl 1 rfl) ?_
        refine va_get (D := D) (ci := 12) (v := .ref a_said) (C := RX12) (T := TX12) (N := 37) hx hb hT i_X12 hown hK hP 1 rfl rfl 20 (by decide) (hT _ q_185) (fun _ h9 => h9) rfl dX12_allSee_13 ?_
        refine lv_bipush (v := 70) hx hb dX12_allSee_16 (by decide) ?_
        refine lv_iconst (v := 4) hx hb dX12_allSee_18 (by decide) ?_
        refine lv_iload_n hx hb dX12_allSee_19 rfl (lv_at hl 0 rfl) ?_
        refine lv_imul hx hb dX12_allSee_20 ?_
        refine lv_topi (fun v11 ev11 => ?_)
        have hv11 : IV 0 12 v11 := iv_mul ev11 (iv_c (a := 4) (b := 4) (by decide)) h7 (by decide) (by decide) (by decide) (by decide)
        have ii12 : 0 ≤ v11.toInt ∧ v11.toInt ≤ 12 := hv11
        have lv11 : v11.toInt = 4 * k2_L_1.toInt := lin_mul ev11 (iv_c (a := 4) (b := 4) (by decide)) h7 (by decide) rfl (by decide) (by decide) (by decide) (by decide)
        refine lv_iadd hx hb dX12_allSee_21 ?_
        refine lv_topi (fun v13 ev13 => ?_)
        have hv13 : IV 70 82 v13 := iv_add ev13 (iv_c (a := 70) (b := 70) (by decide)) hv11 (by decide) (by decide)
        have ii14 : 70 ≤ v13.toInt ∧ v13.toInt ≤ 82 := hv13
        have lv13 : v13.toInt = 70 + v11.toInt := lin_add ev13 (iv_c (a := 70) (b := 70) (by decide)) hv11 (by decide) rfl (by decide) (by decide)
        refine lv_iconst (v := 2) hx hb dX12_allSee_22 (by decide) ?_
        refine lv_iadd hx hb dX12_allSee_23 ?_
        refine lv_topi (fun v15 ev15 => ?_)
        have hv15 : IV 72 84 v15 := iv_add ev15 hv13 (iv_c (a := 2) (b := 2) (by decide)) (by decide) (by decide)
        have ii16 : 72 ≤ v15.toInt ∧ v15.toInt ≤ 84 := hv15
        have dv15 : v15.toInt = v13.toInt + 2 := iv_addE ev15 hv13 (iv_c (a := 2) (b := 2) (by decide)) (by decide) (by decide) (by decide)
        have lv15 : v15.toInt = v13.toInt + 2 := lin_add ev15 hv13 (iv_c (a := 2) (b := 2) (by decide)) rfl (by decide) (by decide) (by decide)
        refine lv_dup2_11 hx hb dX12_allSee_24 rfl rfl ?_
        refine va_iald hx hb hK hP 0 0 rfl rfl (iv_v hv15 (by decide) (by decide)) dX12_allSee_25 ?_
        refine lv_topi (fun v17 ev17 => ?_)
        have lv17 : v17.toInt = (k2_C_a_said (Int32.toNatClampNeg v15)).toInt := by rw [ev17]
        refine lv_aload_n hx hb dX12_allSee_26 rfl (lv_at hl 1 rfl) ?_
        refine lv_aload_n hx hb dX12_allSee_27 rfl (lv_at hl 1 rfl) ?_
        refine lv_aload_n hx hb dX12_allSee_28 rfl (lv_at hl 1 rfl) ?_
        refine lv_iload_n hx hb dX12_allSee_29 rfl (lv_at hl 0 rfl) ?_
        refine lv_iconst (v := 1) hx hb dX12_allSee_30 (by decide) ?_
        refine va_calli (va_runV (As := [.int k2_L_1, .int 1]) (rest := [.ref a, .ref a, .int v17, .int v15, .ref a_said]) ⟨hx, hb, hml, hown, hT⟩ (c_X12_buyerOf l D cs kK kV a k2_L_1 1 a_said k2_C_a_said a_tape a__taped a__rules a_sign a_length a_clause a_clauses a_read a__next a__wrong a__number a__text a__made a__deep a__lines a_open a__opened a_stack a__top a_word a__x a_worth a_mate a_wasSaid a__undone a__boughtNow a_wayBy a_wayThen a__walkMost a__walkGoing a__walkSet a_kept a__drawX a_images a_imageX a_isMade h7 ((iv_c (by decide))) h_a__taped h_a__rules h_a__next h_a__text h_a__made h_a__lines h_a__opened h_a__top h_a__x h_a__undone x2_0) (cwV 2 hT (hz_gV q_1120 q_1121 q_1122 q_701 q_1123) rfl rfl rfl (by decide +kernel) ⟨(Nat.le_of_ble_eq_true rfl), (Nat.le_of_ble_eq_true rfl)⟩) ⟨hz_P.blind, va_recv hK hP (ci := 12) (q0 := 1) rfl rfl, hz_P.mk (hP.sub (ws' := [(a_said, .inl (cs 0, 123, .inl k2_C_a_said)), (a, .inr (12, [.ref a_tape, .int a__taped, .int a__rules, .ref a_sign, .ref a_length, .ref a_clause, .ref a_clauses, .ref a_read, .int a__next, .int a__wrong, .int a__number, .int a__text, .int a__made, .int a__deep, .int a__lines, .ref a_open, .int a__opened, .ref a_stack, .int a__top, .ref a_word, .ref a_said, .int a__x, .ref a_worth, .ref a_mate, .ref a_wasSaid, .int a__undone, .int a__boughtNow, .ref a_wayBy, .ref a_wayThen, .int a__walkMost, .int a__walkGoing, .int a__walkSet, .ref a_kept, .long a__drawX, .ref a_images, .ref a_imageX, .ref a_isMade]))]) [0,1] rfl) hE hS⟩ rfl rfl hl.1 rfl (lv_room (Nat.le_of_ble_eq_true rfl)) dX12_allSee_31 ⟨(Nat.le_of_ble_eq_true rfl), (Nat.le_of_ble_eq_true rfl)⟩) hS (fun _ _ h => h.elim) (fun _ h => h.elim) (fun r18 u t H1 locs ht hvm hw hB hz1 hk1 hS => ?_)
        have hP := hz_keep hP hk1
        clear hk1 hB hz1
        generalize H1 = H at hP hS ⊢
        rcases hw with ⟨x19, x20⟩
        have sp := x20 (by decide) (by omega)
        refine lv_aload_n hx hb dX12_allSee_34 rfl (lv_at hl 1 rfl) ?_
        refine va_get (D := D) (ci := 12) (v := .ref a_said) (C := RX12) (T := TX12) (N := 37) hx hb hT i_X12 hown hK hP 1 rfl rfl 20 (by decide) (hT _ q_185) (fun _ h9 => h9) rfl dX12_allSee_35 ?_
        refine lv_iconst (v := 3) hx hb dX12_allSee_38 (by decide) ?_
        refine va_iald hx hb hK hP 0 0 rfl rfl (iv_vc (by decide)) dX12_allSee_39 ?_
        refine lv_topi (fun v21 ev21 => ?_)
        have h22 : IV 0 200 v21 := (by rw [ev21]; exact bs_i3 x2_0)
        have ii23 : 0 ≤ v21.toInt ∧ v21.toInt ≤ 200 := h22
        have lv21 : v21.toInt = (k2_C_a_said 3).toInt := by rw [ev21]; rfl
        refine va_calli (va_runV (As := [.int r18, .int v21]) (rest := [.ref a, .int v17, .int v15, .ref a_said]) ⟨hx, hb, hml, hown, hT⟩ (c_X12_stallAt l D cs kK kV a r18 v21 a_said k2_C_a_said a_tape a__taped a__rules a_sign a_length a_clause a_clauses a_read a__next a__wrong a__number a__text a__made a__deep a__lines a_open a__opened a_stack a__top a_word a__x a_worth a_mate a_wasSaid a__undone a__boughtNow a_wayBy a_wayThen a__walkMost a__walkGoing a__walkSet a_kept a__drawX a_images a_imageX a_isMade ((iv_w h22 (by decide) (by decide))) h_a__taped h_a__rules h_a__next h_a__text h_a__made h_a__lines h_a__opened h_a__top h_a__x h_a__undone x2_0 ((by omega)) ((by omega))) (cwV 2 hT (hz_gV q_1124 q_1125 q_1126 q_701 q_1127) rfl rfl rfl (by decide +kernel) ⟨(Nat.le_of_ble_eq_true rfl), (Nat.le_of_ble_eq_true rfl)⟩) ⟨hz_P.blind, va_recv hK hP (ci := 12) (q0 := 1) rfl rfl, hz_P.mk (hP.sub (ws' := [(a_said, .inl (cs 0, 123, .inl k2_C_a_said)), (a, .inr (12, [.ref a_tape, .int a__taped, .int a__rules, .ref a_sign, .ref a_length, .ref a_clause, .ref a_clauses, .ref a_read, .int a__next, .int a__wrong, .int a__number, .int a__text, .int a__made, .int a__deep, .int a__lines, .ref a_open, .int a__opened, .ref a_stack, .int a__top, .ref a_word, .ref a_said, .int a__x, .ref a_worth, .ref a_mate, .ref a_wasSaid, .int a__undone, .int a__boughtNow, .ref a_wayBy, .ref a_wayThen, .int a__walkMost, .int a__walkGoing, .int a__walkSet, .ref a_kept, .long a__drawX, .ref a_images, .ref a_imageX, .ref a_isMade]))]) [0,1] rfl) hE hS⟩ rfl rfl hl.1 rfl (lv_room (Nat.le_of_ble_eq_true rfl)) dX12_allSee_40 ⟨(Nat.le_of_ble_eq_true rfl), (Nat.le_of_ble_eq_true rfl)⟩) hS (fun _ _ h => h.elim) (fun _ h => h.elim) (fun r24 u t H1 locs ht hvm hw hB hz1 hk1 hS => ?_)
        have hP := hz_keep hP hk1
        clear hk1 hB hz1
        generalize H1 = H at hP hS ⊢
        rcases hw with ⟨h25, h26, x27⟩
        have ii28 : 0 ≤ r24.toInt ∧ r24.toInt ≤ 7 := h25
        have ii29 : (-7) ≤ r18.toInt ∧ r18.toInt ≤ 7 := h26
        refine va_calli (va_runV (As := [.int r24]) (rest := [.int v17, .int v15, .ref a_said]) ⟨hx, hb, hml, hown, hT⟩ (c_X12_atStall l D cs kK kV a r24 a_said k2_C_a_said a_tape a__taped a__rules a_sign a_length a_clause a_clauses a_read a__next a__wrong a__number a__text a__made a__deep a__lines a_open a__opened a_stack a__top a_word a__x a_worth a_mate a_wasSaid a__undone a__boughtNow a_wayBy a_wayThen a__walkMost a__walkGoing a__walkSet a_kept a__drawX a_images a_imageX a_isMade h_a__taped h_a__rules h_a__next h_a__text h_a__made h_a__lines h_a__opened h_a__top h_a__x h_a__undone x2_0) (cwV 1 hT (hz_gV q_1128 q_1129 q_1130 q_701 q_1131) rfl rfl rfl (by decide +kernel) ⟨(Nat.le_of_ble_eq_true rfl), (Nat.le_of_ble_eq_true rfl)⟩) ⟨hz_P.blind, va_recv hK hP (ci := 12) (q0 := 1) rfl rfl, hz_P.mk (hP.sub (ws' := [(a_said, .inl (cs 0, 123, .inl k2_C_a_said)), (a, .inr (12, [.ref a_tape, .int a__taped, .int a__rules, .ref a_sign, .ref a_length, .ref a_clause, .ref a_clauses, .ref a_read, .int a__next, .int a__wrong, .int a__number, .int a__text, .int a__made, .int a__deep, .int a__lines, .ref a_open, .int a__opened, .ref a_stack, .int a__top, .ref a_word, .ref a_said, .int a__x, .ref a_worth, .ref a_mate, .ref a_wasSaid, .int a__undone, .int a__boughtNow, .ref a_wayBy, .ref a_wayThen, .int a__walkMost, .int a__walkGoing, .int a__walkSet, .ref a_kept, .long a__drawX, .ref a_images, .ref a_imageX, .ref a_isMade]))]) [0,1] rfl) hE hS⟩ rfl rfl hl.1 rfl (lv_room (Nat.le_of_ble_eq_true rfl)) dX12_allSee_43 ⟨(Nat.le_of_ble_eq_true rfl), (Nat.le_of_ble_eq_true rfl)⟩) hS (fun _ _ h => h.elim) (fun _ h => h.elim) (fun r30 u t H1 locs ht hvm hw hB hz1 hk1 hS => ?_)
        have hP := hz_keep hP hk1
        clear hk1 hB hz1
        generalize H1 = H at hP hS ⊢
        have hw_r30 := hw
        refine lv_ior hx hb dX12_allSee_46 ?_
        refine lv_topi (fun v31 ev31 => ?_)
        refine va_iast hx hb hK hP hD hS 0 0 rfl rfl (iv_v hv15 (by decide) (by decide)) dX12_allSee_47 (fun H locs hP hD hS => ?_)
        have hP : va_P D classes [(a_said, .inl (cs 0, 123, .inl (upd k2_C_a_said (Int32.toNatClampNeg v15) v31))), (a, .inr (12, [.ref a_tape, .int a__taped, .int a__rules, .ref a_sign, .ref a_length, .ref a_clause, .ref a_clauses, .ref a_read, .int a__next, .int a__wrong, .int a__number, .int a__text, .int a__made, .int a__deep, .int a__lines, .ref a_open, .int a__opened, .ref a_stack, .int a__top, .ref a_word, .ref a_said, .int a__x, .ref a_worth, .ref a_mate, .ref a_wasSaid, .int a__undone, .int a__boughtNow, .ref a_wayBy, .ref a_wayThen, .int a__walkMost, .int a__walkGoing, .int a__walkSet, .ref a_kept, .long a__drawX, .ref a_images, .ref a_imageX, .ref a_isMade]))] H := hP
        have hD : va_D A [(a_said, .inl (cs 0, 123, .inl (upd k2_C_a_said (Int32.toNatClampNeg v15) v31))), (a, .inr (12, [.ref a_tape, .int a__taped, .int a__rules, .ref a_sign, .ref a_length, .ref a_clause, .ref a_clauses, .ref a_read, .int a__next, .int a__wrong, .int a__number, .int a__text, .int a__made, .int a__deep, .int a__lines, .ref a_open, .int a__opened, .ref a_stack, .int a__top, .ref a_word, .ref a_said, .int a__x, .ref a_worth, .ref a_mate, .ref a_wasSaid, .int a__undone, .int a__boughtNow, .ref a_wayBy, .ref a_wayThen, .int a__walkMost, .int a__walkGoing, .int a__walkSet, .ref a_kept, .long a__drawX, .ref a_images, .ref a_imageX, .ref a_isMade]))] := hD
        obtain ⟨f32, uf32⟩ : ∃ z, z = upd k2_C_a_said (Int32.toNatClampNeg v15) v31 := ⟨_, rfl⟩
        rw [← uf32] at hP hD
        have wf32 : (f32 (Int32.toNatClampNeg v15)).toInt = v31.toInt := lin_us uf32 rfl
        have kk33 : (f32 0).toInt = (k2_C_a_said 0).toInt := congrArg Int32.toInt (by rw [uf32, pk_un (show 0 ≠ Int32.toNatClampNeg v15 from by (have q : Int32.toNatClampNeg v15 = v15.toInt.toNat := rfl); omega)])
        have kk34 : (f32 1).toInt = (k2_C_a_said 1).toInt := congrArg Int32.toInt (by rw [uf32, pk_un (show 1 ≠ Int32.toNatClampNeg v15 from by (have q : Int32.toNatClampNeg v15 = v15.toInt.toNat := rfl); omega)])
        have kk35 : (f32 2).toInt = (k2_C_a_said 2).toInt := congrArg Int32.toInt (by rw [uf32, pk_un (show 2 ≠ Int32.toNatClampNeg v15 from by (have q : Int32.toNatClampNeg v15 = v15.toInt.toNat := rfl); omega)])
        have kk36 : (f32 3).toInt = (k2_C_a_said 3).toInt := congrArg Int32.toInt (by rw [uf32, pk_un (show 3 ≠ Int32.toNatClampNeg v15 from by (have q : Int32.toNatClampNeg v15 = v15.toInt.toNat := rfl); omega)])
        have fb37 : BS f32 200 := (bs_upd x2_0 uf32 (show Int32.toNatClampNeg v15 ≠ 0 ∧ Int32.toNatClampNeg v15 ≠ 1 ∧ Int32.toNatClampNeg v15 ≠ 2 ∧ Int32.toNatClampNeg v15 ≠ 3 ∧ Int32.toNatClampNeg v15 ≠ 4 ∧ Int32.toNatClampNeg v15 ≠ 71 ∧ Int32.toNatClampNeg v15 ≠ 75 ∧ Int32.toNatClampNeg v15 ≠ 79 ∧ Int32.toNatClampNeg v15 ≠ 83 from by (have q : Int32.toNatClampNeg v15 = v15.toInt.toNat := rfl); omega))
        have fb38 : TR f32 := tr_upd x2_1 uf32 (show Int32.toNatClampNeg v15 < 86 from by (have q : Int32.toNatClampNeg v15 = v15.toInt.toNat := rfl); omega)
        obtain ⟨v39, ev39⟩ : ∃ z : Int32, z = k2_L_1 + 1 := ⟨_, rfl⟩
        have hv39 : IV 1 4 v39 := iv_add ev39 h7 (iv_c (a := 1) (b := 1) (by decide)) (by decide) (by decide)
        have dv39 : v39.toInt = k2_L_1.toInt + 1 := iv_addE ev39 h7 (iv_c (a := 1) (b := 1) (by decide)) (by decide) (by decide) (by decide)
        refine lv_iinc (v := v39) (lv' := [(1, .int v39), (0, .ref a)]) hx hb dX12_allSee_48 hl (k := 0) rfl (by rw [ev39]; rfl) (by decide) rfl (fun ls hl => ?_)
        refine lv_goto (tgt := 2) hx hb dX12_allSee_51 (by decide) ?_
        exact ih2 v39 f32 (by have h9 := hn; omega) (iv_w hv39 (by decide) (by decide)) fb37 fb38 (by omega) H locs (hP.sub (ws' := [(a_said, .inl (cs 0, 123, .inl f32)), (a, .inr (12, [.ref a_tape, .int a__taped, .int a__rules, .ref a_sign, .ref a_length, .ref a_clause, .ref a_clauses, .ref a_read, .int a__next, .int a__wrong, .int a__number, .int a__text, .int a__made, .int a__deep, .int a__lines, .ref a_open, .int a__opened, .ref a_stack, .int a__top, .ref a_word, .ref a_said, .int a__x, .ref a_worth, .ref a_mate, .ref a_wasSaid, .int a__undone, .int a__boughtNow, .ref a_wayBy, .ref a_wayThen, .int a__walkMost, .int a__walkGoing, .int a__walkSet, .ref a_kept, .long a__drawX, .ref a_images, .ref a_imageX, .ref a_isMade]))]) [0, 1] rfl) (hD.sub (ws' := [(a_said, .inl (cs 0, 123, .inl f32)), (a, .inr (12, [.ref a_tape, .int a__taped, .int a__rules, .ref a_sign, .ref a_length, .ref a_clause, .ref a_clauses, .ref a_read, .int a__next, .int a__wrong, .int a__number, .int a__text, .int a__made, .int a__deep, .int a__lines, .ref a_open, .int a__opened, .ref a_stack, .int a__top, .ref a_word, .ref a_said, .int a__x, .ref a_worth, .ref a_mate, .ref a_wasSaid, .int a__undone, .int a__boughtNow, .ref a_wayBy, .ref a_wayThen, .int a__walkMost, .int a__walkGoing, .int a__walkSet, .ref a_kept, .long a__drawX, .ref a_images, .ref a_imageX, .ref a_isMade]))]) [0, 1] (by decide) rfl) hS ls (lv_sub hl [0, 1] rfl)
  refine lv_iconst (v := 0) hx hb dX12_allSee_0 (by decide) ?_
  refine lv_istore_n (lv' := [(1, .int 0), (0, .ref a)]) hx hb dX12_allSee_1 rfl hl (by decide) rfl (fun ls hl => ?_)
  exact K2 _ ((0 : Int32)) a_said_c (Nat.le_refl _) (iv_c (by decide)) hf0 hf1 (by omega) H locs (hP.sub (ws' := [(a_said, .inl (cs 0, 123, .inl a_said_c)), (a, .inr (12, [.ref a_tape, .int a__taped, .int a__rules, .ref a_sign, .ref a_length, .ref a_clause, .ref a_clauses, .ref a_read, .int a__next, .int a__wrong, .int a__number, .int a__text, .int a__made, .int a__deep, .int a__lines, .ref a_open, .int a__opened, .ref a_stack, .int a__top, .ref a_word, .ref a_said, .int a__x, .ref a_worth, .ref a_mate, .ref a_wasSaid, .int a__undone, .int a__boughtNow, .ref a_wayBy, .ref a_wayThen, .int a__walkMost, .int a__walkGoing, .int a__walkSet, .ref a_kept, .long a__drawX, .ref a_images, .ref a_imageX, .ref a_isMade]))]) [0, 1] rfl) (hD.sub (ws' := [(a_said, .inl (cs 0, 123, .inl a_said_c)), (a, .inr (12, [.ref a_tape, .int a__taped, .int a__rules, .ref a_sign, .ref a_length, .ref a_clause, .ref a_clauses, .ref a_read, .int a__next, .int a__wrong, .int a__number, .int a__text, .int a__made, .int a__deep, .int a__lines, .ref a_open, .int a__opened, .ref a_stack, .int a__top, .ref a_word, .ref a_said, .int a__x, .ref a_worth, .ref a_mate, .ref a_wasSaid, .int a__undone, .int a__boughtNow, .ref a_wayBy, .ref a_wayThen, .int a__walkMost, .int a__walkGoing, .int a__walkSet, .ref a_kept, .long a__drawX, .ref a_images, .ref a_imageX, .ref a_isMade]))]) [0, 1] (by decide) rfl) hS ls (lv_sub hl [0, 1] rfl)
theorem dX12_leastOf_0 : decode cX12_leastOf 0 = .ok (.iconst 0, 1) := by decide +kernel
theorem dX12_leastOf_1 : decode cX12_leastOf 1 = .ok (.istore_n 2, 1) := by decide +kernel
theorem dX12_leastOf_2 : decode cX12_leastOf 2 = .ok (.iload_n 1, 1) := by decide +kernel
theorem dX12_leastOf_3 : decode cX12_leastOf 3 = .ok (.iload_n 2, 1) := by decide +kernel
theorem dX12_leastOf_4 : decode cX12_leastOf 4 = .ok (.invokestatic 215, 3) := by decide +kernel
theorem dX12_leastOf_7 : decode cX12_leastOf 7 = .ok (.ifCond .ne 9, 3) := by decide +kernel
theorem dX12_leastOf_10 : decode cX12_leastOf 10 = .ok (.iinc 2 1, 3) := by decide +kernel
theorem dX12_leastOf_13 : decode cX12_leastOf 13 = .ok (.goto (-11), 3) := by decide +kernel
theorem dX12_leastOf_16 : decode cX12_leastOf 16 = .ok (.iload_n 2, 1) := by decide +kernel
theorem dX12_leastOf_17 : decode cX12_leastOf 17 = .ok (.ireturn, 1) := by decide +kernel
set_option maxHeartbeats 4000000 in
set_option maxRecDepth 100000 in
theorem c_X12_leastOf (l : Launch) (D : va_G) (cs : Nat → ClassId) (kK kV : Nat → Nat) (a : Nat) (p0 : Int32) (h_p0 : IV 1 4095 p0) : Met l yX12_leastOf (hz_w yX12_leastOf cX12_leastOf 3 (some .int)) ({ frames := 1, cells := 0, slots := 0, locals := 21 }) (va_Pc [.ref a, .int p0] (hz_P D cs kK kV [])) (va_Qi (fun (r : Int32) (_ : Unit) => (IV 0 11 r ∧ (BT p0 r))) (fun _ t => True) (fun _ => False)) 0 0 (fun _ => False) := by
  refine Met.ofW (cc := cX12_leastOf) (maxL := 3) (ret := (some .int)) (by decide) rfl ?_
  intro p e s m args below meth c s₁ B hml hv
  obtain ⟨rfl, hP, hE⟩ := hv
  have hx := B.exec
  have hb := B.bytes
  have hr := B.returns
  have hT : ∀ w ∈ TB, w.before _ s = true := fun w h => atoms_spec (ws := hz_w yX12_leastOf cX12_leastOf 3 (some .int)) B.pre w (List.mem_cons_of_mem _ h)
  have hown : s.vm.findClass RX12 = some m.cls := findClass_of_methodNamed B.named
  have hlocks := B.notSynchronized
  clear B
  have hS : va_S (fun _ => False) s.heap s.heap [] := va_S.rf
  have hK := hE.1
  have hl := lv_entry ([.ref a, .int p0]) (n := 3) (Nat.le_of_ble_eq_true rfl)
  rw [lg_entry_eq]
  generalize (lg_sl ([.ref a, .int p0]) ++ List.replicate (3 - (lg_sl ([.ref a, .int p0])).length) Slot.unset).toArray = ls at hl ⊢
  have hl : lv_has ls 3 [(0, .ref a), (1, .int p0)] := hl
  obtain ⟨H, eH⟩ : ∃ z, z = s.heap := ⟨_, rfl⟩
  have hP : va_P D classes [] H := by rw [eH]; exact hP
  have hS : va_S (fun _ => False) s.heap H [] := by rw [eH]; exact hS
  rw [← eH]
  clear eH
  obtain ⟨locs, el⟩ : ∃ z : List Loc, z = [] := ⟨_, rfl⟩
  rw [← el] at hS ⊢
  clear el
  have z0 : (0 : Int32).toInt = 0 := by decide
  have z1 : (1 : Int32).toInt = 1 := by decide
  have zm1 : (-1 : Int32).toInt = -1 := by decide
  have i_p0 : 1 ≤ p0.toInt ∧ p0.toInt ≤ 4095 := h_p0
  have K2 : ∀ (n : Nat) (k2_L_2 : Int32), (12 - k2_L_2.toInt).toNat ≤ n → IV 0 11 k2_L_2 → (∃ k : Int32, k2_L_2.toInt ≤ k.toInt ∧ k.toInt ≤ 11 ∧ BT p0 k) → ∀ (H : Heap) (locs : List Loc), va_P D classes [] H → va_S (fun _ => False) s.heap H locs → ∀ ls : Array Slot, lv_has ls 3 [(2, .int k2_L_2), (0, .ref a), (1, .int p0)] → W p l e (headSpec (hz_w yX12_leastOf cX12_leastOf 3 (some .int)) ({ frames := 1, cells := 0, slots := 0, locals := 21 })).room s m [.ref a, .int p0].toArray below meth c H locs 0 0 (MQ below (va_Qi (fun (r : Int32) (_ : Unit) => (IV 0 11 r ∧ (BT p0 r))) (fun _ t => True) (fun _ => False)) [.ref a, .int p0].toArray s 0 0 (fun _ => False)) (F0 m 2 ls []) := by
    intro n
    induction n with
    | zero =>
      intro k2_L_2 hn q2_0 x2_0 H locs hP hS ls hl
      have i_k2_L_2 : 0 ≤ k2_L_2.toInt ∧ k2_L_2.toInt ≤ 11 := q2_0
      have i_p0 : 1 ≤ p0.toInt ∧ p0.toInt ≤ 4095 := h_p0
      exact absurd hn (by omega)
    | succ n ih2 =>
      intro k2_L_2 hn q2_0 x2_0 H locs hP hS ls hl
      have i_k2_L_2 : 0 ≤ k2_L_2.toInt ∧ k2_L_2.toInt ≤ 11 := q2_0
      have i_p0 : 1 ≤ p0.toInt ∧ p0.toInt ≤ 4095 := h_p0
      refine lv_iload_n hx hb dX12_leastOf_2 rfl (lv_at hl 2 rfl) ?_
      refine lv_iload_n hx hb dX12_leastOf_3 rfl (lv_at hl 0 rfl) ?_
      refine va_calli (va_runS (As := [.int p0, .int k2_L_2]) (rest := []) ⟨hx, hb, hml, hown, hT⟩ (c_X12_isOf l D cs kK kV p0 k2_L_2) (va_cwS 2 hT (hz_gS q_1034 q_1035 q_701 q_1036) rfl rfl rfl (by decide +kernel) ⟨(Nat.le_of_ble_eq_true rfl), (Nat.le_of_ble_eq_true rfl)⟩) ⟨hz_P.blind, hz_P.mk (hP.sub (ws' := []) [] rfl) hE hS⟩ rfl rfl hl.1 rfl (lv_room (Nat.le_of_ble_eq_true rfl)) dX12_leastOf_4 ⟨(Nat.le_of_ble_eq_true rfl), (Nat.le_of_ble_eq_true rfl)⟩) hS (fun _ _ h => h.elim) (fun _ h => h.elim) (fun r1 u t H1 locs ht hvm hw hB hz1 hk1 hS => ?_)
      have hP := hz_keep hP hk1
      clear hk1 hB hz1
      generalize H1 = H at hP hS ⊢
      rcases hw with ⟨rfl, x2⟩ | ⟨rfl, x3⟩
      · refine lv_if_ne (tgt := 16) hx hb dX12_leastOf_7 (by decide) (fun z => absurd (by decide) z) (fun _ => ?_)
        obtain ⟨kk, kk1, kk2, kk3⟩ := x2_0
        have kne : k2_L_2.toInt ≠ kk.toInt := fun z => x2 (by rw [Int32.toInt_inj.mp z]; exact kk3)
        obtain ⟨v4, ev4⟩ : ∃ z : Int32, z = k2_L_2 + 1 := ⟨_, rfl⟩
        have hv4 : IV 1 12 v4 := iv_add ev4 q2_0 (iv_c (a := 1) (b := 1) (by decide)) (by decide) (by decide)
        have dv4 : v4.toInt = k2_L_2.toInt + 1 := iv_addE ev4 q2_0 (iv_c (a := 1) (b := 1) (by decide)) (by decide) (by decide) (by decide)
        refine lv_iinc (v := v4) (lv' := [(2, .int v4), (0, .ref a), (1, .int p0)]) hx hb dX12_leastOf_10 hl (k := 0) rfl (by rw [ev4]; rfl) (by decide) rfl (fun ls hl => ?_)
        refine lv_goto (tgt := 2) hx hb dX12_leastOf_13 (by decide) ?_
        exact ih2 v4 (by have h9 := hn; omega) (⟨by omega, by omega⟩ : IV 0 11 v4) (⟨kk, by omega, kk2, kk3⟩) H locs (hP.sub (ws' := []) [] rfl) hS ls (lv_sub hl [0, 1, 2] rfl)
      · refine lv_if_ne (tgt := 16) hx hb dX12_leastOf_7 (by decide) (fun _ => ?_) (fun z => absurd z (by decide))
        refine lv_iload_n hx hb dX12_leastOf_16 rfl (lv_at hl 0 rfl) ?_
        exact W.iret (v := k2_L_2) hx hb hr (fun t ht hW => ⟨⟨k2_L_2, (), rfl, (⟨q2_0, x3⟩), trivial⟩, hS.F ht⟩) hS.2.2 dX12_leastOf_17
  refine lv_iconst (v := 0) hx hb dX12_leastOf_0 (by decide) ?_
  refine lv_istore_n (lv' := [(2, .int 0), (0, .ref a), (1, .int p0)]) hx hb dX12_leastOf_1 rfl hl (by decide) rfl (fun ls hl => ?_)
  exact K2 _ ((0 : Int32)) (Nat.le_refl _) (iv_c (by decide)) (by obtain ⟨k, k1, k2, k3⟩ := bt_ex h_p0; exact ⟨k, by omega, k2, k3⟩) H locs (hP.sub (ws' := []) [] rfl) hS ls (lv_sub hl [0, 1, 2] rfl)
theorem dX12_fillsWorth_0 : decode cX12_fillsWorth 0 = .ok (.aload_n 0, 1) := by decide +kernel
theorem dX12_fillsWorth_1 : decode cX12_fillsWorth 1 = .ok (.getfield 42, 3) := by decide +kernel
theorem dX12_fillsWorth_4 : decode cX12_fillsWorth 4 = .ok (.iconst 0, 1) := by decide +kernel
theorem dX12_fillsWorth_5 : decode cX12_fillsWorth 5 = .ok (.iconst 0, 1) := by decide +kernel
theorem dX12_fillsWorth_6 : decode cX12_fillsWorth 6 = .ok (.iastore, 1) := by decide +kernel
theorem dX12_fillsWorth_7 : decode cX12_fillsWorth 7 = .ok (.iconst 1, 1) := by decide +kernel
theorem dX12_fillsWorth_8 : decode cX12_fillsWorth 8 = .ok (.istore_n 1, 1) := by decide +kernel
theorem dX12_fillsWorth_9 : decode cX12_fillsWorth 9 = .ok (.iload_n 1, 1) := by decide +kernel
theorem dX12_fillsWorth_10 : decode cX12_fillsWorth 10 = .ok (.iconst 1, 1) := by decide +kernel
theorem dX12_fillsWorth_11 : decode cX12_fillsWorth 11 = .ok (.aload_n 0, 1) := by decide +kernel
theorem dX12_fillsWorth_12 : decode cX12_fillsWorth 12 = .ok (.getfield 39, 3) := by decide +kernel
theorem dX12_fillsWorth_15 : decode cX12_fillsWorth 15 = .ok (.iconst 1, 1) := by decide +kernel
theorem dX12_fillsWorth_16 : decode cX12_fillsWorth 16 = .ok (.iaload, 1) := by decide +kernel
theorem dX12_fillsWorth_17 : decode cX12_fillsWorth 17 = .ok (.ishl, 1) := by decide +kernel
theorem dX12_fillsWorth_18 : decode cX12_fillsWorth 18 = .ok (.if_icmp .ge 156, 3) := by decide +kernel
theorem dX12_fillsWorth_21 : decode cX12_fillsWorth 21 = .ok (.aload_n 0, 1) := by decide +kernel
theorem dX12_fillsWorth_22 : decode cX12_fillsWorth 22 = .ok (.iload_n 1, 1) := by decide +kernel
theorem dX12_fillsWorth_23 : decode cX12_fillsWorth 23 = .ok (.invokevirtual 323, 3) := by decide +kernel
theorem dX12_fillsWorth_26 : decode cX12_fillsWorth 26 = .ok (.istore_n 2, 1) := by decide +kernel
theorem dX12_fillsWorth_27 : decode cX12_fillsWorth 27 = .ok (.iload_n 1, 1) := by decide +kernel
theorem dX12_fillsWorth_28 : decode cX12_fillsWorth 28 = .ok (.iconst 1, 1) := by decide +kernel
theorem dX12_fillsWorth_29 : decode cX12_fillsWorth 29 = .ok (.iload_n 2, 1) := by decide +kernel
theorem dX12_fillsWorth_30 : decode cX12_fillsWorth 30 = .ok (.ishl, 1) := by decide +kernel
theorem dX12_fillsWorth_31 : decode cX12_fillsWorth 31 = .ok (.iconst (-1), 1) := by decide +kernel
theorem dX12_fillsWorth_32 : decode cX12_fillsWorth 32 = .ok (.ixor, 1) := by decide +kernel
theorem dX12_fillsWorth_33 : decode cX12_fillsWorth 33 = .ok (.iand, 1) := by decide +kernel
theorem dX12_fillsWorth_34 : decode cX12_fillsWorth 34 = .ok (.istore_n 3, 1) := by decide +kernel
theorem dX12_fillsWorth_35 : decode cX12_fillsWorth 35 = .ok (.aload_n 0, 1) := by decide +kernel
theorem dX12_fillsWorth_36 : decode cX12_fillsWorth 36 = .ok (.getfield 42, 3) := by decide +kernel
theorem dX12_fillsWorth_39 : decode cX12_fillsWorth 39 = .ok (.iload_n 1, 1) := by decide +kernel
theorem dX12_fillsWorth_40 : decode cX12_fillsWorth 40 = .ok (.bipush 9, 2) := by decide +kernel
theorem dX12_fillsWorth_42 : decode cX12_fillsWorth 42 = .ok (.aload_n 0, 1) := by decide +kernel
theorem dX12_fillsWorth_43 : decode cX12_fillsWorth 43 = .ok (.getfield 42, 3) := by decide +kernel
theorem dX12_fillsWorth_46 : decode cX12_fillsWorth 46 = .ok (.iload_n 3, 1) := by decide +kernel
theorem dX12_fillsWorth_47 : decode cX12_fillsWorth 47 = .ok (.iaload, 1) := by decide +kernel
theorem dX12_fillsWorth_48 : decode cX12_fillsWorth 48 = .ok (.iadd, 1) := by decide +kernel
theorem dX12_fillsWorth_49 : decode cX12_fillsWorth 49 = .ok (.iastore, 1) := by decide +kernel
theorem dX12_fillsWorth_50 : decode cX12_fillsWorth 50 = .ok (.aload_n 0, 1) := by decide +kernel
theorem dX12_fillsWorth_51 : decode cX12_fillsWorth 51 = .ok (.getfield 45, 3) := by decide +kernel
theorem dX12_fillsWorth_54 : decode cX12_fillsWorth 54 = .ok (.iload_n 1, 1) := by decide +kernel
theorem dX12_fillsWorth_55 : decode cX12_fillsWorth 55 = .ok (.iconst (-1), 1) := by decide +kernel
theorem dX12_fillsWorth_56 : decode cX12_fillsWorth 56 = .ok (.iastore, 1) := by decide +kernel
theorem dX12_fillsWorth_57 : decode cX12_fillsWorth 57 = .ok (.iload_n 2, 1) := by decide +kernel
theorem dX12_fillsWorth_58 : decode cX12_fillsWorth 58 = .ok (.iconst 1, 1) := by decide +kernel
theorem dX12_fillsWorth_59 : decode cX12_fillsWorth 59 = .ok (.iadd, 1) := by decide +kernel
theorem dX12_fillsWorth_60 : decode cX12_fillsWorth 60 = .ok (.istore 4, 2) := by decide +kernel
theorem dX12_fillsWorth_62 : decode cX12_fillsWorth 62 = .ok (.iload 4, 2) := by decide +kernel
theorem dX12_fillsWorth_64 : decode cX12_fillsWorth 64 = .ok (.aload_n 0, 1) := by decide +kernel
theorem dX12_fillsWorth_65 : decode cX12_fillsWorth 65 = .ok (.getfield 39, 3) := by decide +kernel
theorem dX12_fillsWorth_68 : decode cX12_fillsWorth 68 = .ok (.iconst 1, 1) := by decide +kernel
theorem dX12_fillsWorth_69 : decode cX12_fillsWorth 69 = .ok (.iaload, 1) := by decide +kernel
theorem dX12_fillsWorth_70 : decode cX12_fillsWorth 70 = .ok (.if_icmp .ge 98, 3) := by decide +kernel
theorem dX12_fillsWorth_73 : decode cX12_fillsWorth 73 = .ok (.iload_n 3, 1) := by decide +kernel
theorem dX12_fillsWorth_74 : decode cX12_fillsWorth 74 = .ok (.iload 4, 2) := by decide +kernel
theorem dX12_fillsWorth_76 : decode cX12_fillsWorth 76 = .ok (.invokestatic 215, 3) := by decide +kernel
theorem dX12_fillsWorth_79 : decode cX12_fillsWorth 79 = .ok (.ifCond .eq 13, 3) := by decide +kernel
theorem dX12_fillsWorth_82 : decode cX12_fillsWorth 82 = .ok (.aload_n 0, 1) := by decide +kernel
theorem dX12_fillsWorth_83 : decode cX12_fillsWorth 83 = .ok (.iload_n 2, 1) := by decide +kernel
theorem dX12_fillsWorth_84 : decode cX12_fillsWorth 84 = .ok (.iload 4, 2) := by decide +kernel
theorem dX12_fillsWorth_86 : decode cX12_fillsWorth 86 = .ok (.invokevirtual 326, 3) := by decide +kernel
theorem dX12_fillsWorth_89 : decode cX12_fillsWorth 89 = .ok (.goto 4, 3) := by decide +kernel
theorem dX12_fillsWorth_92 : decode cX12_fillsWorth 92 = .ok (.iconst 0, 1) := by decide +kernel
theorem dX12_fillsWorth_93 : decode cX12_fillsWorth 93 = .ok (.istore 5, 2) := by decide +kernel
theorem dX12_fillsWorth_95 : decode cX12_fillsWorth 95 = .ok (.iload 5, 2) := by decide +kernel
theorem dX12_fillsWorth_97 : decode cX12_fillsWorth 97 = .ok (.ifCond .ne 6, 3) := by decide +kernel
theorem dX12_fillsWorth_100 : decode cX12_fillsWorth 100 = .ok (.goto 62, 3) := by decide +kernel
theorem dX12_fillsWorth_103 : decode cX12_fillsWorth 103 = .ok (.iload 5, 2) := by decide +kernel
theorem dX12_fillsWorth_105 : decode cX12_fillsWorth 105 = .ok (.iconst 2, 1) := by decide +kernel
theorem dX12_fillsWorth_106 : decode cX12_fillsWorth 106 = .ok (.if_icmp .ne 8, 3) := by decide +kernel
theorem dX12_fillsWorth_109 : decode cX12_fillsWorth 109 = .ok (.bipush 40, 2) := by decide +kernel
theorem dX12_fillsWorth_111 : decode cX12_fillsWorth 111 = .ok (.goto 5, 3) := by decide +kernel
theorem dX12_fillsWorth_114 : decode cX12_fillsWorth 114 = .ok (.bipush 20, 2) := by decide +kernel
theorem dX12_fillsWorth_116 : decode cX12_fillsWorth 116 = .ok (.aload_n 0, 1) := by decide +kernel
theorem dX12_fillsWorth_117 : decode cX12_fillsWorth 117 = .ok (.getfield 42, 3) := by decide +kernel
theorem dX12_fillsWorth_120 : decode cX12_fillsWorth 120 = .ok (.iload_n 3, 1) := by decide +kernel
theorem dX12_fillsWorth_121 : decode cX12_fillsWorth 121 = .ok (.iconst 1, 1) := by decide +kernel
theorem dX12_fillsWorth_122 : decode cX12_fillsWorth 122 = .ok (.iload 4, 2) := by decide +kernel
theorem dX12_fillsWorth_124 : decode cX12_fillsWorth 124 = .ok (.ishl, 1) := by decide +kernel
theorem dX12_fillsWorth_125 : decode cX12_fillsWorth 125 = .ok (.iconst (-1), 1) := by decide +kernel
theorem dX12_fillsWorth_126 : decode cX12_fillsWorth 126 = .ok (.ixor, 1) := by decide +kernel
theorem dX12_fillsWorth_127 : decode cX12_fillsWorth 127 = .ok (.iand, 1) := by decide +kernel
theorem dX12_fillsWorth_128 : decode cX12_fillsWorth 128 = .ok (.iaload, 1) := by decide +kernel
theorem dX12_fillsWorth_129 : decode cX12_fillsWorth 129 = .ok (.iadd, 1) := by decide +kernel
theorem dX12_fillsWorth_130 : decode cX12_fillsWorth 130 = .ok (.istore 6, 2) := by decide +kernel
theorem dX12_fillsWorth_132 : decode cX12_fillsWorth 132 = .ok (.iload 6, 2) := by decide +kernel
theorem dX12_fillsWorth_134 : decode cX12_fillsWorth 134 = .ok (.aload_n 0, 1) := by decide +kernel
theorem dX12_fillsWorth_135 : decode cX12_fillsWorth 135 = .ok (.getfield 42, 3) := by decide +kernel
theorem dX12_fillsWorth_138 : decode cX12_fillsWorth 138 = .ok (.iload_n 1, 1) := by decide +kernel
theorem dX12_fillsWorth_139 : decode cX12_fillsWorth 139 = .ok (.iaload, 1) := by decide +kernel
theorem dX12_fillsWorth_140 : decode cX12_fillsWorth 140 = .ok (.if_icmp .gt 6, 3) := by decide +kernel
theorem dX12_fillsWorth_143 : decode cX12_fillsWorth 143 = .ok (.goto 19, 3) := by decide +kernel
theorem dX12_fillsWorth_146 : decode cX12_fillsWorth 146 = .ok (.aload_n 0, 1) := by decide +kernel
theorem dX12_fillsWorth_147 : decode cX12_fillsWorth 147 = .ok (.getfield 42, 3) := by decide +kernel
theorem dX12_fillsWorth_150 : decode cX12_fillsWorth 150 = .ok (.iload_n 1, 1) := by decide +kernel
theorem dX12_fillsWorth_151 : decode cX12_fillsWorth 151 = .ok (.iload 6, 2) := by decide +kernel
theorem dX12_fillsWorth_153 : decode cX12_fillsWorth 153 = .ok (.iastore, 1) := by decide +kernel
theorem dX12_fillsWorth_154 : decode cX12_fillsWorth 154 = .ok (.aload_n 0, 1) := by decide +kernel
theorem dX12_fillsWorth_155 : decode cX12_fillsWorth 155 = .ok (.getfield 45, 3) := by decide +kernel
theorem dX12_fillsWorth_158 : decode cX12_fillsWorth 158 = .ok (.iload_n 1, 1) := by decide +kernel
theorem dX12_fillsWorth_159 : decode cX12_fillsWorth 159 = .ok (.iload 4, 2) := by decide +kernel
theorem dX12_fillsWorth_161 : decode cX12_fillsWorth 161 = .ok (.iastore, 1) := by decide +kernel
theorem dX12_fillsWorth_162 : decode cX12_fillsWorth 162 = .ok (.iinc 4 1, 3) := by decide +kernel
theorem dX12_fillsWorth_165 : decode cX12_fillsWorth 165 = .ok (.goto (-103), 3) := by decide +kernel
theorem dX12_fillsWorth_168 : decode cX12_fillsWorth 168 = .ok (.iinc 1 1, 3) := by decide +kernel
theorem dX12_fillsWorth_171 : decode cX12_fillsWorth 171 = .ok (.goto (-162), 3) := by decide +kernel
theorem dX12_fillsWorth_174 : decode cX12_fillsWorth 174 = .ok (.return_, 1) := by decide +kernel
set_option maxHeartbeats 4000000 in
set_option maxRecDepth 100000 in
theorem c_X12_fillsWorth (l : Launch) (D : va_G) (cs : Nat → ClassId) (kK kV : Nat → Nat) (a : Nat) (a_said : Nat) (a_said_c : Nat → Int32) (a_tape : Nat) (a__taped : Int32) (a__rules : Int32) (a_sign : Nat) (a_length : Nat) (a_clause : Nat) (a_clauses : Nat) (a_read : Nat) (a__next : Int32) (a__wrong : Int32) (a__number : Int32) (a__text : Int32) (a__made : Int32) (a__deep : Int32) (a__lines : Int32) (a_open : Nat) (a__opened : Int32) (a_stack : Nat) (a__top : Int32) (a_word : Nat) (a__x : Int32) (a_worth : Nat) (a_mate : Nat) (a_wasSaid : Nat) (a__undone : Int32) (a__boughtNow : Int32) (a_wayBy : Nat) (a_wayThen : Nat) (a__walkMost : Int32) (a__walkGoing : Int32) (a__walkSet : Int32) (a_kept : Nat) (a__drawX : Int64) (a_images : Nat) (a_imageX : Nat) (a_isMade : Nat) (a_worth_c : Nat → Int32) (a_mate_c : Nat → Int32) (h_a__taped : IV 0 400 a__taped) (h_a__rules : IV 0 6 a__rules) (h_a__next : IV 0 400 a__next) (h_a__text : IV 0 6 a__text) (h_a__made : IV 0 60 a__made) (h_a__lines : IV 0 40 a__lines) (h_a__opened : IV 0 400 a__opened) (h_a__top : IV 0 64 a__top) (h_a__x : IV 0 2147483647 a__x) (h_a__undone : IV 0 20 a__undone) (h_a_mate_c : CI 4096 (-1) 11 a_mate_c) (hf0 : BS a_said_c 200) (sz : Nat) : Met l yX12_fillsWorth (hz_w yX12_fillsWorth cX12_fillsWorth 7 none) ({ frames := 3, cells := 0, slots := 0, locals := 67 }) (va_Pc [.ref a] (hz_C D cs kK kV sz [(a_said, .inl (cs 0, 123, .inl a_said_c)), (a, .inr (12, [.ref a_tape, .int a__taped, .int a__rules, .ref a_sign, .ref a_length, .ref a_clause, .ref a_clauses, .ref a_read, .int a__next, .int a__wrong, .int a__number, .int a__text, .int a__made, .int a__deep, .int a__lines, .ref a_open, .int a__opened, .ref a_stack, .int a__top, .ref a_word, .ref a_said, .int a__x, .ref a_worth, .ref a_mate, .ref a_wasSaid, .int a__undone, .int a__boughtNow, .ref a_wayBy, .ref a_wayThen, .int a__walkMost, .int a__walkGoing, .int a__walkSet, .ref a_kept, .long a__drawX, .ref a_images, .ref a_imageX, .ref a_isMade])), (a_worth, .inl (cs 0, 4096, .inl a_worth_c)), (a_mate, .inl (cs 0, 4096, .inl a_mate_c))])) (va_Qv (fun (u : (Nat → Int32) × (Nat → Nat → Int32)) => (CI 4096 (-1) 11 (u.2 0))) (fun u t => va_P D classes [(a_said, .inl (cs 0, 123, .inl a_said_c)), (a, .inr (12, [.ref a_tape, .int a__taped, .int a__rules, .ref a_sign, .ref a_length, .ref a_clause, .ref a_clauses, .ref a_read, .int a__next, .int a__wrong, .int a__number, .int a__text, .int a__made, .int a__deep, .int a__lines, .ref a_open, .int a__opened, .ref a_stack, .int a__top, .ref a_word, .ref a_said, .int a__x, .ref a_worth, .ref a_mate, .ref a_wasSaid, .int a__undone, .int a__boughtNow, .ref a_wayBy, .ref a_wayThen, .int a__walkMost, .int a__walkGoing, .int a__walkSet, .ref a_kept, .long a__drawX, .ref a_images, .ref a_imageX, .ref a_isMade])), (a_worth, .inl (cs 0, 4096, .inl (u.2 1))), (a_mate, .inl (cs 0, 4096, .inl (u.2 0)))] t.heap ∧ va_D (va_A [(a_said, .inl (cs 0, 123, .inl a_said_c)), (a, .inr (12, [.ref a_tape, .int a__taped, .int a__rules, .ref a_sign, .ref a_length, .ref a_clause, .ref a_clauses, .ref a_read, .int a__next, .int a__wrong, .int a__number, .int a__text, .int a__made, .int a__deep, .int a__lines, .ref a_open, .int a__opened, .ref a_stack, .int a__top, .ref a_word, .ref a_said, .int a__x, .ref a_worth, .ref a_mate, .ref a_wasSaid, .int a__undone, .int a__boughtNow, .ref a_wayBy, .ref a_wayThen, .int a__walkMost, .int a__walkGoing, .int a__walkSet, .ref a_kept, .long a__drawX, .ref a_images, .ref a_imageX, .ref a_isMade])), (a_worth, .inl (cs 0, 4096, .inl a_worth_c)), (a_mate, .inl (cs 0, 4096, .inl a_mate_c))] sz) [(a_said, .inl (cs 0, 123, .inl a_said_c)), (a, .inr (12, [.ref a_tape, .int a__taped, .int a__rules, .ref a_sign, .ref a_length, .ref a_clause, .ref a_clauses, .ref a_read, .int a__next, .int a__wrong, .int a__number, .int a__text, .int a__made, .int a__deep, .int a__lines, .ref a_open, .int a__opened, .ref a_stack, .int a__top, .ref a_word, .ref a_said, .int a__x, .ref a_worth, .ref a_mate, .ref a_wasSaid, .int a__undone, .int a__boughtNow, .ref a_wayBy, .ref a_wayThen, .int a__walkMost, .int a__walkGoing, .int a__walkSet, .ref a_kept, .long a__drawX, .ref a_images, .ref a_imageX, .ref a_isMade])), (a_worth, .inl (cs 0, 4096, .inl (u.2 1))), (a_mate, .inl (cs 0, 4096, .inl (u.2 0)))]) (va_A [(a_said, .inl (cs 0, 123, .inl a_said_c)), (a, .inr (12, [.ref a_tape, .int a__taped, .int a__rules, .ref a_sign, .ref a_length, .ref a_clause, .ref a_clauses, .ref a_read, .int a__next, .int a__wrong, .int a__number, .int a__text, .int a__made, .int a__deep, .int a__lines, .ref a_open, .int a__opened, .ref a_stack, .int a__top, .ref a_word, .ref a_said, .int a__x, .ref a_worth, .ref a_mate, .ref a_wasSaid, .int a__undone, .int a__boughtNow, .ref a_wayBy, .ref a_wayThen, .int a__walkMost, .int a__walkGoing, .int a__walkSet, .ref a_kept, .long a__drawX, .ref a_images, .ref a_imageX, .ref a_isMade])), (a_worth, .inl (cs 0, 4096, .inl a_worth_c)), (a_mate, .inl (cs 0, 4096, .inl a_mate_c))] sz)) 0 0 (va_A [(a_said, .inl (cs 0, 123, .inl a_said_c)), (a, .inr (12, [.ref a_tape, .int a__taped, .int a__rules, .ref a_sign, .ref a_length, .ref a_clause, .ref a_clauses, .ref a_read, .int a__next, .int a__wrong, .int a__number, .int a__text, .int a__made, .int a__deep, .int a__lines, .ref a_open, .int a__opened, .ref a_stack, .int a__top, .ref a_word, .ref a_said, .int a__x, .ref a_worth, .ref a_mate, .ref a_wasSaid, .int a__undone, .int a__boughtNow, .ref a_wayBy, .ref a_wayThen, .int a__walkMost, .int a__walkGoing, .int a__walkSet, .ref a_kept, .long a__drawX, .ref a_images, .ref a_imageX, .ref a_isMade])), (a_worth, .inl (cs 0, 4096, .inl a_worth_c)), (a_mate, .inl (cs 0, 4096, .inl a_mate_c))] sz) := by
  refine Met.ofW (cc := cX12_fillsWorth) (maxL := 7) (ret := none) (by decide) rfl ?_
  intro p e s m args below meth c s₁ B hml hv
  obtain ⟨rfl, hsz, hP, hD0, hE⟩ := hv
  have hx := B.exec
  have hb := B.bytes
  have hr := B.returns
  have hT : ∀ w ∈ TB, w.before _ s = true := fun w h => atoms_spec (ws := hz_w yX12_fillsWorth cX12_fillsWorth 7 none) B.pre w (List.mem_cons_of_mem _ h)
  have hown : s.vm.findClass RX12 = some m.cls := findClass_of_methodNamed B.named
  have hlocks := B.notSynchronized
  clear B
  subst hsz
  have hD := hD0.self (sz := s.heap.size)
  generalize hAe : va_A [(a_said, .inl (cs 0, 123, .inl a_said_c)), (a, .inr (12, [.ref a_tape, .int a__taped, .int a__rules, .ref a_sign, .ref a_length, .ref a_clause, .ref a_clauses, .ref a_read, .int a__next, .int a__wrong, .int a__number, .int a__text, .int a__made, .int a__deep, .int a__lines, .ref a_open, .int a__opened, .ref a_stack, .int a__top, .ref a_word, .ref a_said, .int a__x, .ref a_worth, .ref a_mate, .ref a_wasSaid, .int a__undone, .int a__boughtNow, .ref a_wayBy, .ref a_wayThen, .int a__walkMost, .int a__walkGoing, .int a__walkSet, .ref a_kept, .long a__drawX, .ref a_images, .ref a_imageX, .ref a_isMade])), (a_worth, .inl (cs 0, 4096, .inl a_worth_c)), (a_mate, .inl (cs 0, 4096, .inl a_mate_c))] s.heap.size = A at hD hE ⊢
  have hA : ∀ q : Nat, s.heap.size ≤ q → A q := fun q h => by rw [← hAe]; exact Or.inr h
  clear hAe hD0
  have hS : va_S A s.heap s.heap [] := va_S.rf
  have hK := hE.1
  have hl := lv_entry ([.ref a]) (n := 7) (Nat.le_of_ble_eq_true rfl)
  rw [lg_entry_eq]
  generalize (lg_sl ([.ref a]) ++ List.replicate (7 - (lg_sl ([.ref a])).length) Slot.unset).toArray = ls at hl ⊢
  have hl : lv_has ls 7 [(0, .ref a)] := hl
  obtain ⟨H, eH⟩ : ∃ z, z = s.heap := ⟨_, rfl⟩
  have hP : va_P D classes [(a_said, .inl (cs 0, 123, .inl a_said_c)), (a, .inr (12, [.ref a_tape, .int a__taped, .int a__rules, .ref a_sign, .ref a_length, .ref a_clause, .ref a_clauses, .ref a_read, .int a__next, .int a__wrong, .int a__number, .int a__text, .int a__made, .int a__deep, .int a__lines, .ref a_open, .int a__opened, .ref a_stack, .int a__top, .ref a_word, .ref a_said, .int a__x, .ref a_worth, .ref a_mate, .ref a_wasSaid, .int a__undone, .int a__boughtNow, .ref a_wayBy, .ref a_wayThen, .int a__walkMost, .int a__walkGoing, .int a__walkSet, .ref a_kept, .long a__drawX, .ref a_images, .ref a_imageX, .ref a_isMade])), (a_worth, .inl (cs 0, 4096, .inl a_worth_c)), (a_mate, .inl (cs 0, 4096, .inl a_mate_c))] H := by rw [eH]; exact hP
  have hS : va_S A s.heap H [] := by rw [eH]; exact hS
  rw [← eH]
  clear eH
  obtain ⟨locs, el⟩ : ∃ z : List Loc, z = [] := ⟨_, rfl⟩
  rw [← el] at hS ⊢
  clear el
  have z0 : (0 : Int32).toInt = 0 := by decide
  have z1 : (1 : Int32).toInt = 1 := by decide
  have zm1 : (-1 : Int32).toInt = -1 := by decide
  have i_a__lines : 0 ≤ a__lines.toInt ∧ a__lines.toInt ≤ 40 := h_a__lines
  have i_a__made : 0 ≤ a__made.toInt ∧ a__made.toInt ≤ 60 := h_a__made
  have i_a__next : 0 ≤ a__next.toInt ∧ a__next.toInt ≤ 400 := h_a__next
  have i_a__opened : 0 ≤ a__opened.toInt ∧ a__opened.toInt ≤ 400 := h_a__opened
  have i_a__rules : 0 ≤ a__rules.toInt ∧ a__rules.toInt ≤ 6 := h_a__rules
  have i_a__taped : 0 ≤ a__taped.toInt ∧ a__taped.toInt ≤ 400 := h_a__taped
  have i_a__text : 0 ≤ a__text.toInt ∧ a__text.toInt ≤ 6 := h_a__text
  have i_a__top : 0 ≤ a__top.toInt ∧ a__top.toInt ≤ 64 := h_a__top
  have i_a__undone : 0 ≤ a__undone.toInt ∧ a__undone.toInt ≤ 20 := h_a__undone
  have i_a__x : 0 ≤ a__x.toInt ∧ a__x.toInt ≤ 2147483647 := h_a__x
  have K9 : ∀ (n : Nat) (k9_L_1 : Int32) (k9_C_a_worth : Nat → Int32) (k9_C_a_mate : Nat → Int32), (4096 - k9_L_1.toInt + 1).toNat ≤ n → IV 1 4096 k9_L_1 → CI 4096 (-1) 11 k9_C_a_mate → ∀ (H : Heap) (locs : List Loc), va_P D classes [(a_said, .inl (cs 0, 123, .inl a_said_c)), (a, .inr (12, [.ref a_tape, .int a__taped, .int a__rules, .ref a_sign, .ref a_length, .ref a_clause, .ref a_clauses, .ref a_read, .int a__next, .int a__wrong, .int a__number, .int a__text, .int a__made, .int a__deep, .int a__lines, .ref a_open, .int a__opened, .ref a_stack, .int a__top, .ref a_word, .ref a_said, .int a__x, .ref a_worth, .ref a_mate, .ref a_wasSaid, .int a__undone, .int a__boughtNow, .ref a_wayBy, .ref a_wayThen, .int a__walkMost, .int a__walkGoing, .int a__walkSet, .ref a_kept, .long a__drawX, .ref a_images, .ref a_imageX, .ref a_isMade])), (a_worth, .inl (cs 0, 4096, .inl k9_C_a_worth)), (a_mate, .inl (cs 0, 4096, .inl k9_C_a_mate))] H → va_D A [(a_said, .inl (cs 0, 123, .inl a_said_c)), (a, .inr (12, [.ref a_tape, .int a__taped, .int a__rules, .ref a_sign, .ref a_length, .ref a_clause, .ref a_clauses, .ref a_read, .int a__next, .int a__wrong, .int a__number, .int a__text, .int a__made, .int a__deep, .int a__lines, .ref a_open, .int a__opened, .ref a_stack, .int a__top, .ref a_word, .ref a_said, .int a__x, .ref a_worth, .ref a_mate, .ref a_wasSaid, .int a__undone, .int a__boughtNow, .ref a_wayBy, .ref a_wayThen, .int a__walkMost, .int a__walkGoing, .int a__walkSet, .ref a_kept, .long a__drawX, .ref a_images, .ref a_imageX, .ref a_isMade])), (a_worth, .inl (cs 0, 4096, .inl k9_C_a_worth)), (a_mate, .inl (cs 0, 4096, .inl k9_C_a_mate))] → va_S A s.heap H locs → ∀ ls : Array Slot, lv_has ls 7 [(1, .int k9_L_1), (0, .ref a)] → W p l e (headSpec (hz_w yX12_fillsWorth cX12_fillsWorth 7 none) ({ frames := 3, cells := 0, slots := 0, locals := 67 })).room s m [.ref a].toArray below meth c H locs 0 0 (MQ below (va_Qv (fun (u : (Nat → Int32) × (Nat → Nat → Int32)) => (CI 4096 (-1) 11 (u.2 0))) (fun u t => va_P D classes [(a_said, .inl (cs 0, 123, .inl a_said_c)), (a, .inr (12, [.ref a_tape, .int a__taped, .int a__rules, .ref a_sign, .ref a_length, .ref a_clause, .ref a_clauses, .ref a_read, .int a__next, .int a__wrong, .int a__number, .int a__text, .int a__made, .int a__deep, .int a__lines, .ref a_open, .int a__opened, .ref a_stack, .int a__top, .ref a_word, .ref a_said, .int a__x, .ref a_worth, .ref a_mate, .ref a_wasSaid, .int a__undone, .int a__boughtNow, .ref a_wayBy, .ref a_wayThen, .int a__walkMost, .int a__walkGoing, .int a__walkSet, .ref a_kept, .long a__drawX, .ref a_images, .ref a_imageX, .ref a_isMade])), (a_worth, .inl (cs 0, 4096, .inl (u.2 1))), (a_mate, .inl (cs 0, 4096, .inl (u.2 0)))] t.heap ∧ va_D A [(a_said, .inl (cs 0, 123, .inl a_said_c)), (a, .inr (12, [.ref a_tape, .int a__taped, .int a__rules, .ref a_sign, .ref a_length, .ref a_clause, .ref a_clauses, .ref a_read, .int a__next, .int a__wrong, .int a__number, .int a__text, .int a__made, .int a__deep, .int a__lines, .ref a_open, .int a__opened, .ref a_stack, .int a__top, .ref a_word, .ref a_said, .int a__x, .ref a_worth, .ref a_mate, .ref a_wasSaid, .int a__undone, .int a__boughtNow, .ref a_wayBy, .ref a_wayThen, .int a__walkMost, .int a__walkGoing, .int a__walkSet, .ref a_kept, .long a__drawX, .ref a_images, .ref a_imageX, .ref a_isMade])), (a_worth, .inl (cs 0, 4096, .inl (u.2 1))), (a_mate, .inl (cs 0, 4096, .inl (u.2 0)))]) A) [.ref a].toArray s 0 0 A) (F0 m 9 ls []) := by
    intro n
    induction n with
    | zero =>
      intro k9_L_1 k9_C_a_worth k9_C_a_mate hn q9_10 z9_0 H locs hP hD hS ls hl
      exact absurd hn (by unfold IV at q9_10; omega)
    | succ n ih9 =>
      intro k9_L_1 k9_C_a_worth k9_C_a_mate hn q9_10 z9_0 H locs hP hD hS ls hl
      have i_a__lines : 0 ≤ a__lines.toInt ∧ a__lines.toInt ≤ 40 := h_a__lines
      have i_a__made : 0 ≤ a__made.toInt ∧ a__made.toInt ≤ 60 := h_a__made
      have i_a__next : 0 ≤ a__next.toInt ∧ a__next.toInt ≤ 400 := h_a__next
      have i_a__opened : 0 ≤ a__opened.toInt ∧ a__opened.toInt ≤ 400 := h_a__opened
      have i_a__rules : 0 ≤ a__rules.toInt ∧ a__rules.toInt ≤ 6 := h_a__rules
      have i_a__taped : 0 ≤ a__taped.toInt ∧ a__taped.toInt ≤ 400 := h_a__taped
      have i_a__text : 0 ≤ a__text.toInt ∧ a__text.toInt ≤ 6 := h_a__text
      have i_a__top : 0 ≤ a__top.toInt ∧ a__top.toInt ≤ 64 := h_a__top
      have i_a__undone : 0 ≤ a__undone.toInt ∧ a__undone.toInt ≤ 20 := h_a__undone
      have i_a__x : 0 ≤ a__x.toInt ∧ a__x.toInt ≤ 2147483647 := h_a__x
      have i_k9_L_1 : 1 ≤ k9_L_1.toInt ∧ k9_L_1.toInt ≤ 4096 := q9_10
      have K62 : ∀ (n : Nat) (k62_L_4 : Int32) (k62_L_3 : Int32) (k62_L_2 : Int32) (k62_C_a_worth : Nat → Int32) (k62_C_a_mate : Nat → Int32), (12 - k62_L_4.toInt + 1).toNat ≤ n → IV 0 11 k62_L_2 → IV 0 4095 k62_L_3 → IV 1 12 k62_L_4 → IV 1 4095 k9_L_1 → CI 4096 (-1) 11 k62_C_a_mate → ∀ (H : Heap) (locs : List Loc), va_P D classes [(a_said, .inl (cs 0, 123, .inl a_said_c)), (a, .inr (12, [.ref a_tape, .int a__taped, .int a__rules, .ref a_sign, .ref a_length, .ref a_clause, .ref a_clauses, .ref a_read, .int a__next, .int a__wrong, .int a__number, .int a__text, .int a__made, .int a__deep, .int a__lines, .ref a_open, .int a__opened, .ref a_stack, .int a__top, .ref a_word, .ref a_said, .int a__x, .ref a_worth, .ref a_mate, .ref a_wasSaid, .int a__undone, .int a__boughtNow, .ref a_wayBy, .ref a_wayThen, .int a__walkMost, .int a__walkGoing, .int a__walkSet, .ref a_kept, .long a__drawX, .ref a_images, .ref a_imageX, .ref a_isMade])), (a_worth, .inl (cs 0, 4096, .inl k62_C_a_worth)), (a_mate, .inl (cs 0, 4096, .inl k62_C_a_mate))] H → va_D A [(a_said, .inl (cs 0, 123, .inl a_said_c)), (a, .inr (12, [.ref a_tape, .int a__taped, .int a__rules, .ref a_sign, .ref a_length, .ref a_clause, .ref a_clauses, .ref a_read, .int a__next, .int a__wrong, .int a__number, .int a__text, .int a__made, .int a__deep, .int a__lines, .ref a_open, .int a__opened, .ref a_stack, .int a__top, .ref a_word, .ref a_said, .int a__x, .ref a_worth, .ref a_mate, .ref a_wasSaid, .int a__undone, .int a__boughtNow, .ref a_wayBy, .ref a_wayThen, .int a__walkMost, .int a__walkGoing, .int a__walkSet, .ref a_kept, .long a__drawX, .ref a_images, .ref a_imageX, .ref a_isMade])), (a_worth, .inl (cs 0, 4096, .inl k62_C_a_worth)), (a_mate, .inl (cs 0, 4096, .inl k62_C_a_mate))] → va_S A s.heap H locs → ∀ ls : Array Slot, lv_has ls 7 [(4, .int k62_L_4), (3, .int k62_L_3), (2, .int k62_L_2), (1, .int k9_L_1), (0, .ref a)] → W p l e (headSpec (hz_w yX12_fillsWorth cX12_fillsWorth 7 none) ({ frames := 3, cells := 0, slots := 0, locals := 67 })).room s m [.ref a].toArray below meth c H locs 0 0 (MQ below (va_Qv (fun (u : (Nat → Int32) × (Nat → Nat → Int32)) => (CI 4096 (-1) 11 (u.2 0))) (fun u t => va_P D classes [(a_said, .inl (cs 0, 123, .inl a_said_c)), (a, .inr (12, [.ref a_tape, .int a__taped, .int a__rules, .ref a_sign, .ref a_length, .ref a_clause, .ref a_clauses, .ref a_read, .int a__next, .int a__wrong, .int a__number, .int a__text, .int a__made, .int a__deep, .int a__lines, .ref a_open, .int a__opened, .ref a_stack, .int a__top, .ref a_word, .ref a_said, .int a__x, .ref a_worth, .ref a_mate, .ref a_wasSaid, .int a__undone, .int a__boughtNow, .ref a_wayBy, .ref a_wayThen, .int a__walkMost, .int a__walkGoing, .int a__walkSet, .ref a_kept, .long a__drawX, .ref a_images, .ref a_imageX, .ref a_isMade])), (a_worth, .inl (cs 0, 4096, .inl (u.2 1))), (a_mate, .inl (cs 0, 4096, .inl (u.2 0)))] t.heap ∧ va_D A [(a_said, .inl (cs 0, 123, .inl a_said_c)), (a, .inr (12, [.ref a_tape, .int a__taped, .int a__rules, .ref a_sign, .ref a_length, .ref a_clause, .ref a_clauses, .ref a_read, .int a__next, .int a__wrong, .int a__number, .int a__text, .int a__made, .int a__deep, .int a__lines, .ref a_open, .int a__opened, .ref a_stack, .int a__top, .ref a_word, .ref a_said, .int a__x, .ref a_worth, .ref a_mate, .ref a_wasSaid, .int a__undone, .int a__boughtNow, .ref a_wayBy, .ref a_wayThen, .int a__walkMost, .int a__walkGoing, .int a__walkSet, .ref a_kept, .long a__drawX, .ref a_images, .ref a_imageX, .ref a_isMade])), (a_worth, .inl (cs 0, 4096, .inl (u.2 1))), (a_mate, .inl (cs 0, 4096, .inl (u.2 0)))]) A) [.ref a].toArray s 0 0 A) (F0 m 62 ls []) := by
        intro n
        induction n with
        | zero =>
          intro k62_L_4 k62_L_3 k62_L_2 k62_C_a_worth k62_C_a_mate hn q62_10 q62_11 q62_12 q62_13 z62_0 H locs hP hD hS ls hl
          exact absurd hn (by unfold IV at q62_12; omega)
        | succ n ih62 =>
          intro k62_L_4 k62_L_3 k62_L_2 k62_C_a_worth k62_C_a_mate hn q62_10 q62_11 q62_12 q62_13 z62_0 H locs hP hD hS ls hl
          have i_a__lines : 0 ≤ a__lines.toInt ∧ a__lines.toInt ≤ 40 := h_a__lines
          have i_a__made : 0 ≤ a__made.toInt ∧ a__made.toInt ≤ 60 := h_a__made
          have i_a__next : 0 ≤ a__next.toInt ∧ a__next.toInt ≤ 400 := h_a__next
          have i_a__opened : 0 ≤ a__opened.toInt ∧ a__opened.toInt ≤ 400 := h_a__opened
          have i_a__rules : 0 ≤ a__rules.toInt ∧ a__rules.toInt ≤ 6 := h_a__rules
          have i_a__taped : 0 ≤ a__taped.toInt ∧ a__taped.toInt ≤ 400 := h_a__taped
          have i_a__text : 0 ≤ a__text.toInt ∧ a__text.toInt ≤ 6 := h_a__text
          have i_a__top : 0 ≤ a__top.toInt ∧ a__top.toInt ≤ 64 := h_a__top
          have i_a__undone : 0 ≤ a__undone.toInt ∧ a__undone.toInt ≤ 20 := h_a__undone
          have i_a__x : 0 ≤ a__x.toInt ∧ a__x.toInt ≤ 2147483647 := h_a__x
          have i_k62_L_2 : 0 ≤ k62_L_2.toInt ∧ k62_L_2.toInt ≤ 11 := q62_10
          have i_k62_L_3 : 0 ≤ k62_L_3.toInt ∧ k62_L_3.toInt ≤ 4095 := q62_11
          have i_k62_L_4 : 1 ≤ k62_L_4.toInt ∧ k62_L_4.toInt ≤ 12 := q62_12
          have i_k9_L_1 : 1 ≤ k9_L_1.toInt ∧ k9_L_1.toInt ≤ 4095 := q62_13
          refine lv_iload hx hb dX12_fillsWorth_62 (lv_at hl 0 rfl) ?_
          refine lv_aload_n hx hb dX12_fillsWorth_64 rfl (lv_at hl 4 rfl) ?_
          refine va_get (D := D) (ci := 12) (v := .ref a_said) (C := RX12) (T := TX12) (N := 37) hx hb hT i_X12 hown hK hP 1 rfl rfl 20 (by decide) (hT _ q_185) (fun _ h9 => h9) rfl dX12_fillsWorth_65 ?_
          refine lv_iconst (v := 1) hx hb dX12_fillsWorth_68 (by decide) ?_
          refine va_iald hx hb hK hP 0 0 rfl rfl (iv_vc (by decide)) dX12_fillsWorth_69 ?_
          refine lv_topi (fun v1 ev1 => ?_)
          have h2 : IV 0 12 v1 := (by rw [ev1]; exact bs_i1 hf0)
          have ii3 : 0 ≤ v1.toInt ∧ v1.toInt ≤ 12 := h2
          have lv1 : v1.toInt = (a_said_c 1).toInt := by rw [ev1]; rfl
          refine lv_icmp_ge (tgt := 168) hx hb dX12_fillsWorth_70 (by decide) (fun c4 => ?_) (fun c4 => ?_)
          · have t5 : k62_L_4.toInt ≥ v1.toInt := lin_ge c4 rfl rfl
            obtain ⟨v6, ev6⟩ : ∃ z : Int32, z = k9_L_1 + 1 := ⟨_, rfl⟩
            have hv6 : IV 2 4096 v6 := iv_add ev6 q62_13 (iv_c (a := 1) (b := 1) (by decide)) (by decide) (by decide)
            have dv6 : v6.toInt = k9_L_1.toInt + 1 := iv_addE ev6 q62_13 (iv_c (a := 1) (b := 1) (by decide)) (by decide) (by decide) (by decide)
            refine lv_iinc (v := v6) (lv' := [(1, .int v6), (4, .int k62_L_4), (3, .int k62_L_3), (2, .int k62_L_2), (0, .ref a)]) hx hb dX12_fillsWorth_168 hl (k := 3) rfl (by rw [ev6]; rfl) (by decide) rfl (fun ls hl => ?_)
            refine lv_goto (tgt := 9) hx hb dX12_fillsWorth_171 (by decide) ?_
            exact ih9 v6 k62_C_a_worth k62_C_a_mate (by have h9 := q62_13; unfold IV at h9; have := dv6; omega) (iv_w hv6 (by decide) (by decide)) z62_0 H locs (hP.sub (ws' := [(a_said, .inl (cs 0, 123, .inl a_said_c)), (a, .inr (12, [.ref a_tape, .int a__taped, .int a__rules, .ref a_sign, .ref a_length, .ref a_clause, .ref a_clauses, .ref a_read, .int a__next, .int a__wrong, .int a__number, .int a__text, .int a__made, .int a__deep, .int a__lines, .ref a_open, .int a__opened, .ref a_stack, .int a__top, .ref a_word, .ref a_said, .int a__x, .ref a_worth, .ref a_mate, .ref a_wasSaid, .int a__undone, .int a__boughtNow, .ref a_wayBy, .ref a_wayThen, .int a__walkMost, .int a__walkGoing, .int a__walkSet, .ref a_kept, .long a__drawX, .ref a_images, .ref a_imageX, .ref a_isMade])), (a_worth, .inl (cs 0, 4096, .inl k62_C_a_worth)), (a_mate, .inl (cs 0, 4096, .inl k62_C_a_mate))]) [0, 1, 2, 3] rfl) (hD.sub (ws' := [(a_said, .inl (cs 0, 123, .inl a_said_c)), (a, .inr (12, [.ref a_tape, .int a__taped, .int a__rules, .ref a_sign, .ref a_length, .ref a_clause, .ref a_clauses, .ref a_read, .int a__next, .int a__wrong, .int a__number, .int a__text, .int a__made, .int a__deep, .int a__lines, .ref a_open, .int a__opened, .ref a_stack, .int a__top, .ref a_word, .ref a_said, .int a__x, .ref a_worth, .ref a_mate, .ref a_wasSaid, .int a__undone, .int a__boughtNow, .ref a_wayBy, .ref a_wayThen, .int a__walkMost, .int a__walkGoing, .int a__walkSet, .ref a_kept, .long a__drawX, .ref a_images, .ref a_imageX, .ref a_isMade])), (a_worth, .inl (cs 0, 4096, .inl k62_C_a_worth)), (a_mate, .inl (cs 0, 4096, .inl k62_C_a_mate))]) [0, 1, 2, 3] (by decide) rfl) hS ls (lv_sub hl [0, 4] rfl)
          · have t7 : k62_L_4.toInt < v1.toInt := lin_geN c4 rfl rfl
            have h8 : IV 1 11 k62_L_4 := iv_lt1 (Int32.not_le.mp c4) q62_12 h2 (by decide)
            have ii9 : 1 ≤ k62_L_4.toInt ∧ k62_L_4.toInt ≤ 11 := h8
            have h10 : IV 2 12 v1 := iv_lt2 (Int32.not_le.mp c4) q62_12 h2 (by decide)
            have ii11 : 2 ≤ v1.toInt ∧ v1.toInt ≤ 12 := h10
            refine lv_iload_n hx hb dX12_fillsWorth_73 rfl (lv_at hl 1 rfl) ?_
            refine lv_iload hx hb dX12_fillsWorth_74 (lv_at hl 0 rfl) ?_
            refine va_calli (va_runS (As := [.int k62_L_3, .int k62_L_4]) (rest := []) ⟨hx, hb, hml, hown, hT⟩ (c_X12_isOf l D cs kK kV k62_L_3 k62_L_4) (va_cwS 2 hT (hz_gS q_1034 q_1035 q_701 q_1036) rfl rfl rfl (by decide +kernel) ⟨(Nat.le_of_ble_eq_true rfl), (Nat.le_of_ble_eq_true rfl)⟩) ⟨hz_P.blind, hz_P.mk (hP.sub (ws' := []) [] rfl) hE hS⟩ rfl rfl hl.1 rfl (lv_room (Nat.le_of_ble_eq_true rfl)) dX12_fillsWorth_76 ⟨(Nat.le_of_ble_eq_true rfl), (Nat.le_of_ble_eq_true rfl)⟩) hS (fun _ _ h => h.elim) (fun _ h => h.elim) (fun r12 u t H1 locs ht hvm hw hB hz1 hk1 hS => ?_)
            have hP := hz_keep hP hk1
            clear hk1 hB hz1
            generalize H1 = H at hP hS ⊢
            rcases hw with ⟨rfl, x13⟩ | ⟨rfl, x14⟩
            · refine lv_if_eq (tgt := 92) hx hb dX12_fillsWorth_79 (by decide) (fun _ => ?_) (fun z => absurd (by decide) z)
              refine lv_iconst (v := 0) hx hb dX12_fillsWorth_92 (by decide) ?_
              refine lv_istore (lv' := [(5, .int 0), (4, .int k62_L_4), (3, .int k62_L_3), (2, .int k62_L_2), (1, .int k9_L_1), (0, .ref a)]) hx hb dX12_fillsWorth_93 hl (by decide) rfl (fun ls hl => ?_)
              refine lv_iload hx hb dX12_fillsWorth_95 (lv_at hl 0 rfl) ?_
              refine lv_if_ne (tgt := 103) hx hb dX12_fillsWorth_97 (by decide) (fun z => absurd (by decide) z) (fun _ => ?_)
              refine lv_goto (tgt := 162) hx hb dX12_fillsWorth_100 (by decide) ?_
              obtain ⟨v15, ev15⟩ : ∃ z : Int32, z = k62_L_4 + 1 := ⟨_, rfl⟩
              have hv15 : IV 2 12 v15 := iv_add ev15 h8 (iv_c (a := 1) (b := 1) (by decide)) (by decide) (by decide)
              have dv15 : v15.toInt = k62_L_4.toInt + 1 := iv_addE ev15 h8 (iv_c (a := 1) (b := 1) (by decide)) (by decide) (by decide) (by decide)
              refine lv_iinc (v := v15) (lv' := [(4, .int v15), (5, .int 0), (3, .int k62_L_3), (2, .int k62_L_2), (1, .int k9_L_1), (0, .ref a)]) hx hb dX12_fillsWorth_162 hl (k := 1) rfl (by rw [ev15]; rfl) (by decide) rfl (fun ls hl => ?_)
              refine lv_goto (tgt := 62) hx hb dX12_fillsWorth_165 (by decide) ?_
              exact ih62 v15 k62_L_3 k62_L_2 k62_C_a_worth k62_C_a_mate (by have h9 := h8; unfold IV at h9; have := dv15; omega) q62_10 q62_11 (iv_w hv15 (by decide) (by decide)) q62_13 z62_0 H locs (hP.sub (ws' := [(a_said, .inl (cs 0, 123, .inl a_said_c)), (a, .inr (12, [.ref a_tape, .int a__taped, .int a__rules, .ref a_sign, .ref a_length, .ref a_clause, .ref a_clauses, .ref a_read, .int a__next, .int a__wrong, .int a__number, .int a__text, .int a__made, .int a__deep, .int a__lines, .ref a_open, .int a__opened, .ref a_stack, .int a__top, .ref a_word, .ref a_said, .int a__x, .ref a_worth, .ref a_mate, .ref a_wasSaid, .int a__undone, .int a__boughtNow, .ref a_wayBy, .ref a_wayThen, .int a__walkMost, .int a__walkGoing, .int a__walkSet, .ref a_kept, .long a__drawX, .ref a_images, .ref a_imageX, .ref a_isMade])), (a_worth, .inl (cs 0, 4096, .inl k62_C_a_worth)), (a_mate, .inl (cs 0, 4096, .inl k62_C_a_mate))]) [0, 1, 2, 3] rfl) (hD.sub (ws' := [(a_said, .inl (cs 0, 123, .inl a_said_c)), (a, .inr (12, [.ref a_tape, .int a__taped, .int a__rules, .ref a_sign, .ref a_length, .ref a_clause, .ref a_clauses, .ref a_read, .int a__next, .int a__wrong, .int a__number, .int a__text, .int a__made, .int a__deep, .int a__lines, .ref a_open, .int a__opened, .ref a_stack, .int a__top, .ref a_word, .ref a_said, .int a__x, .ref a_worth, .ref a_mate, .ref a_wasSaid, .int a__undone, .int a__boughtNow, .ref a_wayBy, .ref a_wayThen, .int a__walkMost, .int a__walkGoing, .int a__walkSet, .ref a_kept, .long a__drawX, .ref a_images, .ref a_imageX, .ref a_isMade])), (a_worth, .inl (cs 0, 4096, .inl k62_C_a_worth)), (a_mate, .inl (cs 0, 4096, .inl k62_C_a_mate))]) [0, 1, 2, 3] (by decide) rfl) hS ls (lv_sub hl [0, 2, 3, 4, 5] rfl)
            · refine lv_if_eq (tgt := 92) hx hb dX12_fillsWorth_79 (by decide) (fun z => absurd z (by decide)) (fun _ => ?_)
              refine lv_aload_n hx hb dX12_fillsWorth_82 rfl (lv_at hl 4 rfl) ?_
              refine lv_iload_n hx hb dX12_fillsWorth_83 rfl (lv_at hl 2 rfl) ?_
              refine lv_iload hx hb dX12_fillsWorth_84 (lv_at hl 0 rfl) ?_
              refine va_calli (va_runV (As := [.int k62_L_2, .int k62_L_4]) (rest := []) ⟨hx, hb, hml, hown, hT⟩ (c_X12_fitOf l D cs kK kV a k62_L_2 k62_L_4 a_tape a__taped a__rules a_sign a_length a_clause a_clauses a_read a__next a__wrong a__number a__text a__made a__deep a__lines a_open a__opened a_stack a__top a_word a_said a__x a_worth a_mate a_wasSaid a__undone a__boughtNow a_wayBy a_wayThen a__walkMost a__walkGoing a__walkSet a_kept a__drawX a_images a_imageX a_isMade a_said_c q62_10 ((iv_w h8 (by decide) (by decide))) h_a__taped h_a__rules h_a__next h_a__text h_a__made h_a__lines h_a__opened h_a__top h_a__x h_a__undone) (cwV 2 hT (hz_gV q_1136 q_1137 q_1138 q_701 q_1139) rfl rfl rfl (by decide +kernel) ⟨(Nat.le_of_ble_eq_true rfl), (Nat.le_of_ble_eq_true rfl)⟩) ⟨hz_P.blind, va_recv hK hP (ci := 12) (q0 := 1) rfl rfl, hz_P.mk (hP.sub (ws' := [(a, .inr (12, [.ref a_tape, .int a__taped, .int a__rules, .ref a_sign, .ref a_length, .ref a_clause, .ref a_clauses, .ref a_read, .int a__next, .int a__wrong, .int a__number, .int a__text, .int a__made, .int a__deep, .int a__lines, .ref a_open, .int a__opened, .ref a_stack, .int a__top, .ref a_word, .ref a_said, .int a__x, .ref a_worth, .ref a_mate, .ref a_wasSaid, .int a__undone, .int a__boughtNow, .ref a_wayBy, .ref a_wayThen, .int a__walkMost, .int a__walkGoing, .int a__walkSet, .ref a_kept, .long a__drawX, .ref a_images, .ref a_imageX, .ref a_isMade])), (a_said, .inl (cs 0, 123, .inl a_said_c))]) [1,0] rfl) hE hS⟩ rfl rfl hl.1 rfl (lv_room (Nat.le_of_ble_eq_true rfl)) dX12_fillsWorth_86 ⟨(Nat.le_of_ble_eq_true rfl), (Nat.le_of_ble_eq_true rfl)⟩) hS (fun _ _ h => h.elim) (fun _ h => h.elim) (fun r16 u t H1 locs ht hvm hw hB hz1 hk1 hS => ?_)
              have hP := hz_keep hP hk1
              clear hk1 hB hz1
              generalize H1 = H at hP hS ⊢
              rcases hw with rfl | rfl | rfl
              · refine lv_goto (tgt := 93) hx hb dX12_fillsWorth_89 (by decide) ?_
                refine lv_istore (lv' := [(5, .int 0), (4, .int k62_L_4), (3, .int k62_L_3), (2, .int k62_L_2), (1, .int k9_L_1), (0, .ref a)]) hx hb dX12_fillsWorth_93 hl (by decide) rfl (fun ls hl => ?_)
                refine lv_iload hx hb dX12_fillsWorth_95 (lv_at hl 0 rfl) ?_
                refine lv_if_ne (tgt := 103) hx hb dX12_fillsWorth_97 (by decide) (fun z => absurd (by decide) z) (fun _ => ?_)
                refine lv_goto (tgt := 162) hx hb dX12_fillsWorth_100 (by decide) ?_
                obtain ⟨v17, ev17⟩ : ∃ z : Int32, z = k62_L_4 + 1 := ⟨_, rfl⟩
                have hv17 : IV 2 12 v17 := iv_add ev17 h8 (iv_c (a := 1) (b := 1) (by decide)) (by decide) (by decide)
                have dv17 : v17.toInt = k62_L_4.toInt + 1 := iv_addE ev17 h8 (iv_c (a := 1) (b := 1) (by decide)) (by decide) (by decide) (by decide)
                refine lv_iinc (v := v17) (lv' := [(4, .int v17), (5, .int 0), (3, .int k62_L_3), (2, .int k62_L_2), (1, .int k9_L_1), (0, .ref a)]) hx hb dX12_fillsWorth_162 hl (k := 1) rfl (by rw [ev17]; rfl) (by decide) rfl (fun ls hl => ?_)
                refine lv_goto (tgt := 62) hx hb dX12_fillsWorth_165 (by decide) ?_
                exact ih62 v17 k62_L_3 k62_L_2 k62_C_a_worth k62_C_a_mate (by have h9 := h8; unfold IV at h9; have := dv17; omega) q62_10 q62_11 (iv_w hv17 (by decide) (by decide)) q62_13 z62_0 H locs (hP.sub (ws' := [(a_said, .inl (cs 0, 123, .inl a_said_c)), (a, .inr (12, [.ref a_tape, .int a__taped, .int a__rules, .ref a_sign, .ref a_length, .ref a_clause, .ref a_clauses, .ref a_read, .int a__next, .int a__wrong, .int a__number, .int a__text, .int a__made, .int a__deep, .int a__lines, .ref a_open, .int a__opened, .ref a_stack, .int a__top, .ref a_word, .ref a_said, .int a__x, .ref a_worth, .ref a_mate, .ref a_wasSaid, .int a__undone, .int a__boughtNow, .ref a_wayBy, .ref a_wayThen, .int a__walkMost, .int a__walkGoing, .int a__walkSet, .ref a_kept, .long a__drawX, .ref a_images, .ref a_imageX, .ref a_isMade])), (a_worth, .inl (cs 0, 4096, .inl k62_C_a_worth)), (a_mate, .inl (cs 0, 4096, .inl k62_C_a_mate))]) [0, 1, 2, 3] rfl) (hD.sub (ws' := [(a_said, .inl (cs 0, 123, .inl a_said_c)), (a, .inr (12, [.ref a_tape, .int a__taped, .int a__rules, .ref a_sign, .ref a_length, .ref a_clause, .ref a_clauses, .ref a_read, .int a__next, .int a__wrong, .int a__number, .int a__text, .int a__made, .int a__deep, .int a__lines, .ref a_open, .int a__opened, .ref a_stack, .int a__top, .ref a_word, .ref a_said, .int a__x, .ref a_worth, .ref a_mate, .ref a_wasSaid, .int a__undone, .int a__boughtNow, .ref a_wayBy, .ref a_wayThen, .int a__walkMost, .int a__walkGoing, .int a__walkSet, .ref a_kept, .long a__drawX, .ref a_images, .ref a_imageX, .ref a_isMade])), (a_worth, .inl (cs 0, 4096, .inl k62_C_a_worth)), (a_mate, .inl (cs 0, 4096, .inl k62_C_a_mate))]) [0, 1, 2, 3] (by decide) rfl) hS ls (lv_sub hl [0, 2, 3, 4, 5] rfl)
              · refine lv_goto (tgt := 93) hx hb dX12_fillsWorth_89 (by decide) ?_
                refine lv_istore (lv' := [(5, .int 1), (4, .int k62_L_4), (3, .int k62_L_3), (2, .int k62_L_2), (1, .int k9_L_1), (0, .ref a)]) hx hb dX12_fillsWorth_93 hl (by decide) rfl (fun ls hl => ?_)
                refine lv_iload hx hb dX12_fillsWorth_95 (lv_at hl 0 rfl) ?_
                refine lv_if_ne (tgt := 103) hx hb dX12_fillsWorth_97 (by decide) (fun _ => ?_) (fun z => absurd z (by decide))
                refine lv_iload hx hb dX12_fillsWorth_103 (lv_at hl 0 rfl) ?_
                refine lv_iconst (v := 2) hx hb dX12_fillsWorth_105 (by decide) ?_
                refine lv_icmp_ne (tgt := 114) hx hb dX12_fillsWorth_106 (by decide) (fun _ => ?_) (fun z => absurd z (by decide))
                refine lv_bipush (v := 20) hx hb dX12_fillsWorth_114 (by decide) ?_
                refine lv_aload_n hx hb dX12_fillsWorth_116 rfl (lv_at hl 5 rfl) ?_
                refine va_get (D := D) (ci := 12) (v := .ref a_worth) (C := RX12) (T := TX12) (N := 37) hx hb hT i_X12 hown hK hP 1 rfl rfl 22 (by decide) (hT _ q_186) (fun _ h9 => h9) rfl dX12_fillsWorth_117 ?_
                refine lv_iload_n hx hb dX12_fillsWorth_120 rfl (lv_at hl 2 rfl) ?_
                refine lv_iconst (v := 1) hx hb dX12_fillsWorth_121 (by decide) ?_
                refine lv_iload hx hb dX12_fillsWorth_122 (lv_at hl 1 rfl) ?_
                refine lv_ishl hx hb dX12_fillsWorth_124 ?_
                refine lv_topi (fun v18 ev18 => ?_)
                have hv18 : IV 1 2048 v18 := iv_shl1 ev18 h8 (by decide) (by decide) (by decide)
                have ii19 : 1 ≤ v18.toInt ∧ v18.toInt ≤ 2048 := hv18
                refine lv_iconst (v := (-1)) hx hb dX12_fillsWorth_125 (by decide) ?_
                refine lv_ixor hx hb dX12_fillsWorth_126 ?_
                refine lv_topi (fun v20 ev20 => ?_)
                refine lv_iand hx hb dX12_fillsWorth_127 ?_
                refine lv_topi (fun v21 ev21 => ?_)
                have hv21 : IV 0 4095 v21 := iv_and1 ev21 q62_11
                have ii22 : 0 ≤ v21.toInt ∧ v21.toInt ≤ 4095 := hv21
                refine va_iald hx hb hK hP 2 0 rfl rfl (iv_v hv21 (by decide) (by decide)) dX12_fillsWorth_128 ?_
                refine lv_topi (fun v23 ev23 => ?_)
                have lv23 : v23.toInt = (k62_C_a_worth (Int32.toNatClampNeg v21)).toInt := by rw [ev23]
                refine lv_iadd hx hb dX12_fillsWorth_129 ?_
                refine lv_topi (fun v24 ev24 => ?_)
                refine lv_istore (lv' := [(6, .int v24), (5, .int 1), (4, .int k62_L_4), (3, .int k62_L_3), (2, .int k62_L_2), (1, .int k9_L_1), (0, .ref a)]) hx hb dX12_fillsWorth_130 hl (by decide) rfl (fun ls hl => ?_)
                refine lv_iload hx hb dX12_fillsWorth_132 (lv_at hl 0 rfl) ?_
                refine lv_aload_n hx hb dX12_fillsWorth_134 rfl (lv_at hl 6 rfl) ?_
                refine va_get (D := D) (ci := 12) (v := .ref a_worth) (C := RX12) (T := TX12) (N := 37) hx hb hT i_X12 hown hK hP 1 rfl rfl 22 (by decide) (hT _ q_186) (fun _ h9 => h9) rfl dX12_fillsWorth_135 ?_
                refine lv_iload_n hx hb dX12_fillsWorth_138 rfl (lv_at hl 5 rfl) ?_
                refine va_iald hx hb hK hP 2 0 rfl rfl (iv_v q62_13 (by decide) (by decide)) dX12_fillsWorth_139 ?_
                refine lv_topi (fun v25 ev25 => ?_)
                have lv25 : v25.toInt = (k62_C_a_worth (Int32.toNatClampNeg k9_L_1)).toInt := by rw [ev25]
                refine lv_icmp_gt (tgt := 146) hx hb dX12_fillsWorth_140 (by decide) (fun c26 => ?_) (fun c26 => ?_)
                · have t27 : v24.toInt > v25.toInt := lin_gt c26 rfl rfl
                  have h28 : IV (-2147483648) 2147483646 v25 := iv_lt1 c26 iv_top iv_top (by decide)
                  have ii29 : (-2147483648) ≤ v25.toInt ∧ v25.toInt ≤ 2147483646 := h28
                  have h30 : IV (-2147483647) 2147483647 v24 := iv_lt2 c26 iv_top iv_top (by decide)
                  have ii31 : (-2147483647) ≤ v24.toInt ∧ v24.toInt ≤ 2147483647 := h30
                  refine lv_aload_n hx hb dX12_fillsWorth_146 rfl (lv_at hl 6 rfl) ?_
                  refine va_get (D := D) (ci := 12) (v := .ref a_worth) (C := RX12) (T := TX12) (N := 37) hx hb hT i_X12 hown hK hP 1 rfl rfl 22 (by decide) (hT _ q_186) (fun _ h9 => h9) rfl dX12_fillsWorth_147 ?_
                  refine lv_iload_n hx hb dX12_fillsWorth_150 rfl (lv_at hl 5 rfl) ?_
                  refine lv_iload hx hb dX12_fillsWorth_151 (lv_at hl 0 rfl) ?_
                  refine va_iast hx hb hK hP hD hS 2 0 rfl rfl (iv_v q62_13 (by decide) (by decide)) dX12_fillsWorth_153 (fun H locs hP hD hS => ?_)
                  have hP : va_P D classes [(a_said, .inl (cs 0, 123, .inl a_said_c)), (a, .inr (12, [.ref a_tape, .int a__taped, .int a__rules, .ref a_sign, .ref a_length, .ref a_clause, .ref a_clauses, .ref a_read, .int a__next, .int a__wrong, .int a__number, .int a__text, .int a__made, .int a__deep, .int a__lines, .ref a_open, .int a__opened, .ref a_stack, .int a__top, .ref a_word, .ref a_said, .int a__x, .ref a_worth, .ref a_mate, .ref a_wasSaid, .int a__undone, .int a__boughtNow, .ref a_wayBy, .ref a_wayThen, .int a__walkMost, .int a__walkGoing, .int a__walkSet, .ref a_kept, .long a__drawX, .ref a_images, .ref a_imageX, .ref a_isMade])), (a_worth, .inl (cs 0, 4096, .inl (upd k62_C_a_worth (Int32.toNatClampNeg k9_L_1) v24))), (a_mate, .inl (cs 0, 4096, .inl k62_C_a_mate))] H := hP
                  have hD : va_D A [(a_said, .inl (cs 0, 123, .inl a_said_c)), (a, .inr (12, [.ref a_tape, .int a__taped, .int a__rules, .ref a_sign, .ref a_length, .ref a_clause, .ref a_clauses, .ref a_read, .int a__next, .int a__wrong, .int a__number, .int a__text, .int a__made, .int a__deep, .int a__lines, .ref a_open, .int a__opened, .ref a_stack, .int a__top, .ref a_word, .ref a_said, .int a__x, .ref a_worth, .ref a_mate, .ref a_wasSaid, .int a__undone, .int a__boughtNow, .ref a_wayBy, .ref a_wayThen, .int a__walkMost, .int a__walkGoing, .int a__walkSet, .ref a_kept, .long a__drawX, .ref a_images, .ref a_imageX, .ref a_isMade])), (a_worth, .inl (cs 0, 4096, .inl (upd k62_C_a_worth (Int32.toNatClampNeg k9_L_1) v24))), (a_mate, .inl (cs 0, 4096, .inl k62_C_a_mate))] := hD
                  obtain ⟨f32, uf32⟩ : ∃ z, z = upd k62_C_a_worth (Int32.toNatClampNeg k9_L_1) v24 := ⟨_, rfl⟩
                  rw [← uf32] at hP hD
                  have wf32 : (f32 (Int32.toNatClampNeg k9_L_1)).toInt = v24.toInt := lin_us uf32 rfl
                  refine lv_aload_n hx hb dX12_fillsWorth_154 rfl (lv_at hl 6 rfl) ?_
                  refine va_get (D := D) (ci := 12) (v := .ref a_mate) (C := RX12) (T := TX12) (N := 37) hx hb hT i_X12 hown hK hP 1 rfl rfl 23 (by decide) (hT _ q_187) (fun _ h9 => h9) rfl dX12_fillsWorth_155 ?_
                  refine lv_iload_n hx hb dX12_fillsWorth_158 rfl (lv_at hl 5 rfl) ?_
                  refine lv_iload hx hb dX12_fillsWorth_159 (lv_at hl 2 rfl) ?_
                  refine va_iast hx hb hK hP hD hS 3 0 rfl rfl (iv_v q62_13 (by decide) (by decide)) dX12_fillsWorth_161 (fun H locs hP hD hS => ?_)
                  have hf33 := ci_upd (i := k9_L_1) z62_0 (iv_w h8 (by decide) (by decide))
                  have hP : va_P D classes [(a_said, .inl (cs 0, 123, .inl a_said_c)), (a, .inr (12, [.ref a_tape, .int a__taped, .int a__rules, .ref a_sign, .ref a_length, .ref a_clause, .ref a_clauses, .ref a_read, .int a__next, .int a__wrong, .int a__number, .int a__text, .int a__made, .int a__deep, .int a__lines, .ref a_open, .int a__opened, .ref a_stack, .int a__top, .ref a_word, .ref a_said, .int a__x, .ref a_worth, .ref a_mate, .ref a_wasSaid, .int a__undone, .int a__boughtNow, .ref a_wayBy, .ref a_wayThen, .int a__walkMost, .int a__walkGoing, .int a__walkSet, .ref a_kept, .long a__drawX, .ref a_images, .ref a_imageX, .ref a_isMade])), (a_worth, .inl (cs 0, 4096, .inl f32)), (a_mate, .inl (cs 0, 4096, .inl (upd k62_C_a_mate (Int32.toNatClampNeg k9_L_1) k62_L_4)))] H := hP
                  have hD : va_D A [(a_said, .inl (cs 0, 123, .inl a_said_c)), (a, .inr (12, [.ref a_tape, .int a__taped, .int a__rules, .ref a_sign, .ref a_length, .ref a_clause, .ref a_clauses, .ref a_read, .int a__next, .int a__wrong, .int a__number, .int a__text, .int a__made, .int a__deep, .int a__lines, .ref a_open, .int a__opened, .ref a_stack, .int a__top, .ref a_word, .ref a_said, .int a__x, .ref a_worth, .ref a_mate, .ref a_wasSaid, .int a__undone, .int a__boughtNow, .ref a_wayBy, .ref a_wayThen, .int a__walkMost, .int a__walkGoing, .int a__walkSet, .ref a_kept, .long a__drawX, .ref a_images, .ref a_imageX, .ref a_isMade])), (a_worth, .inl (cs 0, 4096, .inl f32)), (a_mate, .inl (cs 0, 4096, .inl (upd k62_C_a_mate (Int32.toNatClampNeg k9_L_1) k62_L_4)))] := hD
                  obtain ⟨f33, uf33⟩ : ∃ z, z = upd k62_C_a_mate (Int32.toNatClampNeg k9_L_1) k62_L_4 := ⟨_, rfl⟩
                  rw [← uf33] at hP hD hf33
                  have wf33 : (f33 (Int32.toNatClampNeg k9_L_1)).toInt = k62_L_4.toInt := lin_us uf33 rfl
                  obtain ⟨v34, ev34⟩ : ∃ z : Int32, z = k62_L_4 + 1 := ⟨_, rfl⟩
                  have hv34 : IV 2 12 v34 := iv_add ev34 h8 (iv_c (a := 1) (b := 1) (by decide)) (by decide) (by decide)
                  have dv34 : v34.toInt = k62_L_4.toInt + 1 := iv_addE ev34 h8 (iv_c (a := 1) (b := 1) (by decide)) (by decide) (by decide) (by decide)
                  refine lv_iinc (v := v34) (lv' := [(4, .int v34), (6, .int v24), (5, .int 1), (3, .int k62_L_3), (2, .int k62_L_2), (1, .int k9_L_1), (0, .ref a)]) hx hb dX12_fillsWorth_162 hl (k := 2) rfl (by rw [ev34]; rfl) (by decide) rfl (fun ls hl => ?_)
                  refine lv_goto (tgt := 62) hx hb dX12_fillsWorth_165 (by decide) ?_
                  exact ih62 v34 k62_L_3 k62_L_2 f32 f33 (by have h9 := h8; unfold IV at h9; have := dv34; omega) q62_10 q62_11 (iv_w hv34 (by decide) (by decide)) q62_13 hf33 H locs (hP.sub (ws' := [(a_said, .inl (cs 0, 123, .inl a_said_c)), (a, .inr (12, [.ref a_tape, .int a__taped, .int a__rules, .ref a_sign, .ref a_length, .ref a_clause, .ref a_clauses, .ref a_read, .int a__next, .int a__wrong, .int a__number, .int a__text, .int a__made, .int a__deep, .int a__lines, .ref a_open, .int a__opened, .ref a_stack, .int a__top, .ref a_word, .ref a_said, .int a__x, .ref a_worth, .ref a_mate, .ref a_wasSaid, .int a__undone, .int a__boughtNow, .ref a_wayBy, .ref a_wayThen, .int a__walkMost, .int a__walkGoing, .int a__walkSet, .ref a_kept, .long a__drawX, .ref a_images, .ref a_imageX, .ref a_isMade])), (a_worth, .inl (cs 0, 4096, .inl f32)), (a_mate, .inl (cs 0, 4096, .inl f33))]) [0, 1, 2, 3] rfl) (hD.sub (ws' := [(a_said, .inl (cs 0, 123, .inl a_said_c)), (a, .inr (12, [.ref a_tape, .int a__taped, .int a__rules, .ref a_sign, .ref a_length, .ref a_clause, .ref a_clauses, .ref a_read, .int a__next, .int a__wrong, .int a__number, .int a__text, .int a__made, .int a__deep, .int a__lines, .ref a_open, .int a__opened, .ref a_stack, .int a__top, .ref a_word, .ref a_said, .int a__x, .ref a_worth, .ref a_mate, .ref a_wasSaid, .int a__undone, .int a__boughtNow, .ref a_wayBy, .ref a_wayThen, .int a__walkMost, .int a__walkGoing, .int a__walkSet, .ref a_kept, .long a__drawX, .ref a_images, .ref a_imageX, .ref a_isMade])), (a_worth, .inl (cs 0, 4096, .inl f32)), (a_mate, .inl (cs 0, 4096, .inl f33))]) [0, 1, 2, 3] (by decide) rfl) hS ls (lv_sub hl [0, 3, 4, 5, 6] rfl)
                · have t35 : v24.toInt ≤ v25.toInt := lin_gtN c26 rfl rfl
                  refine lv_goto (tgt := 162) hx hb dX12_fillsWorth_143 (by decide) ?_
                  obtain ⟨v36, ev36⟩ : ∃ z : Int32, z = k62_L_4 + 1 := ⟨_, rfl⟩
                  have hv36 : IV 2 12 v36 := iv_add ev36 h8 (iv_c (a := 1) (b := 1) (by decide)) (by decide) (by decide)
                  have dv36 : v36.toInt = k62_L_4.toInt + 1 := iv_addE ev36 h8 (iv_c (a := 1) (b := 1) (by decide)) (by decide) (by decide) (by decide)
                  refine lv_iinc (v := v36) (lv' := [(4, .int v36), (6, .int v24), (5, .int 1), (3, .int k62_L_3), (2, .int k62_L_2), (1, .int k9_L_1), (0, .ref a)]) hx hb dX12_fillsWorth_162 hl (k := 2) rfl (by rw [ev36]; rfl) (by decide) rfl (fun ls hl => ?_)
                  refine lv_goto (tgt := 62) hx hb dX12_fillsWorth_165 (by decide) ?_
                  exact ih62 v36 k62_L_3 k62_L_2 k62_C_a_worth k62_C_a_mate (by have h9 := h8; unfold IV at h9; have := dv36; omega) q62_10 q62_11 (iv_w hv36 (by decide) (by decide)) q62_13 z62_0 H locs (hP.sub (ws' := [(a_said, .inl (cs 0, 123, .inl a_said_c)), (a, .inr (12, [.ref a_tape, .int a__taped, .int a__rules, .ref a_sign, .ref a_length, .ref a_clause, .ref a_clauses, .ref a_read, .int a__next, .int a__wrong, .int a__number, .int a__text, .int a__made, .int a__deep, .int a__lines, .ref a_open, .int a__opened, .ref a_stack, .int a__top, .ref a_word, .ref a_said, .int a__x, .ref a_worth, .ref a_mate, .ref a_wasSaid, .int a__undone, .int a__boughtNow, .ref a_wayBy, .ref a_wayThen, .int a__walkMost, .int a__walkGoing, .int a__walkSet, .ref a_kept, .long a__drawX, .ref a_images, .ref a_imageX, .ref a_isMade])), (a_worth, .inl (cs 0, 4096, .inl k62_C_a_worth)), (a_mate, .inl (cs 0, 4096, .inl k62_C_a_mate))]) [0, 1, 2, 3] rfl) (hD.sub (ws' := [(a_said, .inl (cs 0, 123, .inl a_said_c)), (a, .inr (12, [.ref a_tape, .int a__taped, .int a__rules, .ref a_sign, .ref a_length, .ref a_clause, .ref a_clauses, .ref a_read, .int a__next, .int a__wrong, .int a__number, .int a__text, .int a__made, .int a__deep, .int a__lines, .ref a_open, .int a__opened, .ref a_stack, .int a__top, .ref a_word, .ref a_said, .int a__x, .ref a_worth, .ref a_mate, .ref a_wasSaid, .int a__undone, .int a__boughtNow, .ref a_wayBy, .ref a_wayThen, .int a__walkMost, .int a__walkGoing, .int a__walkSet, .ref a_kept, .long a__drawX, .ref a_images, .ref a_imageX, .ref a_isMade])), (a_worth, .inl (cs 0, 4096, .inl k62_C_a_worth)), (a_mate, .inl (cs 0, 4096, .inl k62_C_a_mate))]) [0, 1, 2, 3] (by decide) rfl) hS ls (lv_sub hl [0, 3, 4, 5, 6] rfl)
              · refine lv_goto (tgt := 93) hx hb dX12_fillsWorth_89 (by decide) ?_
                refine lv_istore (lv' := [(5, .int 2), (4, .int k62_L_4), (3, .int k62_L_3), (2, .int k62_L_2), (1, .int k9_L_1), (0, .ref a)]) hx hb dX12_fillsWorth_93 hl (by decide) rfl (fun ls hl => ?_)
                refine lv_iload hx hb dX12_fillsWorth_95 (lv_at hl 0 rfl) ?_
                refine lv_if_ne (tgt := 103) hx hb dX12_fillsWorth_97 (by decide) (fun _ => ?_) (fun z => absurd z (by decide))
                refine lv_iload hx hb dX12_fillsWorth_103 (lv_at hl 0 rfl) ?_
                refine lv_iconst (v := 2) hx hb dX12_fillsWorth_105 (by decide) ?_
                refine lv_icmp_ne (tgt := 114) hx hb dX12_fillsWorth_106 (by decide) (fun z => absurd (by decide) z) (fun _ => ?_)
                refine lv_bipush (v := 40) hx hb dX12_fillsWorth_109 (by decide) ?_
                refine lv_goto (tgt := 116) hx hb dX12_fillsWorth_111 (by decide) ?_
                refine lv_aload_n hx hb dX12_fillsWorth_116 rfl (lv_at hl 5 rfl) ?_
                refine va_get (D := D) (ci := 12) (v := .ref a_worth) (C := RX12) (T := TX12) (N := 37) hx hb hT i_X12 hown hK hP 1 rfl rfl 22 (by decide) (hT _ q_186) (fun _ h9 => h9) rfl dX12_fillsWorth_117 ?_
                refine lv_iload_n hx hb dX12_fillsWorth_120 rfl (lv_at hl 2 rfl) ?_
                refine lv_iconst (v := 1) hx hb dX12_fillsWorth_121 (by decide) ?_
                refine lv_iload hx hb dX12_fillsWorth_122 (lv_at hl 1 rfl) ?_
                refine lv_ishl hx hb dX12_fillsWorth_124 ?_
                refine lv_topi (fun v37 ev37 => ?_)
                have hv37 : IV 1 2048 v37 := iv_shl1 ev37 h8 (by decide) (by decide) (by decide)
                have ii38 : 1 ≤ v37.toInt ∧ v37.toInt ≤ 2048 := hv37
                refine lv_iconst (v := (-1)) hx hb dX12_fillsWorth_125 (by decide) ?_
                refine lv_ixor hx hb dX12_fillsWorth_126 ?_
                refine lv_topi (fun v39 ev39 => ?_)
                refine lv_iand hx hb dX12_fillsWorth_127 ?_
                refine lv_topi (fun v40 ev40 => ?_)
                have hv40 : IV 0 4095 v40 := iv_and1 ev40 q62_11
                have ii41 : 0 ≤ v40.toInt ∧ v40.toInt ≤ 4095 := hv40
                refine va_iald hx hb hK hP 2 0 rfl rfl (iv_v hv40 (by decide) (by decide)) dX12_fillsWorth_128 ?_
                refine lv_topi (fun v42 ev42 => ?_)
                have lv42 : v42.toInt = (k62_C_a_worth (Int32.toNatClampNeg v40)).toInt := by rw [ev42]
                refine lv_iadd hx hb dX12_fillsWorth_129 ?_
                refine lv_topi (fun v43 ev43 => ?_)
                refine lv_istore (lv' := [(6, .int v43), (5, .int 2), (4, .int k62_L_4), (3, .int k62_L_3), (2, .int k62_L_2), (1, .int k9_L_1), (0, .ref a)]) hx hb dX12_fillsWorth_130 hl (by decide) rfl (fun ls hl => ?_)
                refine lv_iload hx hb dX12_fillsWorth_132 (lv_at hl 0 rfl) ?_
                refine lv_aload_n hx hb dX12_fillsWorth_134 rfl (lv_at hl 6 rfl) ?_
                refine va_get (D := D) (ci := 12) (v := .ref a_worth) (C := RX12) (T := TX12) (N := 37) hx hb hT i_X12 hown hK hP 1 rfl rfl 22 (by decide) (hT _ q_186) (fun _ h9 => h9) rfl dX12_fillsWorth_135 ?_
                refine lv_iload_n hx hb dX12_fillsWorth_138 rfl (lv_at hl 5 rfl) ?_
                refine va_iald hx hb hK hP 2 0 rfl rfl (iv_v q62_13 (by decide) (by decide)) dX12_fillsWorth_139 ?_
                refine lv_topi (fun v44 ev44 => ?_)
                have lv44 : v44.toInt = (k62_C_a_worth (Int32.toNatClampNeg k9_L_1)).toInt := by rw [ev44]
                refine lv_icmp_gt (tgt := 146) hx hb dX12_fillsWorth_140 (by decide) (fun c45 => ?_) (fun c45 => ?_)
                · have t46 : v43.toInt > v44.toInt := lin_gt c45 rfl rfl
                  have h47 : IV (-2147483648) 2147483646 v44 := iv_lt1 c45 iv_top iv_top (by decide)
                  have ii48 : (-2147483648) ≤ v44.toInt ∧ v44.toInt ≤ 2147483646 := h47
                  have h49 : IV (-2147483647) 2147483647 v43 := iv_lt2 c45 iv_top iv_top (by decide)
                  have ii50 : (-2147483647) ≤ v43.toInt ∧ v43.toInt ≤ 2147483647 := h49
                  refine lv_aload_n hx hb dX12_fillsWorth_146 rfl (lv_at hl 6 rfl) ?_
                  refine va_get (D := D) (ci := 12) (v := .ref a_worth) (C := RX12) (T := TX12) (N := 37) hx hb hT i_X12 hown hK hP 1 rfl rfl 22 (by decide) (hT _ q_186) (fun _ h9 => h9) rfl dX12_fillsWorth_147 ?_
                  refine lv_iload_n hx hb dX12_fillsWorth_150 rfl (lv_at hl 5 rfl) ?_
                  refine lv_iload hx hb dX12_fillsWorth_151 (lv_at hl 0 rfl) ?_
                  refine va_iast hx hb hK hP hD hS 2 0 rfl rfl (iv_v q62_13 (by decide) (by decide)) dX12_fillsWorth_153 (fun H locs hP hD hS => ?_)
                  have hP : va_P D classes [(a_said, .inl (cs 0, 123, .inl a_said_c)), (a, .inr (12, [.ref a_tape, .int a__taped, .int a__rules, .ref a_sign, .ref a_length, .ref a_clause, .ref a_clauses, .ref a_read, .int a__next, .int a__wrong, .int a__number, .int a__text, .int a__made, .int a__deep, .int a__lines, .ref a_open, .int a__opened, .ref a_stack, .int a__top, .ref a_word, .ref a_said, .int a__x, .ref a_worth, .ref a_mate, .ref a_wasSaid, .int a__undone, .int a__boughtNow, .ref a_wayBy, .ref a_wayThen, .int a__walkMost, .int a__walkGoing, .int a__walkSet, .ref a_kept, .long a__drawX, .ref a_images, .ref a_imageX, .ref a_isMade])), (a_worth, .inl (cs 0, 4096, .inl (upd k62_C_a_worth (Int32.toNatClampNeg k9_L_1) v43))), (a_mate, .inl (cs 0, 4096, .inl k62_C_a_mate))] H := hP
                  have hD : va_D A [(a_said, .inl (cs 0, 123, .inl a_said_c)), (a, .inr (12, [.ref a_tape, .int a__taped, .int a__rules, .ref a_sign, .ref a_length, .ref a_clause, .ref a_clauses, .ref a_read, .int a__next, .int a__wrong, .int a__number, .int a__text, .int a__made, .int a__deep, .int a__lines, .ref a_open, .int a__opened, .ref a_stack, .int a__top, .ref a_word, .ref a_said, .int a__x, .ref a_worth, .ref a_mate, .ref a_wasSaid, .int a__undone, .int a__boughtNow, .ref a_wayBy, .ref a_wayThen, .int a__walkMost, .int a__walkGoing, .int a__walkSet, .ref a_kept, .long a__drawX, .ref a_images, .ref a_imageX, .ref a_isMade])), (a_worth, .inl (cs 0, 4096, .inl (upd k62_C_a_worth (Int32.toNatClampNeg k9_L_1) v43))), (a_mate, .inl (cs 0, 4096, .inl k62_C_a_mate))] := hD
                  obtain ⟨f51, uf51⟩ : ∃ z, z = upd k62_C_a_worth (Int32.toNatClampNeg k9_L_1) v43 := ⟨_, rfl⟩
                  rw [← uf51] at hP hD
                  have wf51 : (f51 (Int32.toNatClampNeg k9_L_1)).toInt = v43.toInt := lin_us uf51 rfl
                  refine lv_aload_n hx hb dX12_fillsWorth_154 rfl (lv_at hl 6 rfl) ?_
                  refine va_get (D := D) (ci := 12) (v := .ref a_mate) (C := RX12) (T := TX12) (N := 37) hx hb hT i_X12 hown hK hP 1 rfl rfl 23 (by decide) (hT _ q_187) (fun _ h9 => h9) rfl dX12_fillsWorth_155 ?_
                  refine lv_iload_n hx hb dX12_fillsWorth_158 rfl (lv_at hl 5 rfl) ?_
                  refine lv_iload hx hb dX12_fillsWorth_159 (lv_at hl 2 rfl) ?_
                  refine va_iast hx hb hK hP hD hS 3 0 rfl rfl (iv_v q62_13 (by decide) (by decide)) dX12_fillsWorth_161 (fun H locs hP hD hS => ?_)
                  have hf52 := ci_upd (i := k9_L_1) z62_0 (iv_w h8 (by decide) (by decide))
                  have hP : va_P D classes [(a_said, .inl (cs 0, 123, .inl a_said_c)), (a, .inr (12, [.ref a_tape, .int a__taped, .int a__rules, .ref a_sign, .ref a_length, .ref a_clause, .ref a_clauses, .ref a_read, .int a__next, .int a__wrong, .int a__number, .int a__text, .int a__made, .int a__deep, .int a__lines, .ref a_open, .int a__opened, .ref a_stack, .int a__top, .ref a_word, .ref a_said, .int a__x, .ref a_worth, .ref a_mate, .ref a_wasSaid, .int a__undone, .int a__boughtNow, .ref a_wayBy, .ref a_wayThen, .int a__walkMost, .int a__walkGoing, .int a__walkSet, .ref a_kept, .long a__drawX, .ref a_images, .ref a_imageX, .ref a_isMade])), (a_worth, .inl (cs 0, 4096, .inl f51)), (a_mate, .inl (cs 0, 4096, .inl (upd k62_C_a_mate (Int32.toNatClampNeg k9_L_1) k62_L_4)))] H := hP
                  have hD : va_D A [(a_said, .inl (cs 0, 123, .inl a_said_c)), (a, .inr (12, [.ref a_tape, .int a__taped, .int a__rules, .ref a_sign, .ref a_length, .ref a_clause, .ref a_clauses, .ref a_read, .int a__next, .int a__wrong, .int a__number, .int a__text, .int a__made, .int a__deep, .int a__lines, .ref a_open, .int a__opened, .ref a_stack, .int a__top, .ref a_word, .ref a_said, .int a__x, .ref a_worth, .ref a_mate, .ref a_wasSaid, .int a__undone, .int a__boughtNow, .ref a_wayBy, .ref a_wayThen, .int a__walkMost, .int a__walkGoing, .int a__walkSet, .ref a_kept, .long a__drawX, .ref a_images, .ref a_imageX, .ref a_isMade])), (a_worth, .inl (cs 0, 4096, .inl f51)), (a_mate, .inl (cs 0, 4096, .inl (upd k62_C_a_mate (Int32.toNatClampNeg k9_L_1) k62_L_4)))] := hD
                  obtain ⟨f52, uf52⟩ : ∃ z, z = upd k62_C_a_mate (Int32.toNatClampNeg k9_L_1) k62_L_4 := ⟨_, rfl⟩
                  rw [← uf52] at hP hD hf52
                  have wf52 : (f52 (Int32.toNatClampNeg k9_L_1)).toInt = k62_L_4.toInt := lin_us uf52 rfl
                  obtain ⟨v53, ev53⟩ : ∃ z : Int32, z = k62_L_4 + 1 := ⟨_, rfl⟩
                  have hv53 : IV 2 12 v53 := iv_add ev53 h8 (iv_c (a := 1) (b := 1) (by decide)) (by decide) (by decide)
                  have dv53 : v53.toInt = k62_L_4.toInt + 1 := iv_addE ev53 h8 (iv_c (a := 1) (b := 1) (by decide)) (by decide) (by decide) (by decide)
                  refine lv_iinc (v := v53) (lv' := [(4, .int v53), (6, .int v43), (5, .int 2), (3, .int k62_L_3), (2, .int k62_L_2), (1, .int k9_L_1), (0, .ref a)]) hx hb dX12_fillsWorth_162 hl (k := 2) rfl (by rw [ev53]; rfl) (by decide) rfl (fun ls hl => ?_)
                  refine lv_goto (tgt := 62) hx hb dX12_fillsWorth_165 (by decide) ?_
                  exact ih62 v53 k62_L_3 k62_L_2 f51 f52 (by have h9 := h8; unfold IV at h9; have := dv53; omega) q62_10 q62_11 (iv_w hv53 (by decide) (by decide)) q62_13 hf52 H locs (hP.sub (ws' := [(a_said, .inl (cs 0, 123, .inl a_said_c)), (a, .inr (12, [.ref a_tape, .int a__taped, .int a__rules, .ref a_sign, .ref a_length, .ref a_clause, .ref a_clauses, .ref a_read, .int a__next, .int a__wrong, .int a__number, .int a__text, .int a__made, .int a__deep, .int a__lines, .ref a_open, .int a__opened, .ref a_stack, .int a__top, .ref a_word, .ref a_said, .int a__x, .ref a_worth, .ref a_mate, .ref a_wasSaid, .int a__undone, .int a__boughtNow, .ref a_wayBy, .ref a_wayThen, .int a__walkMost, .int a__walkGoing, .int a__walkSet, .ref a_kept, .long a__drawX, .ref a_images, .ref a_imageX, .ref a_isMade])), (a_worth, .inl (cs 0, 4096, .inl f51)), (a_mate, .inl (cs 0, 4096, .inl f52))]) [0, 1, 2, 3] rfl) (hD.sub (ws' := [(a_said, .inl (cs 0, 123, .inl a_said_c)), (a, .inr (12, [.ref a_tape, .int a__taped, .int a__rules, .ref a_sign, .ref a_length, .ref a_clause, .ref a_clauses, .ref a_read, .int a__next, .int a__wrong, .int a__number, .int a__text, .int a__made, .int a__deep, .int a__lines, .ref a_open, .int a__opened, .ref a_stack, .int a__top, .ref a_word, .ref a_said, .int a__x, .ref a_worth, .ref a_mate, .ref a_wasSaid, .int a__undone, .int a__boughtNow, .ref a_wayBy, .ref a_wayThen, .int a__walkMost, .int a__walkGoing, .int a__walkSet, .ref a_kept, .long a__drawX, .ref a_images, .ref a_imageX, .ref a_isMade])), (a_worth, .inl (cs 0, 4096, .inl f51)), (a_mate, .inl (cs 0, 4096, .inl f52))]) [0, 1, 2, 3] (by decide) rfl) hS ls (lv_sub hl [0, 3, 4, 5, 6] rfl)
                · have t54 : v43.toInt ≤ v44.toInt := lin_gtN c45 rfl rfl
                  refine lv_goto (tgt := 162) hx hb dX12_fillsWorth_143 (by decide) ?_
                  obtain ⟨v55, ev55⟩ : ∃ z : Int32, z = k62_L_4 + 1 := ⟨_, rfl⟩
                  have hv55 : IV 2 12 v55 := iv_add ev55 h8 (iv_c (a := 1) (b := 1) (by decide)) (by decide) (by decide)
                  have dv55 : v55.toInt = k62_L_4.toInt + 1 := iv_addE ev55 h8 (iv_c (a := 1) (b := 1) (by decide)) (by decide) (by decide) (by decide)
                  refine lv_iinc (v := v55) (lv' := [(4, .int v55), (6, .int v43), (5, .int 2), (3, .int k62_L_3), (2, .int k62_L_2), (1, .int k9_L_1), (0, .ref a)]) hx hb dX12_fillsWorth_162 hl (k := 2) rfl (by rw [ev55]; rfl) (by decide) rfl (fun ls hl => ?_)
                  refine lv_goto (tgt := 62) hx hb dX12_fillsWorth_165 (by decide) ?_
                  exact ih62 v55 k62_L_3 k62_L_2 k62_C_a_worth k62_C_a_mate (by have h9 := h8; unfold IV at h9; have := dv55; omega) q62_10 q62_11 (iv_w hv55 (by decide) (by decide)) q62_13 z62_0 H locs (hP.sub (ws' := [(a_said, .inl (cs 0, 123, .inl a_said_c)), (a, .inr (12, [.ref a_tape, .int a__taped, .int a__rules, .ref a_sign, .ref a_length, .ref a_clause, .ref a_clauses, .ref a_read, .int a__next, .int a__wrong, .int a__number, .int a__text, .int a__made, .int a__deep, .int a__lines, .ref a_open, .int a__opened, .ref a_stack, .int a__top, .ref a_word, .ref a_said, .int a__x, .ref a_worth, .ref a_mate, .ref a_wasSaid, .int a__undone, .int a__boughtNow, .ref a_wayBy, .ref a_wayThen, .int a__walkMost, .int a__walkGoing, .int a__walkSet, .ref a_kept, .long a__drawX, .ref a_images, .ref a_imageX, .ref a_isMade])), (a_worth, .inl (cs 0, 4096, .inl k62_C_a_worth)), (a_mate, .inl (cs 0, 4096, .inl k62_C_a_mate))]) [0, 1, 2, 3] rfl) (hD.sub (ws' := [(a_said, .inl (cs 0, 123, .inl a_said_c)), (a, .inr (12, [.ref a_tape, .int a__taped, .int a__rules, .ref a_sign, .ref a_length, .ref a_clause, .ref a_clauses, .ref a_read, .int a__next, .int a__wrong, .int a__number, .int a__text, .int a__made, .int a__deep, .int a__lines, .ref a_open, .int a__opened, .ref a_stack, .int a__top, .ref a_word, .ref a_said, .int a__x, .ref a_worth, .ref a_mate, .ref a_wasSaid, .int a__undone, .int a__boughtNow, .ref a_wayBy, .ref a_wayThen, .int a__walkMost, .int a__walkGoing, .int a__walkSet, .ref a_kept, .long a__drawX, .ref a_images, .ref a_imageX, .ref a_isMade])), (a_worth, .inl (cs 0, 4096, .inl k62_C_a_worth)), (a_mate, .inl (cs 0, 4096, .inl k62_C_a_mate))]) [0, 1, 2, 3] (by decide) rfl) hS ls (lv_sub hl [0, 3, 4, 5, 6] rfl)
      refine lv_iload_n hx hb dX12_fillsWorth_9 rfl (lv_at hl 0 rfl) ?_
      refine lv_iconst (v := 1) hx hb dX12_fillsWorth_10 (by decide) ?_
      refine lv_aload_n hx hb dX12_fillsWorth_11 rfl (lv_at hl 1 rfl) ?_
      refine va_get (D := D) (ci := 12) (v := .ref a_said) (C := RX12) (T := TX12) (N := 37) hx hb hT i_X12 hown hK hP 1 rfl rfl 20 (by decide) (hT _ q_185) (fun _ h9 => h9) rfl dX12_fillsWorth_12 ?_
      refine lv_iconst (v := 1) hx hb dX12_fillsWorth_15 (by decide) ?_
      refine va_iald hx hb hK hP 0 0 rfl rfl (iv_vc (by decide)) dX12_fillsWorth_16 ?_
      refine lv_topi (fun v56 ev56 => ?_)
      have h57 : IV 0 12 v56 := (by rw [ev56]; exact bs_i1 hf0)
      have ii58 : 0 ≤ v56.toInt ∧ v56.toInt ≤ 12 := h57
      have lv56 : v56.toInt = (a_said_c 1).toInt := by rw [ev56]; rfl
      refine lv_ishl hx hb dX12_fillsWorth_17 ?_
      refine lv_topi (fun v59 ev59 => ?_)
      have hv59 : IV 1 4096 v59 := iv_shl1 ev59 h57 (by decide) (by decide) (by decide)
      have ii60 : 1 ≤ v59.toInt ∧ v59.toInt ≤ 4096 := hv59
      refine lv_icmp_ge (tgt := 174) hx hb dX12_fillsWorth_18 (by decide) (fun c61 => ?_) (fun c61 => ?_)
      · have t62 : k9_L_1.toInt ≥ v59.toInt := lin_ge c61 rfl rfl
        refine W.widen (k := 0) (n := 0) (Nat.le_of_ble_eq_true rfl) (Nat.le_of_ble_eq_true rfl) ?_
        exact W.vret hx hb hr (fun t ht hW => ⟨⟨(fun k => match k with | 0 => 0 | _ => 0, fun k => match k with | 0 => k9_C_a_mate | 1 => k9_C_a_worth | _ => fun _ => 0), rfl, (z9_0), by rw [ht]; exact hP.sub [0, 1, 2, 3] rfl, hD.sub [0, 1, 2, 3] (by decide) rfl⟩, hS.F ht⟩) hS.2.2 dX12_fillsWorth_174
      · have t63 : k9_L_1.toInt < v59.toInt := lin_geN c61 rfl rfl
        have h64 : IV 1 4095 k9_L_1 := iv_lt1 (Int32.not_le.mp c61) q9_10 hv59 (by decide)
        have ii65 : 1 ≤ k9_L_1.toInt ∧ k9_L_1.toInt ≤ 4095 := h64
        have h66 : IV 2 4096 v59 := iv_lt2 (Int32.not_le.mp c61) q9_10 hv59 (by decide)
        have ii67 : 2 ≤ v59.toInt ∧ v59.toInt ≤ 4096 := h66
        refine lv_aload_n hx hb dX12_fillsWorth_21 rfl (lv_at hl 1 rfl) ?_
        refine lv_iload_n hx hb dX12_fillsWorth_22 rfl (lv_at hl 0 rfl) ?_
        refine va_calli (va_runV (As := [.int k9_L_1]) (rest := []) ⟨hx, hb, hml, hown, hT⟩ (c_X12_leastOf l D cs kK kV a k9_L_1 h64) (cwV 1 hT (hz_gV q_1132 q_1133 q_1134 q_701 q_1135) rfl rfl rfl (by decide +kernel) ⟨(Nat.le_of_ble_eq_true rfl), (Nat.le_of_ble_eq_true rfl)⟩) ⟨hz_P.blind, va_recv hK hP (ci := 12) (q0 := 1) rfl rfl, hz_P.mk (hP.sub (ws' := []) [] rfl) hE hS⟩ rfl rfl hl.1 rfl (lv_room (Nat.le_of_ble_eq_true rfl)) dX12_fillsWorth_23 ⟨(Nat.le_of_ble_eq_true rfl), (Nat.le_of_ble_eq_true rfl)⟩) hS (fun _ _ h => h.elim) (fun _ h => h.elim) (fun r68 u t H1 locs ht hvm hw hB hz1 hk1 hS => ?_)
        have hP := hz_keep hP hk1
        clear hk1 hB hz1
        generalize H1 = H at hP hS ⊢
        rcases hw with ⟨h69, x70⟩
        have ii71 : 0 ≤ r68.toInt ∧ r68.toInt ≤ 11 := h69
        refine lv_istore_n (lv' := [(2, .int r68), (1, .int k9_L_1), (0, .ref a)]) hx hb dX12_fillsWorth_26 rfl hl (by decide) rfl (fun ls hl => ?_)
        refine lv_iload_n hx hb dX12_fillsWorth_27 rfl (lv_at hl 1 rfl) ?_
        refine lv_iconst (v := 1) hx hb dX12_fillsWorth_28 (by decide) ?_
        refine lv_iload_n hx hb dX12_fillsWorth_29 rfl (lv_at hl 0 rfl) ?_
        refine lv_ishl hx hb dX12_fillsWorth_30 ?_
        refine lv_topi (fun v72 ev72 => ?_)
        have hv72 : IV 1 2048 v72 := iv_shl1 ev72 h69 (by decide) (by decide) (by decide)
        have ii73 : 1 ≤ v72.toInt ∧ v72.toInt ≤ 2048 := hv72
        refine lv_iconst (v := (-1)) hx hb dX12_fillsWorth_31 (by decide) ?_
        refine lv_ixor hx hb dX12_fillsWorth_32 ?_
        refine lv_topi (fun v74 ev74 => ?_)
        refine lv_iand hx hb dX12_fillsWorth_33 ?_
        refine lv_topi (fun v75 ev75 => ?_)
        have hv75 : IV 0 4095 v75 := iv_and1 ev75 h64
        have ii76 : 0 ≤ v75.toInt ∧ v75.toInt ≤ 4095 := hv75
        refine lv_istore_n (lv' := [(3, .int v75), (2, .int r68), (1, .int k9_L_1), (0, .ref a)]) hx hb dX12_fillsWorth_34 rfl hl (by decide) rfl (fun ls hl => ?_)
        refine lv_aload_n hx hb dX12_fillsWorth_35 rfl (lv_at hl 3 rfl) ?_
        refine va_get (D := D) (ci := 12) (v := .ref a_worth) (C := RX12) (T := TX12) (N := 37) hx hb hT i_X12 hown hK hP 1 rfl rfl 22 (by decide) (hT _ q_186) (fun _ h9 => h9) rfl dX12_fillsWorth_36 ?_
        refine lv_iload_n hx hb dX12_fillsWorth_39 rfl (lv_at hl 2 rfl) ?_
        refine lv_bipush (v := 9) hx hb dX12_fillsWorth_40 (by decide) ?_
        refine lv_aload_n hx hb dX12_fillsWorth_42 rfl (lv_at hl 3 rfl) ?_
        refine va_get (D := D) (ci := 12) (v := .ref a_worth) (C := RX12) (T := TX12) (N := 37) hx hb hT i_X12 hown hK hP 1 rfl rfl 22 (by decide) (hT _ q_186) (fun _ h9 => h9) rfl dX12_fillsWorth_43 ?_
        refine lv_iload_n hx hb dX12_fillsWorth_46 rfl (lv_at hl 0 rfl) ?_
        refine va_iald hx hb hK hP 2 0 rfl rfl (iv_v hv75 (by decide) (by decide)) dX12_fillsWorth_47 ?_
        refine lv_topi (fun v77 ev77 => ?_)
        have lv77 : v77.toInt = (k9_C_a_worth (Int32.toNatClampNeg v75)).toInt := by rw [ev77]
        refine lv_iadd hx hb dX12_fillsWorth_48 ?_
        refine lv_topi (fun v78 ev78 => ?_)
        refine va_iast hx hb hK hP hD hS 2 0 rfl rfl (iv_v h64 (by decide) (by decide)) dX12_fillsWorth_49 (fun H locs hP hD hS => ?_)
        have hP : va_P D classes [(a_said, .inl (cs 0, 123, .inl a_said_c)), (a, .inr (12, [.ref a_tape, .int a__taped, .int a__rules, .ref a_sign, .ref a_length, .ref a_clause, .ref a_clauses, .ref a_read, .int a__next, .int a__wrong, .int a__number, .int a__text, .int a__made, .int a__deep, .int a__lines, .ref a_open, .int a__opened, .ref a_stack, .int a__top, .ref a_word, .ref a_said, .int a__x, .ref a_worth, .ref a_mate, .ref a_wasSaid, .int a__undone, .int a__boughtNow, .ref a_wayBy, .ref a_wayThen, .int a__walkMost, .int a__walkGoing, .int a__walkSet, .ref a_kept, .long a__drawX, .ref a_images, .ref a_imageX, .ref a_isMade])), (a_worth, .inl (cs 0, 4096, .inl (upd k9_C_a_worth (Int32.toNatClampNeg k9_L_1) v78))), (a_mate, .inl (cs 0, 4096, .inl k9_C_a_mate))] H := hP
        have hD : va_D A [(a_said, .inl (cs 0, 123, .inl a_said_c)), (a, .inr (12, [.ref a_tape, .int a__taped, .int a__rules, .ref a_sign, .ref a_length, .ref a_clause, .ref a_clauses, .ref a_read, .int a__next, .int a__wrong, .int a__number, .int a__text, .int a__made, .int a__deep, .int a__lines, .ref a_open, .int a__opened, .ref a_stack, .int a__top, .ref a_word, .ref a_said, .int a__x, .ref a_worth, .ref a_mate, .ref a_wasSaid, .int a__undone, .int a__boughtNow, .ref a_wayBy, .ref a_wayThen, .int a__walkMost, .int a__walkGoing, .int a__walkSet, .ref a_kept, .long a__drawX, .ref a_images, .ref a_imageX, .ref a_isMade])), (a_worth, .inl (cs 0, 4096, .inl (upd k9_C_a_worth (Int32.toNatClampNeg k9_L_1) v78))), (a_mate, .inl (cs 0, 4096, .inl k9_C_a_mate))] := hD
        obtain ⟨f79, uf79⟩ : ∃ z, z = upd k9_C_a_worth (Int32.toNatClampNeg k9_L_1) v78 := ⟨_, rfl⟩
        rw [← uf79] at hP hD
        have wf79 : (f79 (Int32.toNatClampNeg k9_L_1)).toInt = v78.toInt := lin_us uf79 rfl
        refine lv_aload_n hx hb dX12_fillsWorth_50 rfl (lv_at hl 3 rfl) ?_
        refine va_get (D := D) (ci := 12) (v := .ref a_mate) (C := RX12) (T := TX12) (N := 37) hx hb hT i_X12 hown hK hP 1 rfl rfl 23 (by decide) (hT _ q_187) (fun _ h9 => h9) rfl dX12_fillsWorth_51 ?_
        refine lv_iload_n hx hb dX12_fillsWorth_54 rfl (lv_at hl 2 rfl) ?_
        refine lv_iconst (v := (-1)) hx hb dX12_fillsWorth_55 (by decide) ?_
        refine va_iast hx hb hK hP hD hS 3 0 rfl rfl (iv_v h64 (by decide) (by decide)) dX12_fillsWorth_56 (fun H locs hP hD hS => ?_)
        have hf80 := ci_upd (i := k9_L_1) z9_0 (iv_c (a := (-1)) (b := 11) (x := (-1)) (by decide))
        have hP : va_P D classes [(a_said, .inl (cs 0, 123, .inl a_said_c)), (a, .inr (12, [.ref a_tape, .int a__taped, .int a__rules, .ref a_sign, .ref a_length, .ref a_clause, .ref a_clauses, .ref a_read, .int a__next, .int a__wrong, .int a__number, .int a__text, .int a__made, .int a__deep, .int a__lines, .ref a_open, .int a__opened, .ref a_stack, .int a__top, .ref a_word, .ref a_said, .int a__x, .ref a_worth, .ref a_mate, .ref a_wasSaid, .int a__undone, .int a__boughtNow, .ref a_wayBy, .ref a_wayThen, .int a__walkMost, .int a__walkGoing, .int a__walkSet, .ref a_kept, .long a__drawX, .ref a_images, .ref a_imageX, .ref a_isMade])), (a_worth, .inl (cs 0, 4096, .inl f79)), (a_mate, .inl (cs 0, 4096, .inl (upd k9_C_a_mate (Int32.toNatClampNeg k9_L_1) ((-1) : Int32))))] H := hP
        have hD : va_D A [(a_said, .inl (cs 0, 123, .inl a_said_c)), (a, .inr (12, [.ref a_tape, .int a__taped, .int a__rules, .ref a_sign, .ref a_length, .ref a_clause, .ref a_clauses, .ref a_read, .int a__next, .int a__wrong, .int a__number, .int a__text, .int a__made, .int a__deep, .int a__lines, .ref a_open, .int a__opened, .ref a_stack, .int a__top, .ref a_word, .ref a_said, .int a__x, .ref a_worth, .ref a_mate, .ref a_wasSaid, .int a__undone, .int a__boughtNow, .ref a_wayBy, .ref a_wayThen, .int a__walkMost, .int a__walkGoing, .int a__walkSet, .ref a_kept, .long a__drawX, .ref a_images, .ref a_imageX, .ref a_isMade])), (a_worth, .inl (cs 0, 4096, .inl f79)), (a_mate, .inl (cs 0, 4096, .inl (upd k9_C_a_mate (Int32.toNatClampNeg k9_L_1) ((-1) : Int32))))] := hD
        obtain ⟨f80, uf80⟩ : ∃ z, z = upd k9_C_a_mate (Int32.toNatClampNeg k9_L_1) ((-1) : Int32) := ⟨_, rfl⟩
        rw [← uf80] at hP hD hf80
        have wf80 : (f80 (Int32.toNatClampNeg k9_L_1)).toInt = (-1) := lin_us uf80 (by decide)
        refine lv_iload_n hx hb dX12_fillsWorth_57 rfl (lv_at hl 1 rfl) ?_
        refine lv_iconst (v := 1) hx hb dX12_fillsWorth_58 (by decide) ?_
        refine lv_iadd hx hb dX12_fillsWorth_59 ?_
        refine lv_topi (fun v81 ev81 => ?_)
        have hv81 : IV 1 12 v81 := iv_add ev81 h69 (iv_c (a := 1) (b := 1) (by decide)) (by decide) (by decide)
        have ii82 : 1 ≤ v81.toInt ∧ v81.toInt ≤ 12 := hv81
        have dv81 : v81.toInt = r68.toInt + 1 := iv_addE ev81 h69 (iv_c (a := 1) (b := 1) (by decide)) (by decide) (by decide) (by decide)
        have lv81 : v81.toInt = r68.toInt + 1 := lin_add ev81 h69 (iv_c (a := 1) (b := 1) (by decide)) rfl (by decide) (by decide) (by decide)
        refine lv_istore (lv' := [(4, .int v81), (3, .int v75), (2, .int r68), (1, .int k9_L_1), (0, .ref a)]) hx hb dX12_fillsWorth_60 hl (by decide) rfl (fun ls hl => ?_)
        exact K62 _ v81 v75 r68 f79 f80 (Nat.le_refl _) h69 hv75 hv81 h64 hf80 H locs (hP.sub (ws' := [(a_said, .inl (cs 0, 123, .inl a_said_c)), (a, .inr (12, [.ref a_tape, .int a__taped, .int a__rules, .ref a_sign, .ref a_length, .ref a_clause, .ref a_clauses, .ref a_read, .int a__next, .int a__wrong, .int a__number, .int a__text, .int a__made, .int a__deep, .int a__lines, .ref a_open, .int a__opened, .ref a_stack, .int a__top, .ref a_word, .ref a_said, .int a__x, .ref a_worth, .ref a_mate, .ref a_wasSaid, .int a__undone, .int a__boughtNow, .ref a_wayBy, .ref a_wayThen, .int a__walkMost, .int a__walkGoing, .int a__walkSet, .ref a_kept, .long a__drawX, .ref a_images, .ref a_imageX, .ref a_isMade])), (a_worth, .inl (cs 0, 4096, .inl f79)), (a_mate, .inl (cs 0, 4096, .inl f80))]) [0, 1, 2, 3] rfl) (hD.sub (ws' := [(a_said, .inl (cs 0, 123, .inl a_said_c)), (a, .inr (12, [.ref a_tape, .int a__taped, .int a__rules, .ref a_sign, .ref a_length, .ref a_clause, .ref a_clauses, .ref a_read, .int a__next, .int a__wrong, .int a__number, .int a__text, .int a__made, .int a__deep, .int a__lines, .ref a_open, .int a__opened, .ref a_stack, .int a__top, .ref a_word, .ref a_said, .int a__x, .ref a_worth, .ref a_mate, .ref a_wasSaid, .int a__undone, .int a__boughtNow, .ref a_wayBy, .ref a_wayThen, .int a__walkMost, .int a__walkGoing, .int a__walkSet, .ref a_kept, .long a__drawX, .ref a_images, .ref a_imageX, .ref a_isMade])), (a_worth, .inl (cs 0, 4096, .inl f79)), (a_mate, .inl (cs 0, 4096, .inl f80))]) [0, 1, 2, 3] (by decide) rfl) hS ls (lv_sub hl [0, 1, 2, 3, 4] rfl)
  refine lv_aload_n hx hb dX12_fillsWorth_0 rfl (lv_at hl 0 rfl) ?_
  refine va_get (D := D) (ci := 12) (v := .ref a_worth) (C := RX12) (T := TX12) (N := 37) hx hb hT i_X12 hown hK hP 1 rfl rfl 22 (by decide) (hT _ q_186) (fun _ h9 => h9) rfl dX12_fillsWorth_1 ?_
  refine lv_iconst (v := 0) hx hb dX12_fillsWorth_4 (by decide) ?_
  refine lv_iconst (v := 0) hx hb dX12_fillsWorth_5 (by decide) ?_
  refine va_iast hx hb hK hP hD hS 2 0 rfl rfl (iv_vc (by decide)) dX12_fillsWorth_6 (fun H locs hP hD hS => ?_)
  have hP : va_P D classes [(a_said, .inl (cs 0, 123, .inl a_said_c)), (a, .inr (12, [.ref a_tape, .int a__taped, .int a__rules, .ref a_sign, .ref a_length, .ref a_clause, .ref a_clauses, .ref a_read, .int a__next, .int a__wrong, .int a__number, .int a__text, .int a__made, .int a__deep, .int a__lines, .ref a_open, .int a__opened, .ref a_stack, .int a__top, .ref a_word, .ref a_said, .int a__x, .ref a_worth, .ref a_mate, .ref a_wasSaid, .int a__undone, .int a__boughtNow, .ref a_wayBy, .ref a_wayThen, .int a__walkMost, .int a__walkGoing, .int a__walkSet, .ref a_kept, .long a__drawX, .ref a_images, .ref a_imageX, .ref a_isMade])), (a_worth, .inl (cs 0, 4096, .inl (upd a_worth_c (Int32.toNatClampNeg (0 : Int32)) (0 : Int32)))), (a_mate, .inl (cs 0, 4096, .inl a_mate_c))] H := hP
  have hD : va_D A [(a_said, .inl (cs 0, 123, .inl a_said_c)), (a, .inr (12, [.ref a_tape, .int a__taped, .int a__rules, .ref a_sign, .ref a_length, .ref a_clause, .ref a_clauses, .ref a_read, .int a__next, .int a__wrong, .int a__number, .int a__text, .int a__made, .int a__deep, .int a__lines, .ref a_open, .int a__opened, .ref a_stack, .int a__top, .ref a_word, .ref a_said, .int a__x, .ref a_worth, .ref a_mate, .ref a_wasSaid, .int a__undone, .int a__boughtNow, .ref a_wayBy, .ref a_wayThen, .int a__walkMost, .int a__walkGoing, .int a__walkSet, .ref a_kept, .long a__drawX, .ref a_images, .ref a_imageX, .ref a_isMade])), (a_worth, .inl (cs 0, 4096, .inl (upd a_worth_c (Int32.toNatClampNeg (0 : Int32)) (0 : Int32)))), (a_mate, .inl (cs 0, 4096, .inl a_mate_c))] := hD
  obtain ⟨f83, uf83⟩ : ∃ z, z = upd a_worth_c (Int32.toNatClampNeg (0 : Int32)) (0 : Int32) := ⟨_, rfl⟩
  rw [← uf83] at hP hD
  have uf83 : f83 = upd a_worth_c 0 (0 : Int32) := uf83
  have wf83 : (f83 0).toInt = 0 := lin_us uf83 (by decide)
  refine lv_iconst (v := 1) hx hb dX12_fillsWorth_7 (by decide) ?_
  refine lv_istore_n (lv' := [(1, .int 1), (0, .ref a)]) hx hb dX12_fillsWorth_8 rfl hl (by decide) rfl (fun ls hl => ?_)
  exact K9 _ ((1 : Int32)) f83 a_mate_c (Nat.le_refl _) (iv_c (by decide)) h_a_mate_c H locs (hP.sub (ws' := [(a_said, .inl (cs 0, 123, .inl a_said_c)), (a, .inr (12, [.ref a_tape, .int a__taped, .int a__rules, .ref a_sign, .ref a_length, .ref a_clause, .ref a_clauses, .ref a_read, .int a__next, .int a__wrong, .int a__number, .int a__text, .int a__made, .int a__deep, .int a__lines, .ref a_open, .int a__opened, .ref a_stack, .int a__top, .ref a_word, .ref a_said, .int a__x, .ref a_worth, .ref a_mate, .ref a_wasSaid, .int a__undone, .int a__boughtNow, .ref a_wayBy, .ref a_wayThen, .int a__walkMost, .int a__walkGoing, .int a__walkSet, .ref a_kept, .long a__drawX, .ref a_images, .ref a_imageX, .ref a_isMade])), (a_worth, .inl (cs 0, 4096, .inl f83)), (a_mate, .inl (cs 0, 4096, .inl a_mate_c))]) [0, 1, 2, 3] rfl) (hD.sub (ws' := [(a_said, .inl (cs 0, 123, .inl a_said_c)), (a, .inr (12, [.ref a_tape, .int a__taped, .int a__rules, .ref a_sign, .ref a_length, .ref a_clause, .ref a_clauses, .ref a_read, .int a__next, .int a__wrong, .int a__number, .int a__text, .int a__made, .int a__deep, .int a__lines, .ref a_open, .int a__opened, .ref a_stack, .int a__top, .ref a_word, .ref a_said, .int a__x, .ref a_worth, .ref a_mate, .ref a_wasSaid, .int a__undone, .int a__boughtNow, .ref a_wayBy, .ref a_wayThen, .int a__walkMost, .int a__walkGoing, .int a__walkSet, .ref a_kept, .long a__drawX, .ref a_images, .ref a_imageX, .ref a_isMade])), (a_worth, .inl (cs 0, 4096, .inl f83)), (a_mate, .inl (cs 0, 4096, .inl a_mate_c))]) [0, 1, 2, 3] (by decide) rfl) hS ls (lv_sub hl [0, 1] rfl)
theorem dX12_isSet_0 : decode cX12_isSet 0 = .ok (.aload_n 0, 1) := by decide +kernel
theorem dX12_isSet_1 : decode cX12_isSet 1 = .ok (.invokevirtual 329, 3) := by decide +kernel
theorem dX12_isSet_4 : decode cX12_isSet 4 = .ok (.ifCond .eq 23, 3) := by decide +kernel
theorem dX12_isSet_7 : decode cX12_isSet 7 = .ok (.iload_n 1, 1) := by decide +kernel
theorem dX12_isSet_8 : decode cX12_isSet 8 = .ok (.ifCond .lt 19, 3) := by decide +kernel
theorem dX12_isSet_11 : decode cX12_isSet 11 = .ok (.iload_n 1, 1) := by decide +kernel
theorem dX12_isSet_12 : decode cX12_isSet 12 = .ok (.iconst 1, 1) := by decide +kernel
theorem dX12_isSet_13 : decode cX12_isSet 13 = .ok (.aload_n 0, 1) := by decide +kernel
theorem dX12_isSet_14 : decode cX12_isSet 14 = .ok (.getfield 39, 3) := by decide +kernel
theorem dX12_isSet_17 : decode cX12_isSet 17 = .ok (.iconst 1, 1) := by decide +kernel
theorem dX12_isSet_18 : decode cX12_isSet 18 = .ok (.iaload, 1) := by decide +kernel
theorem dX12_isSet_19 : decode cX12_isSet 19 = .ok (.ishl, 1) := by decide +kernel
theorem dX12_isSet_20 : decode cX12_isSet 20 = .ok (.if_icmp .ge 7, 3) := by decide +kernel
theorem dX12_isSet_23 : decode cX12_isSet 23 = .ok (.iconst 1, 1) := by decide +kernel
theorem dX12_isSet_24 : decode cX12_isSet 24 = .ok (.goto 4, 3) := by decide +kernel
theorem dX12_isSet_27 : decode cX12_isSet 27 = .ok (.iconst 0, 1) := by decide +kernel
theorem dX12_isSet_28 : decode cX12_isSet 28 = .ok (.ireturn, 1) := by decide +kernel
set_option maxHeartbeats 4000000 in
set_option maxRecDepth 100000 in
theorem c_X12_isSet (l : Launch) (D : va_G) (cs : Nat → ClassId) (kK kV : Nat → Nat) (a : Nat) (p0 : Int32) (a_said : Nat) (a_said_c : Nat → Int32) (a_tape : Nat) (a__taped : Int32) (a__rules : Int32) (a_sign : Nat) (a_length : Nat) (a_clause : Nat) (a_clauses : Nat) (a_read : Nat) (a__next : Int32) (a__wrong : Int32) (a__number : Int32) (a__text : Int32) (a__made : Int32) (a__deep : Int32) (a__lines : Int32) (a_open : Nat) (a__opened : Int32) (a_stack : Nat) (a__top : Int32) (a_word : Nat) (a__x : Int32) (a_worth : Nat) (a_mate : Nat) (a_wasSaid : Nat) (a__undone : Int32) (a__boughtNow : Int32) (a_wayBy : Nat) (a_wayThen : Nat) (a__walkMost : Int32) (a__walkGoing : Int32) (a__walkSet : Int32) (a_kept : Nat) (a__drawX : Int64) (a_images : Nat) (a_imageX : Nat) (a_isMade : Nat) (h_a__taped : IV 0 400 a__taped) (h_a__rules : IV 0 6 a__rules) (h_a__next : IV 0 400 a__next) (h_a__text : IV 0 6 a__text) (h_a__made : IV 0 60 a__made) (h_a__lines : IV 0 40 a__lines) (h_a__opened : IV 0 400 a__opened) (h_a__top : IV 0 64 a__top) (h_a__x : IV 0 2147483647 a__x) (h_a__undone : IV 0 20 a__undone) (hf0 : BS a_said_c 200) : Met l yX12_isSet (hz_w yX12_isSet cX12_isSet 2 (some .boolean)) ({ frames := 1, cells := 0, slots := 0, locals := 20 }) (va_Pc [.ref a, .int p0] (hz_P D cs kK kV [(a_said, .inl (cs 0, 123, .inl a_said_c)), (a, .inr (12, [.ref a_tape, .int a__taped, .int a__rules, .ref a_sign, .ref a_length, .ref a_clause, .ref a_clauses, .ref a_read, .int a__next, .int a__wrong, .int a__number, .int a__text, .int a__made, .int a__deep, .int a__lines, .ref a_open, .int a__opened, .ref a_stack, .int a__top, .ref a_word, .ref a_said, .int a__x, .ref a_worth, .ref a_mate, .ref a_wasSaid, .int a__undone, .int a__boughtNow, .ref a_wayBy, .ref a_wayThen, .int a__walkMost, .int a__walkGoing, .int a__walkSet, .ref a_kept, .long a__drawX, .ref a_images, .ref a_imageX, .ref a_isMade]))])) (va_Qi (fun (r : Int32) (_ : Unit) => (r = 0) ∨ (r = 1 ∧ IV 0 4095 p0)) (fun _ t => True) (fun _ => False)) 0 0 (fun _ => False) := by
  refine Met.ofW (cc := cX12_isSet) (maxL := 2) (ret := (some .boolean)) (by decide) rfl ?_
  intro p e s m args below meth c s₁ B hml hv
  obtain ⟨rfl, hP, hE⟩ := hv
  have hx := B.exec
  have hb := B.bytes
  have hr := B.returns
  have hT : ∀ w ∈ TB, w.before _ s = true := fun w h => atoms_spec (ws := hz_w yX12_isSet cX12_isSet 2 (some .boolean)) B.pre w (List.mem_cons_of_mem _ h)
  have hown : s.vm.findClass RX12 = some m.cls := findClass_of_methodNamed B.named
  have hlocks := B.notSynchronized
  clear B
  have hS : va_S (fun _ => False) s.heap s.heap [] := va_S.rf
  have hK := hE.1
  have hl := lv_entry ([.ref a, .int p0]) (n := 2) (Nat.le_of_ble_eq_true rfl)
  rw [lg_entry_eq]
  generalize (lg_sl ([.ref a, .int p0]) ++ List.replicate (2 - (lg_sl ([.ref a, .int p0])).length) Slot.unset).toArray = ls at hl ⊢
  have hl : lv_has ls 2 [(0, .ref a), (1, .int p0)] := hl
  obtain ⟨H, eH⟩ : ∃ z, z = s.heap := ⟨_, rfl⟩
  have hP : va_P D classes [(a_said, .inl (cs 0, 123, .inl a_said_c)), (a, .inr (12, [.ref a_tape, .int a__taped, .int a__rules, .ref a_sign, .ref a_length, .ref a_clause, .ref a_clauses, .ref a_read, .int a__next, .int a__wrong, .int a__number, .int a__text, .int a__made, .int a__deep, .int a__lines, .ref a_open, .int a__opened, .ref a_stack, .int a__top, .ref a_word, .ref a_said, .int a__x, .ref a_worth, .ref a_mate, .ref a_wasSaid, .int a__undone, .int a__boughtNow, .ref a_wayBy, .ref a_wayThen, .int a__walkMost, .int a__walkGoing, .int a__walkSet, .ref a_kept, .long a__drawX, .ref a_images, .ref a_imageX, .ref a_isMade]))] H := by rw [eH]; exact hP
  have hS : va_S (fun _ => False) s.heap H [] := by rw [eH]; exact hS
  rw [← eH]
  clear eH
  obtain ⟨locs, el⟩ : ∃ z : List Loc, z = [] := ⟨_, rfl⟩
  rw [← el] at hS ⊢
  clear el
  have z0 : (0 : Int32).toInt = 0 := by decide
  have z1 : (1 : Int32).toInt = 1 := by decide
  have zm1 : (-1 : Int32).toInt = -1 := by decide
  have i_a__lines : 0 ≤ a__lines.toInt ∧ a__lines.toInt ≤ 40 := h_a__lines
  have i_a__made : 0 ≤ a__made.toInt ∧ a__made.toInt ≤ 60 := h_a__made
  have i_a__next : 0 ≤ a__next.toInt ∧ a__next.toInt ≤ 400 := h_a__next
  have i_a__opened : 0 ≤ a__opened.toInt ∧ a__opened.toInt ≤ 400 := h_a__opened
  have i_a__rules : 0 ≤ a__rules.toInt ∧ a__rules.toInt ≤ 6 := h_a__rules
  have i_a__taped : 0 ≤ a__taped.toInt ∧ a__taped.toInt ≤ 400 := h_a__taped
  have i_a__text : 0 ≤ a__text.toInt ∧ a__text.toInt ≤ 6 := h_a__text
  have i_a__top : 0 ≤ a__top.toInt ∧ a__top.toInt ≤ 64 := h_a__top
  have i_a__undone : 0 ≤ a__undone.toInt ∧ a__undone.toInt ≤ 20 := h_a__undone
  have i_a__x : 0 ≤ a__x.toInt ∧ a__x.toInt ≤ 2147483647 := h_a__x
  refine lv_aload_n hx hb dX12_isSet_0 rfl (lv_at hl 0 rfl) ?_
  refine va_calli (va_runV (As := []) (rest := []) ⟨hx, hb, hml, hown, hT⟩ (c_X12_isFair l D cs kK kV a a_said a_said_c a_tape a__taped a__rules a_sign a_length a_clause a_clauses a_read a__next a__wrong a__number a__text a__made a__deep a__lines a_open a__opened a_stack a__top a_word a__x a_worth a_mate a_wasSaid a__undone a__boughtNow a_wayBy a_wayThen a__walkMost a__walkGoing a__walkSet a_kept a__drawX a_images a_imageX a_isMade h_a__taped h_a__rules h_a__next h_a__text h_a__made h_a__lines h_a__opened h_a__top h_a__x h_a__undone hf0) (cwV 0 hT (hz_gV q_1140 q_1141 q_1142 q_701 q_1143) rfl rfl rfl (by decide +kernel) ⟨(Nat.le_of_ble_eq_true rfl), (Nat.le_of_ble_eq_true rfl)⟩) ⟨hz_P.blind, va_recv hK hP (ci := 12) (q0 := 1) rfl rfl, hz_P.mk (hP.sub (ws' := [(a_said, .inl (cs 0, 123, .inl a_said_c)), (a, .inr (12, [.ref a_tape, .int a__taped, .int a__rules, .ref a_sign, .ref a_length, .ref a_clause, .ref a_clauses, .ref a_read, .int a__next, .int a__wrong, .int a__number, .int a__text, .int a__made, .int a__deep, .int a__lines, .ref a_open, .int a__opened, .ref a_stack, .int a__top, .ref a_word, .ref a_said, .int a__x, .ref a_worth, .ref a_mate, .ref a_wasSaid, .int a__undone, .int a__boughtNow, .ref a_wayBy, .ref a_wayThen, .int a__walkMost, .int a__walkGoing, .int a__walkSet, .ref a_kept, .long a__drawX, .ref a_images, .ref a_imageX, .ref a_isMade]))]) [0,1] rfl) hE hS⟩ rfl rfl hl.1 rfl (lv_room (Nat.le_of_ble_eq_true rfl)) dX12_isSet_1 ⟨(Nat.le_of_ble_eq_true rfl), (Nat.le_of_ble_eq_true rfl)⟩) hS (fun _ _ h => h.elim) (fun _ h => h.elim) (fun r1 u t H1 locs ht hvm hw hB hz1 hk1 hS => ?_)
  have hP := hz_keep hP hk1
  clear hk1 hB hz1
  generalize H1 = H at hP hS ⊢
  rcases hw with ⟨rfl, x2⟩ | ⟨rfl, x3⟩
  · refine lv_if_eq (tgt := 27) hx hb dX12_isSet_4 (by decide) (fun _ => ?_) (fun z => absurd (by decide) z)
    refine lv_iconst (v := 0) hx hb dX12_isSet_27 (by decide) ?_
    exact W.zret (v := 0) hx hb hr rfl (fun t ht hW => ⟨⟨0, (), rfl, (Or.inl (rfl)), trivial⟩, hS.F ht⟩) hS.2.2 dX12_isSet_28
  · refine lv_if_eq (tgt := 27) hx hb dX12_isSet_4 (by decide) (fun z => absurd z (by decide)) (fun _ => ?_)
    refine lv_iload_n hx hb dX12_isSet_7 rfl (lv_at hl 1 rfl) ?_
    refine lv_if_lt (tgt := 27) hx hb dX12_isSet_8 (by decide) (fun c4 => ?_) (fun c4 => ?_)
    · have t5 : p0.toInt < 0 := lin_lt c4 rfl (by decide)
      have h6 : IV (-2147483648) (-1) p0 := iv_lt1 c4 iv_top (iv_c (a := 0) (b := 0) (by decide)) (by decide)
      have ii7 : (-2147483648) ≤ p0.toInt ∧ p0.toInt ≤ (-1) := h6
      refine lv_iconst (v := 0) hx hb dX12_isSet_27 (by decide) ?_
      exact W.zret (v := 0) hx hb hr rfl (fun t ht hW => ⟨⟨0, (), rfl, (Or.inl (rfl)), trivial⟩, hS.F ht⟩) hS.2.2 dX12_isSet_28
    · have t8 : p0.toInt ≥ 0 := lin_ltN c4 rfl (by decide)
      have h9 : IV 0 2147483647 p0 := iv_le2 (Int32.not_lt.mp c4) (iv_c (a := 0) (b := 0) (by decide)) iv_top (by decide)
      have ii10 : 0 ≤ p0.toInt ∧ p0.toInt ≤ 2147483647 := h9
      refine lv_iload_n hx hb dX12_isSet_11 rfl (lv_at hl 1 rfl) ?_
      refine lv_iconst (v := 1) hx hb dX12_isSet_12 (by decide) ?_
      refine lv_aload_n hx hb dX12_isSet_13 rfl (lv_at hl 0 rfl) ?_
      refine va_get (D := D) (ci := 12) (v := .ref a_said) (C := RX12) (T := TX12) (N := 37) hx hb hT i_X12 hown hK hP 1 rfl rfl 20 (by decide) (hT _ q_185) (fun _ h9 => h9) rfl dX12_isSet_14 ?_
      refine lv_iconst (v := 1) hx hb dX12_isSet_17 (by decide) ?_
      refine va_iald hx hb hK hP 0 0 rfl rfl (iv_vc (by decide)) dX12_isSet_18 ?_
      refine lv_topi (fun v11 ev11 => ?_)
      have h12 : IV 0 12 v11 := (by rw [ev11]; exact bs_i1 hf0)
      have ii13 : 0 ≤ v11.toInt ∧ v11.toInt ≤ 12 := h12
      have lv11 : v11.toInt = (a_said_c 1).toInt := by rw [ev11]; rfl
      refine lv_ishl hx hb dX12_isSet_19 ?_
      refine lv_topi (fun v14 ev14 => ?_)
      have hv14 : IV 1 4096 v14 := iv_shl1 ev14 h12 (by decide) (by decide) (by decide)
      have ii15 : 1 ≤ v14.toInt ∧ v14.toInt ≤ 4096 := hv14
      refine lv_icmp_ge (tgt := 27) hx hb dX12_isSet_20 (by decide) (fun c16 => ?_) (fun c16 => ?_)
      · have t17 : p0.toInt ≥ v14.toInt := lin_ge c16 rfl rfl
        have h18 : IV 1 2147483647 p0 := iv_le2 c16 hv14 h9 (by decide)
        have ii19 : 1 ≤ p0.toInt ∧ p0.toInt ≤ 2147483647 := h18
        refine lv_iconst (v := 0) hx hb dX12_isSet_27 (by decide) ?_
        exact W.zret (v := 0) hx hb hr rfl (fun t ht hW => ⟨⟨0, (), rfl, (Or.inl (rfl)), trivial⟩, hS.F ht⟩) hS.2.2 dX12_isSet_28
      · have t20 : p0.toInt < v14.toInt := lin_geN c16 rfl rfl
        have h21 : IV 0 4095 p0 := iv_lt1 (Int32.not_le.mp c16) h9 hv14 (by decide)
        have ii22 : 0 ≤ p0.toInt ∧ p0.toInt ≤ 4095 := h21
        refine lv_iconst (v := 1) hx hb dX12_isSet_23 (by decide) ?_
        refine lv_goto (tgt := 28) hx hb dX12_isSet_24 (by decide) ?_
        exact W.zret (v := 1) hx hb hr rfl (fun t ht hW => ⟨⟨1, (), rfl, (Or.inr ((⟨rfl, h21⟩))), trivial⟩, hS.F ht⟩) hS.2.2 dX12_isSet_28
theorem dX12_worth_0 : decode cX12_worth 0 = .ok (.aload_n 0, 1) := by decide +kernel
theorem dX12_worth_1 : decode cX12_worth 1 = .ok (.iload_n 1, 1) := by decide +kernel
theorem dX12_worth_2 : decode cX12_worth 2 = .ok (.invokevirtual 332, 3) := by decide +kernel
theorem dX12_worth_5 : decode cX12_worth 5 = .ok (.ifCond .eq 12, 3) := by decide +kernel
theorem dX12_worth_8 : decode cX12_worth 8 = .ok (.aload_n 0, 1) := by decide +kernel
theorem dX12_worth_9 : decode cX12_worth 9 = .ok (.getfield 42, 3) := by decide +kernel
theorem dX12_worth_12 : decode cX12_worth 12 = .ok (.iload_n 1, 1) := by decide +kernel
theorem dX12_worth_13 : decode cX12_worth 13 = .ok (.iaload, 1) := by decide +kernel
theorem dX12_worth_14 : decode cX12_worth 14 = .ok (.goto 4, 3) := by decide +kernel
theorem dX12_worth_17 : decode cX12_worth 17 = .ok (.iconst (-1), 1) := by decide +kernel
theorem dX12_worth_18 : decode cX12_worth 18 = .ok (.ireturn, 1) := by decide +kernel
set_option maxHeartbeats 4000000 in
set_option maxRecDepth 100000 in
theorem c_X12_worth (l : Launch) (D : va_G) (cs : Nat → ClassId) (kK kV : Nat → Nat) (a : Nat) (p0 : Int32) (a_said : Nat) (a_said_c : Nat → Int32) (a_tape : Nat) (a__taped : Int32) (a__rules : Int32) (a_sign : Nat) (a_length : Nat) (a_clause : Nat) (a_clauses : Nat) (a_read : Nat) (a__next : Int32) (a__wrong : Int32) (a__number : Int32) (a__text : Int32) (a__made : Int32) (a__deep : Int32) (a__lines : Int32) (a_open : Nat) (a__opened : Int32) (a_stack : Nat) (a__top : Int32) (a_word : Nat) (a__x : Int32) (a_worth : Nat) (a_mate : Nat) (a_wasSaid : Nat) (a__undone : Int32) (a__boughtNow : Int32) (a_wayBy : Nat) (a_wayThen : Nat) (a__walkMost : Int32) (a__walkGoing : Int32) (a__walkSet : Int32) (a_kept : Nat) (a__drawX : Int64) (a_images : Nat) (a_imageX : Nat) (a_isMade : Nat) (a_worth_c : Nat → Int32) (h_a__taped : IV 0 400 a__taped) (h_a__rules : IV 0 6 a__rules) (h_a__next : IV 0 400 a__next) (h_a__text : IV 0 6 a__text) (h_a__made : IV 0 60 a__made) (h_a__lines : IV 0 40 a__lines) (h_a__opened : IV 0 400 a__opened) (h_a__top : IV 0 64 a__top) (h_a__x : IV 0 2147483647 a__x) (h_a__undone : IV 0 20 a__undone) (hf0 : BS a_said_c 200) : Met l yX12_worth (hz_w yX12_worth cX12_worth 2 (some .int)) ({ frames := 2, cells := 0, slots := 0, locals := 41 }) (va_Pc [.ref a, .int p0] (hz_P D cs kK kV [(a_said, .inl (cs 0, 123, .inl a_said_c)), (a, .inr (12, [.ref a_tape, .int a__taped, .int a__rules, .ref a_sign, .ref a_length, .ref a_clause, .ref a_clauses, .ref a_read, .int a__next, .int a__wrong, .int a__number, .int a__text, .int a__made, .int a__deep, .int a__lines, .ref a_open, .int a__opened, .ref a_stack, .int a__top, .ref a_word, .ref a_said, .int a__x, .ref a_worth, .ref a_mate, .ref a_wasSaid, .int a__undone, .int a__boughtNow, .ref a_wayBy, .ref a_wayThen, .int a__walkMost, .int a__walkGoing, .int a__walkSet, .ref a_kept, .long a__drawX, .ref a_images, .ref a_imageX, .ref a_isMade])), (a_worth, .inl (cs 0, 4096, .inl a_worth_c))])) (va_Qi (fun (r : Int32) (_ : Unit) => (r = (-1)) ∨ (IV 0 4095 p0)) (fun _ t => True) (fun _ => False)) 0 0 (fun _ => False) := by
  refine Met.ofW (cc := cX12_worth) (maxL := 2) (ret := (some .int)) (by decide) rfl ?_
  intro p e s m args below meth c s₁ B hml hv
  obtain ⟨rfl, hP, hE⟩ := hv
  have hx := B.exec
  have hb := B.bytes
  have hr := B.returns
  have hT : ∀ w ∈ TB, w.before _ s = true := fun w h => atoms_spec (ws := hz_w yX12_worth cX12_worth 2 (some .int)) B.pre w (List.mem_cons_of_mem _ h)
  have hown : s.vm.findClass RX12 = some m.cls := findClass_of_methodNamed B.named
  have hlocks := B.notSynchronized
  clear B
  have hS : va_S (fun _ => False) s.heap s.heap [] := va_S.rf
  have hK := hE.1
  have hl := lv_entry ([.ref a, .int p0]) (n := 2) (Nat.le_of_ble_eq_true rfl)
  rw [lg_entry_eq]
  generalize (lg_sl ([.ref a, .int p0]) ++ List.replicate (2 - (lg_sl ([.ref a, .int p0])).length) Slot.unset).toArray = ls at hl ⊢
  have hl : lv_has ls 2 [(0, .ref a), (1, .int p0)] := hl
  obtain ⟨H, eH⟩ : ∃ z, z = s.heap := ⟨_, rfl⟩
  have hP : va_P D classes [(a_said, .inl (cs 0, 123, .inl a_said_c)), (a, .inr (12, [.ref a_tape, .int a__taped, .int a__rules, .ref a_sign, .ref a_length, .ref a_clause, .ref a_clauses, .ref a_read, .int a__next, .int a__wrong, .int a__number, .int a__text, .int a__made, .int a__deep, .int a__lines, .ref a_open, .int a__opened, .ref a_stack, .int a__top, .ref a_word, .ref a_said, .int a__x, .ref a_worth, .ref a_mate, .ref a_wasSaid, .int a__undone, .int a__boughtNow, .ref a_wayBy, .ref a_wayThen, .int a__walkMost, .int a__walkGoing, .int a__walkSet, .ref a_kept, .long a__drawX, .ref a_images, .ref a_imageX, .ref a_isMade])), (a_worth, .inl (cs 0, 4096, .inl a_worth_c))] H := by rw [eH]; exact hP
  have hS : va_S (fun _ => False) s.heap H [] := by rw [eH]; exact hS
  rw [← eH]
  clear eH
  obtain ⟨locs, el⟩ : ∃ z : List Loc, z = [] := ⟨_, rfl⟩
  rw [← el] at hS ⊢
  clear el
  have z0 : (0 : Int32).toInt = 0 := by decide
  have z1 : (1 : Int32).toInt = 1 := by decide
  have zm1 : (-1 : Int32).toInt = -1 := by decide
  have i_a__lines : 0 ≤ a__lines.toInt ∧ a__lines.toInt ≤ 40 := h_a__lines
  have i_a__made : 0 ≤ a__made.toInt ∧ a__made.toInt ≤ 60 := h_a__made
  have i_a__next : 0 ≤ a__next.toInt ∧ a__next.toInt ≤ 400 := h_a__next
  have i_a__opened : 0 ≤ a__opened.toInt ∧ a__opened.toInt ≤ 400 := h_a__opened
  have i_a__rules : 0 ≤ a__rules.toInt ∧ a__rules.toInt ≤ 6 := h_a__rules
  have i_a__taped : 0 ≤ a__taped.toInt ∧ a__taped.toInt ≤ 400 := h_a__taped
  have i_a__text : 0 ≤ a__text.toInt ∧ a__text.toInt ≤ 6 := h_a__text
  have i_a__top : 0 ≤ a__top.toInt ∧ a__top.toInt ≤ 64 := h_a__top
  have i_a__undone : 0 ≤ a__undone.toInt ∧ a__undone.toInt ≤ 20 := h_a__undone
  have i_a__x : 0 ≤ a__x.toInt ∧ a__x.toInt ≤ 2147483647 := h_a__x
  refine lv_aload_n hx hb dX12_worth_0 rfl (lv_at hl 0 rfl) ?_
  refine lv_iload_n hx hb dX12_worth_1 rfl (lv_at hl 1 rfl) ?_
  refine va_calli (va_runV (As := [.int p0]) (rest := []) ⟨hx, hb, hml, hown, hT⟩ (c_X12_isSet l D cs kK kV a p0 a_said a_said_c a_tape a__taped a__rules a_sign a_length a_clause a_clauses a_read a__next a__wrong a__number a__text a__made a__deep a__lines a_open a__opened a_stack a__top a_word a__x a_worth a_mate a_wasSaid a__undone a__boughtNow a_wayBy a_wayThen a__walkMost a__walkGoing a__walkSet a_kept a__drawX a_images a_imageX a_isMade h_a__taped h_a__rules h_a__next h_a__text h_a__made h_a__lines h_a__opened h_a__top h_a__x h_a__undone hf0) (cwV 1 hT (hz_gV q_1144 q_1145 q_1146 q_701 q_1147) rfl rfl rfl (by decide +kernel) ⟨(Nat.le_of_ble_eq_true rfl), (Nat.le_of_ble_eq_true rfl)⟩) ⟨hz_P.blind, va_recv hK hP (ci := 12) (q0 := 1) rfl rfl, hz_P.mk (hP.sub (ws' := [(a_said, .inl (cs 0, 123, .inl a_said_c)), (a, .inr (12, [.ref a_tape, .int a__taped, .int a__rules, .ref a_sign, .ref a_length, .ref a_clause, .ref a_clauses, .ref a_read, .int a__next, .int a__wrong, .int a__number, .int a__text, .int a__made, .int a__deep, .int a__lines, .ref a_open, .int a__opened, .ref a_stack, .int a__top, .ref a_word, .ref a_said, .int a__x, .ref a_worth, .ref a_mate, .ref a_wasSaid, .int a__undone, .int a__boughtNow, .ref a_wayBy, .ref a_wayThen, .int a__walkMost, .int a__walkGoing, .int a__walkSet, .ref a_kept, .long a__drawX, .ref a_images, .ref a_imageX, .ref a_isMade]))]) [0,1] rfl) hE hS⟩ rfl rfl hl.1 rfl (lv_room (Nat.le_of_ble_eq_true rfl)) dX12_worth_2 ⟨(Nat.le_of_ble_eq_true rfl), (Nat.le_of_ble_eq_true rfl)⟩) hS (fun _ _ h => h.elim) (fun _ h => h.elim) (fun r1 u t H1 locs ht hvm hw hB hz1 hk1 hS => ?_)
  have hP := hz_keep hP hk1
  clear hk1 hB hz1
  generalize H1 = H at hP hS ⊢
  rcases hw with rfl | ⟨rfl, h2⟩
  · refine lv_if_eq (tgt := 17) hx hb dX12_worth_5 (by decide) (fun _ => ?_) (fun z => absurd (by decide) z)
    refine lv_iconst (v := (-1)) hx hb dX12_worth_17 (by decide) ?_
    exact W.iret (v := (-1)) hx hb hr (fun t ht hW => ⟨⟨(-1), (), rfl, (Or.inl (rfl)), trivial⟩, hS.F ht⟩) hS.2.2 dX12_worth_18
  · have ii3 : 0 ≤ p0.toInt ∧ p0.toInt ≤ 4095 := h2
    refine lv_if_eq (tgt := 17) hx hb dX12_worth_5 (by decide) (fun z => absurd z (by decide)) (fun _ => ?_)
    refine lv_aload_n hx hb dX12_worth_8 rfl (lv_at hl 0 rfl) ?_
    refine va_get (D := D) (ci := 12) (v := .ref a_worth) (C := RX12) (T := TX12) (N := 37) hx hb hT i_X12 hown hK hP 1 rfl rfl 22 (by decide) (hT _ q_186) (fun _ h9 => h9) rfl dX12_worth_9 ?_
    refine lv_iload_n hx hb dX12_worth_12 rfl (lv_at hl 1 rfl) ?_
    refine va_iald hx hb hK hP 2 0 rfl rfl (iv_v h2 (by decide) (by decide)) dX12_worth_13 ?_
    refine lv_topi (fun v4 ev4 => ?_)
    have lv4 : v4.toInt = (a_worth_c (Int32.toNatClampNeg p0)).toInt := by rw [ev4]
    refine lv_goto (tgt := 18) hx hb dX12_worth_14 (by decide) ?_
    exact W.iret (v := v4) hx hb hr (fun t ht hW => ⟨⟨v4, (), rfl, (Or.inr ((h2))), trivial⟩, hS.F ht⟩) hS.2.2 dX12_worth_18
theorem dX12_bits_0 : decode cX12_bits 0 = .ok (.iconst 0, 1) := by decide +kernel
theorem dX12_bits_1 : decode cX12_bits 1 = .ok (.istore_n 1, 1) := by decide +kernel
theorem dX12_bits_2 : decode cX12_bits 2 = .ok (.iload_n 0, 1) := by decide +kernel
theorem dX12_bits_3 : decode cX12_bits 3 = .ok (.istore_n 2, 1) := by decide +kernel
theorem dX12_bits_4 : decode cX12_bits 4 = .ok (.iload_n 2, 1) := by decide +kernel
theorem dX12_bits_5 : decode cX12_bits 5 = .ok (.ifCond .eq 15, 3) := by decide +kernel
theorem dX12_bits_8 : decode cX12_bits 8 = .ok (.iinc 1 1, 3) := by decide +kernel
theorem dX12_bits_11 : decode cX12_bits 11 = .ok (.iload_n 2, 1) := by decide +kernel
theorem dX12_bits_12 : decode cX12_bits 12 = .ok (.iload_n 2, 1) := by decide +kernel
theorem dX12_bits_13 : decode cX12_bits 13 = .ok (.iconst 1, 1) := by decide +kernel
theorem dX12_bits_14 : decode cX12_bits 14 = .ok (.isub, 1) := by decide +kernel
theorem dX12_bits_15 : decode cX12_bits 15 = .ok (.iand, 1) := by decide +kernel
theorem dX12_bits_16 : decode cX12_bits 16 = .ok (.istore_n 2, 1) := by decide +kernel
theorem dX12_bits_17 : decode cX12_bits 17 = .ok (.goto (-13), 3) := by decide +kernel
theorem dX12_bits_20 : decode cX12_bits 20 = .ok (.iload_n 1, 1) := by decide +kernel
theorem dX12_bits_21 : decode cX12_bits 21 = .ok (.ireturn, 1) := by decide +kernel
set_option maxHeartbeats 4000000 in
set_option maxRecDepth 100000 in
theorem c_X12_bits (l : Launch) (D : va_G) (cs : Nat → ClassId) (kK kV : Nat → Nat) (p0 : Int32)  : Met l yX12_bits (hz_w yX12_bits cX12_bits 3 (some .int)) ({ frames := 0, cells := 0, slots := 0, locals := 0 }) (va_Pc [.int p0] (hz_P D cs kK kV [])) (va_Qi (fun (r : Int32) (_ : Unit) => True) (fun _ t => True) (fun _ => False)) 0 0 (fun _ => False) := by
  refine Met.ofW (cc := cX12_bits) (maxL := 3) (ret := (some .int)) (by decide) rfl ?_
  intro p e s m args below meth c s₁ B hml hv
  obtain ⟨rfl, hP, hE⟩ := hv
  have hx := B.exec
  have hb := B.bytes
  have hr := B.returns
  have hT : ∀ w ∈ TB, w.before _ s = true := fun w h => atoms_spec (ws := hz_w yX12_bits cX12_bits 3 (some .int)) B.pre w (List.mem_cons_of_mem _ h)
  have hown : s.vm.findClass RX12 = some m.cls := findClass_of_methodNamed B.named
  have hlocks := B.notSynchronized
  clear B
  have hS : va_S (fun _ => False) s.heap s.heap [] := va_S.rf
  have hK := hE.1
  have hl := lv_entry ([.int p0]) (n := 3) (Nat.le_of_ble_eq_true rfl)
  rw [lg_entry_eq]
  generalize (lg_sl ([.int p0]) ++ List.replicate (3 - (lg_sl ([.int p0])).length) Slot.unset).toArray = ls at hl ⊢
  have hl : lv_has ls 3 [(0, .int p0)] := hl
  obtain ⟨H, eH⟩ : ∃ z, z = s.heap := ⟨_, rfl⟩
  have hP : va_P D classes [] H := by rw [eH]; exact hP
  have hS : va_S (fun _ => False) s.heap H [] := by rw [eH]; exact hS
  rw [← eH]
  clear eH
  obtain ⟨locs, el⟩ : ∃ z : List Loc, z = [] := ⟨_, rfl⟩
  rw [← el] at hS ⊢
  clear el
  have z0 : (0 : Int32).toInt = 0 := by decide
  have z1 : (1 : Int32).toInt = 1 := by decide
  have zm1 : (-1 : Int32).toInt = -1 := by decide
  have K4 : ∀ (n : Nat) (k4_L_2 : Int32) (k4_L_1 : Int32), ((k4_L_2.toBitVec.toNat : Int) + 1).toNat ≤ n → ∀ (H : Heap) (locs : List Loc), va_P D classes [] H → va_S (fun _ => False) s.heap H locs → ∀ ls : Array Slot, lv_has ls 3 [(2, .int k4_L_2), (1, .int k4_L_1), (0, .int p0)] → W p l e (headSpec (hz_w yX12_bits cX12_bits 3 (some .int)) ({ frames := 0, cells := 0, slots := 0, locals := 0 })).room s m [.int p0].toArray below meth c H locs 0 0 (MQ below (va_Qi (fun (r : Int32) (_ : Unit) => True) (fun _ t => True) (fun _ => False)) [.int p0].toArray s 0 0 (fun _ => False)) (F0 m 4 ls []) := by
    intro n
    induction n with
    | zero =>
      intro k4_L_2 k4_L_1 hn  H locs hP hS ls hl
      exact absurd hn (by omega)
    | succ n ih4 =>
      intro k4_L_2 k4_L_1 hn  H locs hP hS ls hl
      refine lv_iload_n hx hb dX12_bits_4 rfl (lv_at hl 0 rfl) ?_
      refine lv_if_eq (tgt := 20) hx hb dX12_bits_5 (by decide) (fun c1 => ?_) (fun c1 => ?_)
      · have t2 : k4_L_2.toInt = 0 := lin_eq c1 rfl (by decide)
        have h3 : IV 0 0 k4_L_2 := iv_eq1 c1 iv_top (iv_c (a := 0) (b := 0) (by decide)) (by decide) (by decide)
        have ii4 : 0 ≤ k4_L_2.toInt ∧ k4_L_2.toInt ≤ 0 := h3
        refine lv_iload_n hx hb dX12_bits_20 rfl (lv_at hl 1 rfl) ?_
        exact W.iret (v := k4_L_1) hx hb hr (fun t ht hW => ⟨⟨k4_L_1, (), rfl, trivial, trivial⟩, hS.F ht⟩) hS.2.2 dX12_bits_21
      · have t5 : k4_L_2.toInt ≠ 0 := lin_ne c1 rfl (by decide)
        obtain ⟨v6, ev6⟩ : ∃ z : Int32, z = k4_L_1 + 1 := ⟨_, rfl⟩
        refine lv_iinc (v := v6) (lv' := [(1, .int v6), (2, .int k4_L_2), (0, .int p0)]) hx hb dX12_bits_8 hl (k := 1) rfl (by rw [ev6]; rfl) (by decide) rfl (fun ls hl => ?_)
        refine lv_iload_n hx hb dX12_bits_11 rfl (lv_at hl 1 rfl) ?_
        refine lv_iload_n hx hb dX12_bits_12 rfl (lv_at hl 1 rfl) ?_
        refine lv_iconst (v := 1) hx hb dX12_bits_13 (by decide) ?_
        refine lv_isub hx hb dX12_bits_14 ?_
        refine lv_topi (fun v7 ev7 => ?_)
        refine lv_iand hx hb dX12_bits_15 ?_
        refine lv_topi (fun v8 ev8 => ?_)
        refine lv_istore_n (lv' := [(2, .int v8), (1, .int v6), (0, .int p0)]) hx hb dX12_bits_16 rfl hl (by decide) rfl (fun ls hl => ?_)
        have bd := bits_dn ev7 ev8 (by assumption)
        refine lv_goto (tgt := 4) hx hb dX12_bits_17 (by decide) ?_
        exact ih4 v8 v6 (by have h9 := hn; omega) H locs (hP.sub (ws' := []) [] rfl) hS ls (lv_sub hl [0, 1, 2] rfl)
  refine lv_iconst (v := 0) hx hb dX12_bits_0 (by decide) ?_
  refine lv_istore_n (lv' := [(1, .int 0), (0, .int p0)]) hx hb dX12_bits_1 rfl hl (by decide) rfl (fun ls hl => ?_)
  refine lv_iload_n hx hb dX12_bits_2 rfl (lv_at hl 1 rfl) ?_
  refine lv_istore_n (lv' := [(2, .int p0), (1, .int 0), (0, .int p0)]) hx hb dX12_bits_3 rfl hl (by decide) rfl (fun ls hl => ?_)
  exact K4 _ p0 ((0 : Int32)) (Nat.le_refl _) H locs (hP.sub (ws' := []) [] rfl) hS ls (lv_sub hl [0, 1, 2] rfl)
