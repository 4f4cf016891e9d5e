theorem dX12_with_0 : decode cX12_with 0 = .ok (.aload_n 0, 1) := by decide +kernel
theorem dX12_with_1 : decode cX12_with 1 = .ok (.iload_n 1, 1) := by decide +kernel
theorem dX12_with_2 : decode cX12_with 2 = .ok (.invokevirtual 332, 3) := by decide +kernel
theorem dX12_with_5 : decode cX12_with 5 = .ok (.ifCond .eq 19, 3) := by decide +kernel
theorem dX12_with_8 : decode cX12_with 8 = .ok (.aload_n 0, 1) := by decide +kernel
theorem dX12_with_9 : decode cX12_with 9 = .ok (.iload_n 2, 1) := by decide +kernel
theorem dX12_with_10 : decode cX12_with 10 = .ok (.invokevirtual 335, 3) := by decide +kernel
theorem dX12_with_13 : decode cX12_with 13 = .ok (.ifCond .eq 11, 3) := by decide +kernel
theorem dX12_with_16 : decode cX12_with 16 = .ok (.iload_n 1, 1) := by decide +kernel
theorem dX12_with_17 : decode cX12_with 17 = .ok (.iload_n 2, 1) := by decide +kernel
theorem dX12_with_18 : decode cX12_with 18 = .ok (.invokestatic 215, 3) := by decide +kernel
theorem dX12_with_21 : decode cX12_with 21 = .ok (.ifCond .ne 6, 3) := by decide +kernel
theorem dX12_with_24 : decode cX12_with 24 = .ok (.bipush (-2), 2) := by decide +kernel
theorem dX12_with_26 : decode cX12_with 26 = .ok (.ireturn, 1) := by decide +kernel
theorem dX12_with_27 : decode cX12_with 27 = .ok (.iload_n 1, 1) := by decide +kernel
theorem dX12_with_28 : decode cX12_with 28 = .ok (.istore_n 3, 1) := by decide +kernel
theorem dX12_with_29 : decode cX12_with 29 = .ok (.aload_n 0, 1) := by decide +kernel
theorem dX12_with_30 : decode cX12_with 30 = .ok (.iload_n 3, 1) := by decide +kernel
theorem dX12_with_31 : decode cX12_with 31 = .ok (.invokevirtual 323, 3) := by decide +kernel
theorem dX12_with_34 : decode cX12_with 34 = .ok (.istore 4, 2) := by decide +kernel
theorem dX12_with_36 : decode cX12_with 36 = .ok (.aload_n 0, 1) := by decide +kernel
theorem dX12_with_37 : decode cX12_with 37 = .ok (.getfield 45, 3) := by decide +kernel
theorem dX12_with_40 : decode cX12_with 40 = .ok (.iload_n 3, 1) := by decide +kernel
theorem dX12_with_41 : decode cX12_with 41 = .ok (.iaload, 1) := by decide +kernel
theorem dX12_with_42 : decode cX12_with 42 = .ok (.istore 5, 2) := by decide +kernel
theorem dX12_with_44 : decode cX12_with 44 = .ok (.iload 4, 2) := by decide +kernel
theorem dX12_with_46 : decode cX12_with 46 = .ok (.iload_n 2, 1) := by decide +kernel
theorem dX12_with_47 : decode cX12_with 47 = .ok (.if_icmp .ne 6, 3) := by decide +kernel
theorem dX12_with_50 : decode cX12_with 50 = .ok (.iload 5, 2) := by decide +kernel
theorem dX12_with_52 : decode cX12_with 52 = .ok (.ireturn, 1) := by decide +kernel
theorem dX12_with_53 : decode cX12_with 53 = .ok (.iload 5, 2) := by decide +kernel
theorem dX12_with_55 : decode cX12_with 55 = .ok (.iload_n 2, 1) := by decide +kernel
theorem dX12_with_56 : decode cX12_with 56 = .ok (.if_icmp .ne 6, 3) := by decide +kernel
theorem dX12_with_59 : decode cX12_with 59 = .ok (.iload 4, 2) := by decide +kernel
theorem dX12_with_61 : decode cX12_with 61 = .ok (.ireturn, 1) := by decide +kernel
theorem dX12_with_62 : decode cX12_with 62 = .ok (.iload_n 3, 1) := by decide +kernel
theorem dX12_with_63 : decode cX12_with 63 = .ok (.iconst 1, 1) := by decide +kernel
theorem dX12_with_64 : decode cX12_with 64 = .ok (.iload 4, 2) := by decide +kernel
theorem dX12_with_66 : decode cX12_with 66 = .ok (.ishl, 1) := by decide +kernel
theorem dX12_with_67 : decode cX12_with 67 = .ok (.iload 5, 2) := by decide +kernel
theorem dX12_with_69 : decode cX12_with 69 = .ok (.ifCond .ge 7, 3) := by decide +kernel
theorem dX12_with_72 : decode cX12_with 72 = .ok (.iconst 0, 1) := by decide +kernel
theorem dX12_with_73 : decode cX12_with 73 = .ok (.goto 7, 3) := by decide +kernel
theorem dX12_with_76 : decode cX12_with 76 = .ok (.iconst 1, 1) := by decide +kernel
theorem dX12_with_77 : decode cX12_with 77 = .ok (.iload 5, 2) := by decide +kernel
theorem dX12_with_79 : decode cX12_with 79 = .ok (.ishl, 1) := by decide +kernel
theorem dX12_with_80 : decode cX12_with 80 = .ok (.ior, 1) := by decide +kernel
theorem dX12_with_81 : decode cX12_with 81 = .ok (.iconst (-1), 1) := by decide +kernel
theorem dX12_with_82 : decode cX12_with 82 = .ok (.ixor, 1) := by decide +kernel
theorem dX12_with_83 : decode cX12_with 83 = .ok (.iand, 1) := by decide +kernel
theorem dX12_with_84 : decode cX12_with 84 = .ok (.istore_n 3, 1) := by decide +kernel
theorem dX12_with_85 : decode cX12_with 85 = .ok (.goto (-56), 3) := by decide +kernel
set_option maxHeartbeats 4000000 in
set_option maxRecDepth 100000 in
theorem c_X12_with (l : Launch) (D : va_G) (cs : Nat → ClassId) (kK kV : Nat → Nat) (a : Nat) (p0 : Int32) (p1 : Int32) (a_said : Nat) (a_said_c : Nat → Int32) (a_tape : Nat) (a__taped : Int32) (a__rules : Int32) (a_sign : Nat) (a_length : Nat) (a_clause : Nat) (a_clauses : Nat) (a_read : Nat) (a__next : Int32) (a__wrong : Int32) (a__number : Int32) (a__text : Int32) (a__made : Int32) (a__deep : Int32) (a__lines : Int32) (a_open : Nat) (a__opened : Int32) (a_stack : Nat) (a__top : Int32) (a_word : Nat) (a__x : Int32) (a_worth : Nat) (a_mate : Nat) (a_wasSaid : Nat) (a__undone : Int32) (a__boughtNow : Int32) (a_wayBy : Nat) (a_wayThen : Nat) (a__walkMost : Int32) (a__walkGoing : Int32) (a__walkSet : Int32) (a_kept : Nat) (a__drawX : Int64) (a_images : Nat) (a_imageX : Nat) (a_isMade : Nat) (a_mate_c : Nat → Int32) (h_a__taped : IV 0 400 a__taped) (h_a__rules : IV 0 6 a__rules) (h_a__next : IV 0 400 a__next) (h_a__text : IV 0 6 a__text) (h_a__made : IV 0 60 a__made) (h_a__lines : IV 0 40 a__lines) (h_a__opened : IV 0 400 a__opened) (h_a__top : IV 0 64 a__top) (h_a__x : IV 0 2147483647 a__x) (h_a__undone : IV 0 20 a__undone) (h_a_mate_c : CI 4096 (-1) 11 a_mate_c) (hf0 : BS a_said_c 200) : Met l yX12_with (hz_w yX12_with cX12_with 6 (some .int)) ({ frames := 2, cells := 0, slots := 0, locals := 43 }) (va_Pc [.ref a, .int p0, .int p1] (hz_P D cs kK kV [(a_said, .inl (cs 0, 123, .inl a_said_c)), (a, .inr (12, [.ref a_tape, .int a__taped, .int a__rules, .ref a_sign, .ref a_length, .ref a_clause, .ref a_clauses, .ref a_read, .int a__next, .int a__wrong, .int a__number, .int a__text, .int a__made, .int a__deep, .int a__lines, .ref a_open, .int a__opened, .ref a_stack, .int a__top, .ref a_word, .ref a_said, .int a__x, .ref a_worth, .ref a_mate, .ref a_wasSaid, .int a__undone, .int a__boughtNow, .ref a_wayBy, .ref a_wayThen, .int a__walkMost, .int a__walkGoing, .int a__walkSet, .ref a_kept, .long a__drawX, .ref a_images, .ref a_imageX, .ref a_isMade])), (a_mate, .inl (cs 0, 4096, .inl a_mate_c))])) (va_Qi (fun (r : Int32) (_ : Unit) => (r = (-2)) ∨ (IV (-1) 11 r ∧ IV 1 4095 p0 ∧ IV 0 11 p1)) (fun _ t => True) (fun _ => False)) 0 0 (fun _ => False) := by
  refine Met.ofW (cc := cX12_with) (maxL := 6) (ret := (some .int)) (by decide) rfl ?_
  intro p e s m args below meth c s₁ B hml hv
  obtain ⟨rfl, hP, hE⟩ := hv
  have hx := B.exec
  have hb := B.bytes
  have hr := B.returns
  have hT : ∀ w ∈ TB, w.before _ s = true := fun w h => atoms_spec (ws := hz_w yX12_with cX12_with 6 (some .int)) B.pre w (List.mem_cons_of_mem _ h)
  have hown : s.vm.findClass RX12 = some m.cls := findClass_of_methodNamed B.named
  have hlocks := B.notSynchronized
  clear B
  have hS : va_S (fun _ => False) s.heap s.heap [] := va_S.rf
  have hK := hE.1
  have hl := lv_entry ([.ref a, .int p0, .int p1]) (n := 6) (Nat.le_of_ble_eq_true rfl)
  rw [lg_entry_eq]
  generalize (lg_sl ([.ref a, .int p0, .int p1]) ++ List.replicate (6 - (lg_sl ([.ref a, .int p0, .int p1])).length) Slot.unset).toArray = ls at hl ⊢
  have hl : lv_has ls 6 [(0, .ref a), (1, .int p0), (2, .int p1)] := hl
  obtain ⟨H, eH⟩ : ∃ z, z = s.heap := ⟨_, rfl⟩
  have hP : va_P D classes [(a_said, .inl (cs 0, 123, .inl a_said_c)), (a, .inr (12, [.ref a_tape, .int a__taped, .int a__rules, .ref a_sign, .ref a_length, .ref a_clause, .ref a_clauses, .ref a_read, .int a__next, .int a__wrong, .int a__number, .int a__text, .int a__made, .int a__deep, .int a__lines, .ref a_open, .int a__opened, .ref a_stack, .int a__top, .ref a_word, .ref a_said, .int a__x, .ref a_worth, .ref a_mate, .ref a_wasSaid, .int a__undone, .int a__boughtNow, .ref a_wayBy, .ref a_wayThen, .int a__walkMost, .int a__walkGoing, .int a__walkSet, .ref a_kept, .long a__drawX, .ref a_images, .ref a_imageX, .ref a_isMade])), (a_mate, .inl (cs 0, 4096, .inl a_mate_c))] H := by rw [eH]; exact hP
  have hS : va_S (fun _ => False) s.heap H [] := by rw [eH]; exact hS
  rw [← eH]
  clear eH
  obtain ⟨locs, el⟩ : ∃ z : List Loc, z = [] := ⟨_, rfl⟩
  rw [← el] at hS ⊢
  clear el
  have z0 : (0 : Int32).toInt = 0 := by decide
  have z1 : (1 : Int32).toInt = 1 := by decide
  have zm1 : (-1 : Int32).toInt = -1 := by decide
  have i_a__lines : 0 ≤ a__lines.toInt ∧ a__lines.toInt ≤ 40 := h_a__lines
  have i_a__made : 0 ≤ a__made.toInt ∧ a__made.toInt ≤ 60 := h_a__made
  have i_a__next : 0 ≤ a__next.toInt ∧ a__next.toInt ≤ 400 := h_a__next
  have i_a__opened : 0 ≤ a__opened.toInt ∧ a__opened.toInt ≤ 400 := h_a__opened
  have i_a__rules : 0 ≤ a__rules.toInt ∧ a__rules.toInt ≤ 6 := h_a__rules
  have i_a__taped : 0 ≤ a__taped.toInt ∧ a__taped.toInt ≤ 400 := h_a__taped
  have i_a__text : 0 ≤ a__text.toInt ∧ a__text.toInt ≤ 6 := h_a__text
  have i_a__top : 0 ≤ a__top.toInt ∧ a__top.toInt ≤ 64 := h_a__top
  have i_a__undone : 0 ≤ a__undone.toInt ∧ a__undone.toInt ≤ 20 := h_a__undone
  have i_a__x : 0 ≤ a__x.toInt ∧ a__x.toInt ≤ 2147483647 := h_a__x
  have K29 : ∀ (n : Nat) (k29_L_3 : Int32), (k29_L_3.toInt).toNat ≤ n → IV 1 4095 k29_L_3 → IV 1 4095 p0 → IV 0 11 p1 → (BT k29_L_3 p1) → ∀ (H : Heap) (locs : List Loc), va_P D classes [(a_said, .inl (cs 0, 123, .inl a_said_c)), (a, .inr (12, [.ref a_tape, .int a__taped, .int a__rules, .ref a_sign, .ref a_length, .ref a_clause, .ref a_clauses, .ref a_read, .int a__next, .int a__wrong, .int a__number, .int a__text, .int a__made, .int a__deep, .int a__lines, .ref a_open, .int a__opened, .ref a_stack, .int a__top, .ref a_word, .ref a_said, .int a__x, .ref a_worth, .ref a_mate, .ref a_wasSaid, .int a__undone, .int a__boughtNow, .ref a_wayBy, .ref a_wayThen, .int a__walkMost, .int a__walkGoing, .int a__walkSet, .ref a_kept, .long a__drawX, .ref a_images, .ref a_imageX, .ref a_isMade])), (a_mate, .inl (cs 0, 4096, .inl a_mate_c))] H → va_S (fun _ => False) s.heap H locs → ∀ ls : Array Slot, lv_has ls 6 [(3, .int k29_L_3), (0, .ref a), (1, .int p0), (2, .int p1)] → W p l e (headSpec (hz_w yX12_with cX12_with 6 (some .int)) ({ frames := 2, cells := 0, slots := 0, locals := 43 })).room s m [.ref a, .int p0, .int p1].toArray below meth c H locs 0 0 (MQ below (va_Qi (fun (r : Int32) (_ : Unit) => (r = (-2)) ∨ (IV (-1) 11 r ∧ IV 1 4095 p0 ∧ IV 0 11 p1)) (fun _ t => True) (fun _ => False)) [.ref a, .int p0, .int p1].toArray s 0 0 (fun _ => False)) (F0 m 29 ls []) := by
    intro n
    induction n with
    | zero =>
      intro k29_L_3 hn q29_10 q29_11 q29_12 x29_0 H locs hP hS ls hl
      have i_a__lines : 0 ≤ a__lines.toInt ∧ a__lines.toInt ≤ 40 := h_a__lines
      have i_a__made : 0 ≤ a__made.toInt ∧ a__made.toInt ≤ 60 := h_a__made
      have i_a__next : 0 ≤ a__next.toInt ∧ a__next.toInt ≤ 400 := h_a__next
      have i_a__opened : 0 ≤ a__opened.toInt ∧ a__opened.toInt ≤ 400 := h_a__opened
      have i_a__rules : 0 ≤ a__rules.toInt ∧ a__rules.toInt ≤ 6 := h_a__rules
      have i_a__taped : 0 ≤ a__taped.toInt ∧ a__taped.toInt ≤ 400 := h_a__taped
      have i_a__text : 0 ≤ a__text.toInt ∧ a__text.toInt ≤ 6 := h_a__text
      have i_a__top : 0 ≤ a__top.toInt ∧ a__top.toInt ≤ 64 := h_a__top
      have i_a__undone : 0 ≤ a__undone.toInt ∧ a__undone.toInt ≤ 20 := h_a__undone
      have i_a__x : 0 ≤ a__x.toInt ∧ a__x.toInt ≤ 2147483647 := h_a__x
      have i_k29_L_3 : 1 ≤ k29_L_3.toInt ∧ k29_L_3.toInt ≤ 4095 := q29_10
      have i_p0 : 1 ≤ p0.toInt ∧ p0.toInt ≤ 4095 := q29_11
      have i_p1 : 0 ≤ p1.toInt ∧ p1.toInt ≤ 11 := q29_12
      exact absurd hn (by omega)
    | succ n ih29 =>
      intro k29_L_3 hn q29_10 q29_11 q29_12 x29_0 H locs hP hS ls hl
      have i_a__lines : 0 ≤ a__lines.toInt ∧ a__lines.toInt ≤ 40 := h_a__lines
      have i_a__made : 0 ≤ a__made.toInt ∧ a__made.toInt ≤ 60 := h_a__made
      have i_a__next : 0 ≤ a__next.toInt ∧ a__next.toInt ≤ 400 := h_a__next
      have i_a__opened : 0 ≤ a__opened.toInt ∧ a__opened.toInt ≤ 400 := h_a__opened
      have i_a__rules : 0 ≤ a__rules.toInt ∧ a__rules.toInt ≤ 6 := h_a__rules
      have i_a__taped : 0 ≤ a__taped.toInt ∧ a__taped.toInt ≤ 400 := h_a__taped
      have i_a__text : 0 ≤ a__text.toInt ∧ a__text.toInt ≤ 6 := h_a__text
      have i_a__top : 0 ≤ a__top.toInt ∧ a__top.toInt ≤ 64 := h_a__top
      have i_a__undone : 0 ≤ a__undone.toInt ∧ a__undone.toInt ≤ 20 := h_a__undone
      have i_a__x : 0 ≤ a__x.toInt ∧ a__x.toInt ≤ 2147483647 := h_a__x
      have i_k29_L_3 : 1 ≤ k29_L_3.toInt ∧ k29_L_3.toInt ≤ 4095 := q29_10
      have i_p0 : 1 ≤ p0.toInt ∧ p0.toInt ≤ 4095 := q29_11
      have i_p1 : 0 ≤ p1.toInt ∧ p1.toInt ≤ 11 := q29_12
      refine lv_aload_n hx hb dX12_with_29 rfl (lv_at hl 1 rfl) ?_
      refine lv_iload_n hx hb dX12_with_30 rfl (lv_at hl 0 rfl) ?_
      refine va_calli (va_runV (As := [.int k29_L_3]) (rest := []) ⟨hx, hb, hml, hown, hT⟩ (c_X12_leastOf l D cs kK kV a k29_L_3 q29_10) (cwV 1 hT (hz_gV q_1132 q_1133 q_1134 q_701 q_1135) rfl rfl rfl (by decide +kernel) ⟨(Nat.le_of_ble_eq_true rfl), (Nat.le_of_ble_eq_true rfl)⟩) ⟨hz_P.blind, va_recv hK hP (ci := 12) (q0 := 1) rfl rfl, hz_P.mk (hP.sub (ws' := []) [] rfl) hE hS⟩ rfl rfl hl.1 rfl (lv_room (Nat.le_of_ble_eq_true rfl)) dX12_with_31 ⟨(Nat.le_of_ble_eq_true rfl), (Nat.le_of_ble_eq_true rfl)⟩) hS (fun _ _ h => h.elim) (fun _ h => h.elim) (fun r1 u t H1 locs ht hvm hw hB hz1 hk1 hS => ?_)
      have hP := hz_keep hP hk1
      clear hk1 hB hz1
      generalize H1 = H at hP hS ⊢
      rcases hw with ⟨h2, x3⟩
      have ii4 : 0 ≤ r1.toInt ∧ r1.toInt ≤ 11 := h2
      refine lv_istore (lv' := [(4, .int r1), (3, .int k29_L_3), (0, .ref a), (1, .int p0), (2, .int p1)]) hx hb dX12_with_34 hl (by decide) rfl (fun ls hl => ?_)
      refine lv_aload_n hx hb dX12_with_36 rfl (lv_at hl 2 rfl) ?_
      refine va_get (D := D) (ci := 12) (v := .ref a_mate) (C := RX12) (T := TX12) (N := 37) hx hb hT i_X12 hown hK hP 1 rfl rfl 23 (by decide) (hT _ q_187) (fun _ h9 => h9) rfl dX12_with_37 ?_
      refine lv_iload_n hx hb dX12_with_40 rfl (lv_at hl 1 rfl) ?_
      refine va_iald hx hb hK hP 2 0 rfl rfl (iv_v q29_10 (by decide) (by decide)) dX12_with_41 ?_
      refine lv_topi (fun v5 ev5 => ?_)
      have hv5 : IV (-1) 11 v5 := iv_ci ev5 h_a_mate_c (iv_v q29_10 (by decide) (by decide))
      have ii6 : (-1) ≤ v5.toInt ∧ v5.toInt ≤ 11 := hv5
      have lv5 : v5.toInt = (a_mate_c (Int32.toNatClampNeg k29_L_3)).toInt := by rw [ev5]
      refine lv_istore (lv' := [(5, .int v5), (4, .int r1), (3, .int k29_L_3), (0, .ref a), (1, .int p0), (2, .int p1)]) hx hb dX12_with_42 hl (by decide) rfl (fun ls hl => ?_)
      refine lv_iload hx hb dX12_with_44 (lv_at hl 1 rfl) ?_
      refine lv_iload_n hx hb dX12_with_46 rfl (lv_at hl 5 rfl) ?_
      refine lv_icmp_ne (tgt := 53) hx hb dX12_with_47 (by decide) (fun c7 => ?_) (fun c7 => ?_)
      · have t8 : r1.toInt ≠ p1.toInt := lin_ne c7 rfl rfl
        refine lv_iload hx hb dX12_with_53 (lv_at hl 0 rfl) ?_
        refine lv_iload_n hx hb dX12_with_55 rfl (lv_at hl 5 rfl) ?_
        refine lv_icmp_ne (tgt := 62) hx hb dX12_with_56 (by decide) (fun c9 => ?_) (fun c9 => ?_)
        · have t10 : v5.toInt ≠ p1.toInt := lin_ne c9 rfl rfl
          refine lv_iload_n hx hb dX12_with_62 rfl (lv_at hl 2 rfl) ?_
          refine lv_iconst (v := 1) hx hb dX12_with_63 (by decide) ?_
          refine lv_iload hx hb dX12_with_64 (lv_at hl 1 rfl) ?_
          refine lv_ishl hx hb dX12_with_66 ?_
          refine lv_topi (fun v11 ev11 => ?_)
          have hv11 : IV 1 2048 v11 := iv_shl1 ev11 h2 (by decide) (by decide) (by decide)
          have ii12 : 1 ≤ v11.toInt ∧ v11.toInt ≤ 2048 := hv11
          refine lv_iload hx hb dX12_with_67 (lv_at hl 0 rfl) ?_
          refine lv_if_ge (tgt := 76) hx hb dX12_with_69 (by decide) (fun c13 => ?_) (fun c13 => ?_)
          · have t14 : v5.toInt ≥ 0 := lin_ge c13 rfl (by decide)
            have h15 : IV 0 11 v5 := iv_le2 c13 (iv_c (a := 0) (b := 0) (by decide)) hv5 (by decide)
            have ii16 : 0 ≤ v5.toInt ∧ v5.toInt ≤ 11 := h15
            refine lv_iconst (v := 1) hx hb dX12_with_76 (by decide) ?_
            refine lv_iload hx hb dX12_with_77 (lv_at hl 0 rfl) ?_
            refine lv_ishl hx hb dX12_with_79 ?_
            refine lv_topi (fun v17 ev17 => ?_)
            have hv17 : IV 1 2048 v17 := iv_shl1 ev17 h15 (by decide) (by decide) (by decide)
            have ii18 : 1 ≤ v17.toInt ∧ v17.toInt ≤ 2048 := hv17
            refine lv_ior hx hb dX12_with_80 ?_
            refine lv_topi (fun v19 ev19 => ?_)
            have hv19 : IV 0 4095 v19 := iv_or (k := 12) ev19 hv11 hv17 (by decide) (by decide) (by decide) (by decide) (by decide) (by decide)
            have ii20 : 0 ≤ v19.toInt ∧ v19.toInt ≤ 4095 := hv19
            refine lv_iconst (v := (-1)) hx hb dX12_with_81 (by decide) ?_
            refine lv_ixor hx hb dX12_with_82 ?_
            refine lv_topi (fun v21 ev21 => ?_)
            refine lv_iand hx hb dX12_with_83 ?_
            refine lv_topi (fun v22 ev22 => ?_)
            have hv22 : IV 0 4095 v22 := iv_and1 ev22 q29_10
            have ii23 : 0 ≤ v22.toInt ∧ v22.toInt ≤ 4095 := hv22
            refine lv_istore_n (lv' := [(3, .int v22), (5, .int v5), (4, .int r1), (0, .ref a), (1, .int p0), (2, .int p1)]) hx hb dX12_with_84 rfl hl (by decide) rfl (fun ls hl => ?_)
            obtain ⟨wi1, wi2, wi3⟩ := wi_clear (p := p1) (iv_w q29_10 (by decide) (by decide)) ⟨by omega, by omega⟩ ⟨by omega, by omega⟩ x29_0 x3 ev11 ev19 ev21 ev22 (by omega) (lsb_sh ⟨by omega, by omega⟩ ev17 (by omega) (by omega))
            have h24 : IV 1 4095 v22 := wi1
            have ii25 : 1 ≤ v22.toInt ∧ v22.toInt ≤ 4095 := h24
            have fa26 : BT v22 p1 := wi2
            refine lv_goto (tgt := 29) hx hb dX12_with_85 (by decide) ?_
            exact ih29 v22 (by have h9 := hn; omega) h24 q29_11 q29_12 fa26 H locs (hP.sub (ws' := [(a_said, .inl (cs 0, 123, .inl a_said_c)), (a, .inr (12, [.ref a_tape, .int a__taped, .int a__rules, .ref a_sign, .ref a_length, .ref a_clause, .ref a_clauses, .ref a_read, .int a__next, .int a__wrong, .int a__number, .int a__text, .int a__made, .int a__deep, .int a__lines, .ref a_open, .int a__opened, .ref a_stack, .int a__top, .ref a_word, .ref a_said, .int a__x, .ref a_worth, .ref a_mate, .ref a_wasSaid, .int a__undone, .int a__boughtNow, .ref a_wayBy, .ref a_wayThen, .int a__walkMost, .int a__walkGoing, .int a__walkSet, .ref a_kept, .long a__drawX, .ref a_images, .ref a_imageX, .ref a_isMade])), (a_mate, .inl (cs 0, 4096, .inl a_mate_c))]) [0, 1, 2] rfl) hS ls (lv_sub hl [0, 3, 4, 5] rfl)
          · have t27 : v5.toInt < 0 := lin_geN c13 rfl (by decide)
            have h28 : IV (-1) (-1) v5 := iv_lt1 (Int32.not_le.mp c13) hv5 (iv_c (a := 0) (b := 0) (by decide)) (by decide)
            have ii29 : (-1) ≤ v5.toInt ∧ v5.toInt ≤ (-1) := h28
            refine lv_iconst (v := 0) hx hb dX12_with_72 (by decide) ?_
            refine lv_goto (tgt := 80) hx hb dX12_with_73 (by decide) ?_
            refine lv_ior hx hb dX12_with_80 ?_
            refine lv_topi (fun v30 ev30 => ?_)
            have hv30 : IV 0 4095 v30 := iv_or (k := 12) ev30 hv11 (iv_c (a := 0) (b := 0) (by decide)) (by decide) (by decide) (by decide) (by decide) (by decide) (by decide)
            have ii31 : 0 ≤ v30.toInt ∧ v30.toInt ≤ 4095 := hv30
            refine lv_iconst (v := (-1)) hx hb dX12_with_81 (by decide) ?_
            refine lv_ixor hx hb dX12_with_82 ?_
            refine lv_topi (fun v32 ev32 => ?_)
            refine lv_iand hx hb dX12_with_83 ?_
            refine lv_topi (fun v33 ev33 => ?_)
            have hv33 : IV 0 4095 v33 := iv_and1 ev33 q29_10
            have ii34 : 0 ≤ v33.toInt ∧ v33.toInt ≤ 4095 := hv33
            refine lv_istore_n (lv' := [(3, .int v33), (5, .int v5), (4, .int r1), (0, .ref a), (1, .int p0), (2, .int p1)]) hx hb dX12_with_84 rfl hl (by decide) rfl (fun ls hl => ?_)
            obtain ⟨wi1, wi2, wi3⟩ := wi_clear (p := p1) (iv_w q29_10 (by decide) (by decide)) ⟨by omega, by omega⟩ ⟨by omega, by omega⟩ x29_0 x3 ev11 ev30 ev32 ev33 (by omega) lsb_0
            have h35 : IV 1 4095 v33 := wi1
            have ii36 : 1 ≤ v33.toInt ∧ v33.toInt ≤ 4095 := h35
            have fa37 : BT v33 p1 := wi2
            refine lv_goto (tgt := 29) hx hb dX12_with_85 (by decide) ?_
            exact ih29 v33 (by have h9 := hn; omega) h35 q29_11 q29_12 fa37 H locs (hP.sub (ws' := [(a_said, .inl (cs 0, 123, .inl a_said_c)), (a, .inr (12, [.ref a_tape, .int a__taped, .int a__rules, .ref a_sign, .ref a_length, .ref a_clause, .ref a_clauses, .ref a_read, .int a__next, .int a__wrong, .int a__number, .int a__text, .int a__made, .int a__deep, .int a__lines, .ref a_open, .int a__opened, .ref a_stack, .int a__top, .ref a_word, .ref a_said, .int a__x, .ref a_worth, .ref a_mate, .ref a_wasSaid, .int a__undone, .int a__boughtNow, .ref a_wayBy, .ref a_wayThen, .int a__walkMost, .int a__walkGoing, .int a__walkSet, .ref a_kept, .long a__drawX, .ref a_images, .ref a_imageX, .ref a_isMade])), (a_mate, .inl (cs 0, 4096, .inl a_mate_c))]) [0, 1, 2] rfl) hS ls (lv_sub hl [0, 3, 4, 5] rfl)
        · have t38 : v5.toInt = p1.toInt := lin_eqN c9 rfl rfl
          have h39 : IV 0 11 v5 := iv_eq1 c9 hv5 q29_12 (by decide) (by decide)
          have ii40 : 0 ≤ v5.toInt ∧ v5.toInt ≤ 11 := h39
          refine lv_iload hx hb dX12_with_59 (lv_at hl 1 rfl) ?_
          exact W.iret (v := r1) hx hb hr (fun t ht hW => ⟨⟨r1, (), rfl, (Or.inr ((⟨(iv_w h2 (by decide) (by decide)), q29_11, q29_12⟩))), trivial⟩, hS.F ht⟩) hS.2.2 dX12_with_61
      · have t41 : r1.toInt = p1.toInt := lin_eqN c7 rfl rfl
        refine lv_iload hx hb dX12_with_50 (lv_at hl 0 rfl) ?_
        exact W.iret (v := v5) hx hb hr (fun t ht hW => ⟨⟨v5, (), rfl, (Or.inr ((⟨hv5, q29_11, q29_12⟩))), trivial⟩, hS.F ht⟩) hS.2.2 dX12_with_52
  refine lv_aload_n hx hb dX12_with_0 rfl (lv_at hl 0 rfl) ?_
  refine lv_iload_n hx hb dX12_with_1 rfl (lv_at hl 1 rfl) ?_
  refine va_calli (va_runV (As := [.int p0]) (rest := []) ⟨hx, hb, hml, hown, hT⟩ (c_X12_isSet l D cs kK kV a p0 a_said a_said_c a_tape a__taped a__rules a_sign a_length a_clause a_clauses a_read a__next a__wrong a__number a__text a__made a__deep a__lines a_open a__opened a_stack a__top a_word a__x a_worth a_mate a_wasSaid a__undone a__boughtNow a_wayBy a_wayThen a__walkMost a__walkGoing a__walkSet a_kept a__drawX a_images a_imageX a_isMade h_a__taped h_a__rules h_a__next h_a__text h_a__made h_a__lines h_a__opened h_a__top h_a__x h_a__undone hf0) (cwV 1 hT (hz_gV q_1144 q_1145 q_1146 q_701 q_1147) rfl rfl rfl (by decide +kernel) ⟨(Nat.le_of_ble_eq_true rfl), (Nat.le_of_ble_eq_true rfl)⟩) ⟨hz_P.blind, va_recv hK hP (ci := 12) (q0 := 1) rfl rfl, hz_P.mk (hP.sub (ws' := [(a_said, .inl (cs 0, 123, .inl a_said_c)), (a, .inr (12, [.ref a_tape, .int a__taped, .int a__rules, .ref a_sign, .ref a_length, .ref a_clause, .ref a_clauses, .ref a_read, .int a__next, .int a__wrong, .int a__number, .int a__text, .int a__made, .int a__deep, .int a__lines, .ref a_open, .int a__opened, .ref a_stack, .int a__top, .ref a_word, .ref a_said, .int a__x, .ref a_worth, .ref a_mate, .ref a_wasSaid, .int a__undone, .int a__boughtNow, .ref a_wayBy, .ref a_wayThen, .int a__walkMost, .int a__walkGoing, .int a__walkSet, .ref a_kept, .long a__drawX, .ref a_images, .ref a_imageX, .ref a_isMade]))]) [0,1] rfl) hE hS⟩ rfl rfl hl.1 rfl (lv_room (Nat.le_of_ble_eq_true rfl)) dX12_with_2 ⟨(Nat.le_of_ble_eq_true rfl), (Nat.le_of_ble_eq_true rfl)⟩) hS (fun _ _ h => h.elim) (fun _ h => h.elim) (fun r42 u t H1 locs ht hvm hw hB hz1 hk1 hS => ?_)
  have hP := hz_keep hP hk1
  clear hk1 hB hz1
  generalize H1 = H at hP hS ⊢
  rcases hw with rfl | ⟨rfl, h43⟩
  · refine lv_if_eq (tgt := 24) hx hb dX12_with_5 (by decide) (fun _ => ?_) (fun z => absurd (by decide) z)
    refine lv_bipush (v := (-2)) hx hb dX12_with_24 (by decide) ?_
    exact W.iret (v := (-2)) hx hb hr (fun t ht hW => ⟨⟨(-2), (), rfl, (Or.inl (rfl)), trivial⟩, hS.F ht⟩) hS.2.2 dX12_with_26
  · have ii44 : 0 ≤ p0.toInt ∧ p0.toInt ≤ 4095 := h43
    refine lv_if_eq (tgt := 24) hx hb dX12_with_5 (by decide) (fun z => absurd z (by decide)) (fun _ => ?_)
    refine lv_aload_n hx hb dX12_with_8 rfl (lv_at hl 0 rfl) ?_
    refine lv_iload_n hx hb dX12_with_9 rfl (lv_at hl 2 rfl) ?_
    refine va_calli (va_runV (As := [.int p1]) (rest := []) ⟨hx, hb, hml, hown, hT⟩ (c_X12_isHalf l D cs kK kV a p1 a_said a_said_c a_tape a__taped a__rules a_sign a_length a_clause a_clauses a_read a__next a__wrong a__number a__text a__made a__deep a__lines a_open a__opened a_stack a__top a_word a__x a_worth a_mate a_wasSaid a__undone a__boughtNow a_wayBy a_wayThen a__walkMost a__walkGoing a__walkSet a_kept a__drawX a_images a_imageX a_isMade h_a__taped h_a__rules h_a__next h_a__text h_a__made h_a__lines h_a__opened h_a__top h_a__x h_a__undone hf0) (cwV 1 hT (hz_gV q_1148 q_1149 q_1150 q_701 q_1151) rfl rfl rfl (by decide +kernel) ⟨(Nat.le_of_ble_eq_true rfl), (Nat.le_of_ble_eq_true rfl)⟩) ⟨hz_P.blind, va_recv hK hP (ci := 12) (q0 := 1) rfl rfl, hz_P.mk (hP.sub (ws' := [(a_said, .inl (cs 0, 123, .inl a_said_c)), (a, .inr (12, [.ref a_tape, .int a__taped, .int a__rules, .ref a_sign, .ref a_length, .ref a_clause, .ref a_clauses, .ref a_read, .int a__next, .int a__wrong, .int a__number, .int a__text, .int a__made, .int a__deep, .int a__lines, .ref a_open, .int a__opened, .ref a_stack, .int a__top, .ref a_word, .ref a_said, .int a__x, .ref a_worth, .ref a_mate, .ref a_wasSaid, .int a__undone, .int a__boughtNow, .ref a_wayBy, .ref a_wayThen, .int a__walkMost, .int a__walkGoing, .int a__walkSet, .ref a_kept, .long a__drawX, .ref a_images, .ref a_imageX, .ref a_isMade]))]) [0,1] rfl) hE hS⟩ rfl rfl hl.1 rfl (lv_room (Nat.le_of_ble_eq_true rfl)) dX12_with_10 ⟨(Nat.le_of_ble_eq_true rfl), (Nat.le_of_ble_eq_true rfl)⟩) hS (fun _ _ h => h.elim) (fun _ h => h.elim) (fun r45 u t H1 locs ht hvm hw hB hz1 hk1 hS => ?_)
    have hP := hz_keep hP hk1
    clear hk1 hB hz1
    generalize H1 = H at hP hS ⊢
    rcases hw with ⟨rfl, h46⟩ | ⟨rfl, h47, x48, x49⟩
    · have ii50 : (-2147483648) ≤ p1.toInt ∧ p1.toInt ≤ 2147483647 := h46
      refine lv_if_eq (tgt := 24) hx hb dX12_with_13 (by decide) (fun _ => ?_) (fun z => absurd (by decide) z)
      refine lv_bipush (v := (-2)) hx hb dX12_with_24 (by decide) ?_
      exact W.iret (v := (-2)) hx hb hr (fun t ht hW => ⟨⟨(-2), (), rfl, (Or.inl (rfl)), trivial⟩, hS.F ht⟩) hS.2.2 dX12_with_26
    · have ii51 : 0 ≤ p1.toInt ∧ p1.toInt ≤ 11 := h47
      refine lv_if_eq (tgt := 24) hx hb dX12_with_13 (by decide) (fun z => absurd z (by decide)) (fun _ => ?_)
      refine lv_iload_n hx hb dX12_with_16 rfl (lv_at hl 1 rfl) ?_
      refine lv_iload_n hx hb dX12_with_17 rfl (lv_at hl 2 rfl) ?_
      refine va_calli (va_runS (As := [.int p0, .int p1]) (rest := []) ⟨hx, hb, hml, hown, hT⟩ (c_X12_isOf l D cs kK kV p0 p1) (va_cwS 2 hT (hz_gS q_1034 q_1035 q_701 q_1036) rfl rfl rfl (by decide +kernel) ⟨(Nat.le_of_ble_eq_true rfl), (Nat.le_of_ble_eq_true rfl)⟩) ⟨hz_P.blind, hz_P.mk (hP.sub (ws' := []) [] rfl) hE hS⟩ rfl rfl hl.1 rfl (lv_room (Nat.le_of_ble_eq_true rfl)) dX12_with_18 ⟨(Nat.le_of_ble_eq_true rfl), (Nat.le_of_ble_eq_true rfl)⟩) hS (fun _ _ h => h.elim) (fun _ h => h.elim) (fun r52 u t H1 locs ht hvm hw hB hz1 hk1 hS => ?_)
      have hP := hz_keep hP hk1
      clear hk1 hB hz1
      generalize H1 = H at hP hS ⊢
      rcases hw with ⟨rfl, x53⟩ | ⟨rfl, x54⟩
      · refine lv_if_ne (tgt := 27) hx hb dX12_with_21 (by decide) (fun z => absurd (by decide) z) (fun _ => ?_)
        refine lv_bipush (v := (-2)) hx hb dX12_with_24 (by decide) ?_
        exact W.iret (v := (-2)) hx hb hr (fun t ht hW => ⟨⟨(-2), (), rfl, (Or.inl (rfl)), trivial⟩, hS.F ht⟩) hS.2.2 dX12_with_26
      · refine lv_if_ne (tgt := 27) hx hb dX12_with_21 (by decide) (fun _ => ?_) (fun z => absurd z (by decide))
        have h55 : IV 1 4095 p0 := (bt_pos x54 h43 ⟨by omega, by omega⟩)
        have ii56 : 1 ≤ p0.toInt ∧ p0.toInt ≤ 4095 := h55
        refine lv_iload_n hx hb dX12_with_27 rfl (lv_at hl 1 rfl) ?_
        refine lv_istore_n (lv' := [(3, .int p0), (0, .ref a), (1, .int p0), (2, .int p1)]) hx hb dX12_with_28 rfl hl (by decide) rfl (fun ls hl => ?_)
        exact K29 _ p0 (Nat.le_refl _) h55 h55 h47 x54 H locs (hP.sub (ws' := [(a_said, .inl (cs 0, 123, .inl a_said_c)), (a, .inr (12, [.ref a_tape, .int a__taped, .int a__rules, .ref a_sign, .ref a_length, .ref a_clause, .ref a_clauses, .ref a_read, .int a__next, .int a__wrong, .int a__number, .int a__text, .int a__made, .int a__deep, .int a__lines, .ref a_open, .int a__opened, .ref a_stack, .int a__top, .ref a_word, .ref a_said, .int a__x, .ref a_worth, .ref a_mate, .ref a_wasSaid, .int a__undone, .int a__boughtNow, .ref a_wayBy, .ref a_wayThen, .int a__walkMost, .int a__walkGoing, .int a__walkSet, .ref a_kept, .long a__drawX, .ref a_images, .ref a_imageX, .ref a_isMade])), (a_mate, .inl (cs 0, 4096, .inl a_mate_c))]) [0, 1, 2] rfl) hS ls (lv_sub hl [0, 1, 2, 3] rfl)
theorem dX12_half_0 : decode cX12_half 0 = .ok (.aload_n 0, 1) := by decide +kernel
theorem dX12_half_1 : decode cX12_half 1 = .ok (.iload_n 1, 1) := by decide +kernel
theorem dX12_half_2 : decode cX12_half 2 = .ok (.invokevirtual 335, 3) := by decide +kernel
theorem dX12_half_5 : decode cX12_half 5 = .ok (.ifCond .eq 15, 3) := by decide +kernel
theorem dX12_half_8 : decode cX12_half 8 = .ok (.iload_n 2, 1) := by decide +kernel
theorem dX12_half_9 : decode cX12_half 9 = .ok (.i2l, 1) := by decide +kernel
theorem dX12_half_10 : decode cX12_half 10 = .ok (.lconst 0, 1) := by decide +kernel
theorem dX12_half_11 : decode cX12_half 11 = .ok (.ldc2_w 338, 3) := by decide +kernel
theorem dX12_half_14 : decode cX12_half 14 = .ok (.invokestatic 109, 3) := by decide +kernel
theorem dX12_half_17 : decode cX12_half 17 = .ok (.ifCond .ne 5, 3) := by decide +kernel
theorem dX12_half_20 : decode cX12_half 20 = .ok (.iconst (-1), 1) := by decide +kernel
theorem dX12_half_21 : decode cX12_half 21 = .ok (.ireturn, 1) := by decide +kernel
theorem dX12_half_22 : decode cX12_half 22 = .ok (.iload_n 2, 1) := by decide +kernel
theorem dX12_half_23 : decode cX12_half 23 = .ok (.iconst 2, 1) := by decide +kernel
theorem dX12_half_24 : decode cX12_half 24 = .ok (.if_icmp .ne 11, 3) := by decide +kernel
theorem dX12_half_27 : decode cX12_half 27 = .ok (.aload_n 0, 1) := by decide +kernel
theorem dX12_half_28 : decode cX12_half 28 = .ok (.iload_n 1, 1) := by decide +kernel
theorem dX12_half_29 : decode cX12_half 29 = .ok (.invokevirtual 340, 3) := by decide +kernel
theorem dX12_half_32 : decode cX12_half 32 = .ok (.goto 9, 3) := by decide +kernel
theorem dX12_half_35 : decode cX12_half 35 = .ok (.aload_n 0, 1) := by decide +kernel
theorem dX12_half_36 : decode cX12_half 36 = .ok (.iload_n 1, 1) := by decide +kernel
theorem dX12_half_37 : decode cX12_half 37 = .ok (.iload_n 2, 1) := by decide +kernel
theorem dX12_half_38 : decode cX12_half 38 = .ok (.invokevirtual 301, 3) := by decide +kernel
theorem dX12_half_41 : decode cX12_half 41 = .ok (.ireturn, 1) := by decide +kernel
set_option maxHeartbeats 4000000 in
set_option maxRecDepth 100000 in
theorem c_X12_half (l : Launch) (D : va_G) (cs : Nat → ClassId) (kK kV : Nat → Nat) (a : Nat) (p0 : Int32) (p1 : Int32) (a_said : Nat) (a_said_c : Nat → Int32) (a_tape : Nat) (a__taped : Int32) (a__rules : Int32) (a_sign : Nat) (a_length : Nat) (a_clause : Nat) (a_clauses : Nat) (a_read : Nat) (a__next : Int32) (a__wrong : Int32) (a__number : Int32) (a__text : Int32) (a__made : Int32) (a__deep : Int32) (a__lines : Int32) (a_open : Nat) (a__opened : Int32) (a_stack : Nat) (a__top : Int32) (a_word : Nat) (a__x : Int32) (a_worth : Nat) (a_mate : Nat) (a_wasSaid : Nat) (a__undone : Int32) (a__boughtNow : Int32) (a_wayBy : Nat) (a_wayThen : Nat) (a__walkMost : Int32) (a__walkGoing : Int32) (a__walkSet : Int32) (a_kept : Nat) (a__drawX : Int64) (a_images : Nat) (a_imageX : Nat) (a_isMade : Nat) (h_a__taped : IV 0 400 a__taped) (h_a__rules : IV 0 6 a__rules) (h_a__next : IV 0 400 a__next) (h_a__text : IV 0 6 a__text) (h_a__made : IV 0 60 a__made) (h_a__lines : IV 0 40 a__lines) (h_a__opened : IV 0 400 a__opened) (h_a__top : IV 0 64 a__top) (h_a__x : IV 0 2147483647 a__x) (h_a__undone : IV 0 20 a__undone) (hf0 : BS a_said_c 200) : Met l yX12_half (hz_w yX12_half cX12_half 3 (some .int)) ({ frames := 2, cells := 0, slots := 0, locals := 43 }) (va_Pc [.ref a, .int p0, .int p1] (hz_P D cs kK kV [(a_said, .inl (cs 0, 123, .inl a_said_c)), (a, .inr (12, [.ref a_tape, .int a__taped, .int a__rules, .ref a_sign, .ref a_length, .ref a_clause, .ref a_clauses, .ref a_read, .int a__next, .int a__wrong, .int a__number, .int a__text, .int a__made, .int a__deep, .int a__lines, .ref a_open, .int a__opened, .ref a_stack, .int a__top, .ref a_word, .ref a_said, .int a__x, .ref a_worth, .ref a_mate, .ref a_wasSaid, .int a__undone, .int a__boughtNow, .ref a_wayBy, .ref a_wayThen, .int a__walkMost, .int a__walkGoing, .int a__walkSet, .ref a_kept, .long a__drawX, .ref a_images, .ref a_imageX, .ref a_isMade]))])) (va_Qi (fun (r : Int32) (_ : Unit) => (r = (-1) ∧ IV (-2147483648) 2147483647 p0) ∨ (IV 0 11 p0 ∧ IV 0 4 p1)) (fun _ t => True) (fun _ => False)) 0 0 (fun _ => False) := by
  refine Met.ofW (cc := cX12_half) (maxL := 3) (ret := (some .int)) (by decide) rfl ?_
  intro p e s m args below meth c s₁ B hml hv
  obtain ⟨rfl, hP, hE⟩ := hv
  have hx := B.exec
  have hb := B.bytes
  have hr := B.returns
  have hT : ∀ w ∈ TB, w.before _ s = true := fun w h => atoms_spec (ws := hz_w yX12_half cX12_half 3 (some .int)) B.pre w (List.mem_cons_of_mem _ h)
  have hown : s.vm.findClass RX12 = some m.cls := findClass_of_methodNamed B.named
  have hlocks := B.notSynchronized
  clear B
  have hS : va_S (fun _ => False) s.heap s.heap [] := va_S.rf
  have hK := hE.1
  have hl := lv_entry ([.ref a, .int p0, .int p1]) (n := 3) (Nat.le_of_ble_eq_true rfl)
  rw [lg_entry_eq]
  generalize (lg_sl ([.ref a, .int p0, .int p1]) ++ List.replicate (3 - (lg_sl ([.ref a, .int p0, .int p1])).length) Slot.unset).toArray = ls at hl ⊢
  have hl : lv_has ls 3 [(0, .ref a), (1, .int p0), (2, .int p1)] := hl
  obtain ⟨H, eH⟩ : ∃ z, z = s.heap := ⟨_, rfl⟩
  have hP : va_P D classes [(a_said, .inl (cs 0, 123, .inl a_said_c)), (a, .inr (12, [.ref a_tape, .int a__taped, .int a__rules, .ref a_sign, .ref a_length, .ref a_clause, .ref a_clauses, .ref a_read, .int a__next, .int a__wrong, .int a__number, .int a__text, .int a__made, .int a__deep, .int a__lines, .ref a_open, .int a__opened, .ref a_stack, .int a__top, .ref a_word, .ref a_said, .int a__x, .ref a_worth, .ref a_mate, .ref a_wasSaid, .int a__undone, .int a__boughtNow, .ref a_wayBy, .ref a_wayThen, .int a__walkMost, .int a__walkGoing, .int a__walkSet, .ref a_kept, .long a__drawX, .ref a_images, .ref a_imageX, .ref a_isMade]))] H := by rw [eH]; exact hP
  have hS : va_S (fun _ => False) s.heap H [] := by rw [eH]; exact hS
  rw [← eH]
  clear eH
  obtain ⟨locs, el⟩ : ∃ z : List Loc, z = [] := ⟨_, rfl⟩
  rw [← el] at hS ⊢
  clear el
  have z0 : (0 : Int32).toInt = 0 := by decide
  have z1 : (1 : Int32).toInt = 1 := by decide
  have zm1 : (-1 : Int32).toInt = -1 := by decide
  have i_a__lines : 0 ≤ a__lines.toInt ∧ a__lines.toInt ≤ 40 := h_a__lines
  have i_a__made : 0 ≤ a__made.toInt ∧ a__made.toInt ≤ 60 := h_a__made
  have i_a__next : 0 ≤ a__next.toInt ∧ a__next.toInt ≤ 400 := h_a__next
  have i_a__opened : 0 ≤ a__opened.toInt ∧ a__opened.toInt ≤ 400 := h_a__opened
  have i_a__rules : 0 ≤ a__rules.toInt ∧ a__rules.toInt ≤ 6 := h_a__rules
  have i_a__taped : 0 ≤ a__taped.toInt ∧ a__taped.toInt ≤ 400 := h_a__taped
  have i_a__text : 0 ≤ a__text.toInt ∧ a__text.toInt ≤ 6 := h_a__text
  have i_a__top : 0 ≤ a__top.toInt ∧ a__top.toInt ≤ 64 := h_a__top
  have i_a__undone : 0 ≤ a__undone.toInt ∧ a__undone.toInt ≤ 20 := h_a__undone
  have i_a__x : 0 ≤ a__x.toInt ∧ a__x.toInt ≤ 2147483647 := h_a__x
  refine lv_aload_n hx hb dX12_half_0 rfl (lv_at hl 0 rfl) ?_
  refine lv_iload_n hx hb dX12_half_1 rfl (lv_at hl 1 rfl) ?_
  refine va_calli (va_runV (As := [.int p0]) (rest := []) ⟨hx, hb, hml, hown, hT⟩ (c_X12_isHalf l D cs kK kV a p0 a_said a_said_c a_tape a__taped a__rules a_sign a_length a_clause a_clauses a_read a__next a__wrong a__number a__text a__made a__deep a__lines a_open a__opened a_stack a__top a_word a__x a_worth a_mate a_wasSaid a__undone a__boughtNow a_wayBy a_wayThen a__walkMost a__walkGoing a__walkSet a_kept a__drawX a_images a_imageX a_isMade h_a__taped h_a__rules h_a__next h_a__text h_a__made h_a__lines h_a__opened h_a__top h_a__x h_a__undone hf0) (cwV 1 hT (hz_gV q_1148 q_1149 q_1150 q_701 q_1151) rfl rfl rfl (by decide +kernel) ⟨(Nat.le_of_ble_eq_true rfl), (Nat.le_of_ble_eq_true rfl)⟩) ⟨hz_P.blind, va_recv hK hP (ci := 12) (q0 := 1) rfl rfl, hz_P.mk (hP.sub (ws' := [(a_said, .inl (cs 0, 123, .inl a_said_c)), (a, .inr (12, [.ref a_tape, .int a__taped, .int a__rules, .ref a_sign, .ref a_length, .ref a_clause, .ref a_clauses, .ref a_read, .int a__next, .int a__wrong, .int a__number, .int a__text, .int a__made, .int a__deep, .int a__lines, .ref a_open, .int a__opened, .ref a_stack, .int a__top, .ref a_word, .ref a_said, .int a__x, .ref a_worth, .ref a_mate, .ref a_wasSaid, .int a__undone, .int a__boughtNow, .ref a_wayBy, .ref a_wayThen, .int a__walkMost, .int a__walkGoing, .int a__walkSet, .ref a_kept, .long a__drawX, .ref a_images, .ref a_imageX, .ref a_isMade]))]) [0,1] rfl) hE hS⟩ rfl rfl hl.1 rfl (lv_room (Nat.le_of_ble_eq_true rfl)) dX12_half_2 ⟨(Nat.le_of_ble_eq_true rfl), (Nat.le_of_ble_eq_true rfl)⟩) hS (fun _ _ h => h.elim) (fun _ h => h.elim) (fun r1 u t H1 locs ht hvm hw hB hz1 hk1 hS => ?_)
  have hP := hz_keep hP hk1
  clear hk1 hB hz1
  generalize H1 = H at hP hS ⊢
  rcases hw with ⟨rfl, h2⟩ | ⟨rfl, h3, x4, x5⟩
  · have ii6 : (-2147483648) ≤ p0.toInt ∧ p0.toInt ≤ 2147483647 := h2
    refine lv_if_eq (tgt := 20) hx hb dX12_half_5 (by decide) (fun _ => ?_) (fun z => absurd (by decide) z)
    refine lv_iconst (v := (-1)) hx hb dX12_half_20 (by decide) ?_
    exact W.iret (v := (-1)) hx hb hr (fun t ht hW => ⟨⟨(-1), (), rfl, (Or.inl (⟨rfl, h2⟩)), trivial⟩, hS.F ht⟩) hS.2.2 dX12_half_21
  · have ii7 : 0 ≤ p0.toInt ∧ p0.toInt ≤ 11 := h3
    refine lv_if_eq (tgt := 20) hx hb dX12_half_5 (by decide) (fun z => absurd z (by decide)) (fun _ => ?_)
    refine lv_iload_n hx hb dX12_half_8 rfl (lv_at hl 2 rfl) ?_
    refine lv_i2l (v := p1.toInt64) hx hb dX12_half_9 rfl ?_
    refine lv_lconst (v := 0) hx hb dX12_half_10 (by decide) ?_
    refine lv_ldc2 hx hb hown (hT _ q_1417) dX12_half_11 ?_
    refine va_calli (va_runS (As := [.long p1.toInt64, .long 0, .long 4]) (rest := []) ⟨hx, hb, hml, hown, hT⟩ (c_X12_in l D cs kK kV p1.toInt64 0 4) (va_cwS 3 hT (hz_gS q_964 q_965 q_701 q_966) rfl rfl rfl (by decide +kernel) ⟨(Nat.le_of_ble_eq_true rfl), (Nat.le_of_ble_eq_true rfl)⟩) ⟨hz_P.blind, hz_P.mk (hP.sub (ws' := []) [] rfl) hE hS⟩ rfl rfl hl.1 rfl (lv_room (Nat.le_of_ble_eq_true rfl)) dX12_half_14 ⟨(Nat.le_of_ble_eq_true rfl), (Nat.le_of_ble_eq_true rfl)⟩) hS (fun _ _ h => h.elim) (fun _ h => h.elim) (fun r8 u t H1 locs ht hvm hw hB hz1 hk1 hS => ?_)
    have hP := hz_keep hP hk1
    clear hk1 hB hz1
    generalize H1 = H at hP hS ⊢
    rcases hw with ⟨rfl, x9⟩ | ⟨rfl, x10, x11⟩
    · have t12 : ¬ (0 ≤ p1.toInt ∧ p1.toInt ≤ 4) := fun z => x9 ⟨l64_clI z.1 (by decide), l64_lcI z.2 (by decide)⟩
      refine lv_if_ne (tgt := 22) hx hb dX12_half_17 (by decide) (fun z => absurd (by decide) z) (fun _ => ?_)
      refine lv_iconst (v := (-1)) hx hb dX12_half_20 (by decide) ?_
      exact W.iret (v := (-1)) hx hb hr (fun t ht hW => ⟨⟨(-1), (), rfl, (Or.inl (⟨rfl, (iv_w h3 (by decide) (by decide))⟩)), trivial⟩, hS.F ht⟩) hS.2.2 dX12_half_21
    · have h13 : IV 0 2147483647 p1 := ⟨l64_cle x10 (by decide), iv_top.2⟩
      have ii14 : 0 ≤ p1.toInt ∧ p1.toInt ≤ 2147483647 := h13
      have h15 : IV 0 4 p1 := ⟨(h13).1, l64_lec x11 (by decide)⟩
      have ii16 : 0 ≤ p1.toInt ∧ p1.toInt ≤ 4 := h15
      refine lv_if_ne (tgt := 22) hx hb dX12_half_17 (by decide) (fun _ => ?_) (fun z => absurd z (by decide))
      refine lv_iload_n hx hb dX12_half_22 rfl (lv_at hl 2 rfl) ?_
      refine lv_iconst (v := 2) hx hb dX12_half_23 (by decide) ?_
      refine lv_icmp_ne (tgt := 35) hx hb dX12_half_24 (by decide) (fun c17 => ?_) (fun c17 => ?_)
      · have t18 : p1.toInt ≠ 2 := lin_ne c17 rfl (by decide)
        refine lv_aload_n hx hb dX12_half_35 rfl (lv_at hl 0 rfl) ?_
        refine lv_iload_n hx hb dX12_half_36 rfl (lv_at hl 1 rfl) ?_
        refine lv_iload_n hx hb dX12_half_37 rfl (lv_at hl 2 rfl) ?_
        refine va_calli (va_runV (As := [.int p0, .int p1]) (rest := []) ⟨hx, hb, hml, hown, hT⟩ (c_X12_halfOf l D cs kK kV a p0 p1 a_tape a__taped a__rules a_sign a_length a_clause a_clauses a_read a__next a__wrong a__number a__text a__made a__deep a__lines a_open a__opened a_stack a__top a_word a_said a__x a_worth a_mate a_wasSaid a__undone a__boughtNow a_wayBy a_wayThen a__walkMost a__walkGoing a__walkSet a_kept a__drawX a_images a_imageX a_isMade a_said_c h3 h15 h_a__taped h_a__rules h_a__next h_a__text h_a__made h_a__lines h_a__opened h_a__top h_a__x h_a__undone) (cwV 2 hT (hz_gV q_1104 q_1105 q_1106 q_701 q_1107) rfl rfl rfl (by decide +kernel) ⟨(Nat.le_of_ble_eq_true rfl), (Nat.le_of_ble_eq_true rfl)⟩) ⟨hz_P.blind, va_recv hK hP (ci := 12) (q0 := 1) rfl rfl, hz_P.mk (hP.sub (ws' := [(a, .inr (12, [.ref a_tape, .int a__taped, .int a__rules, .ref a_sign, .ref a_length, .ref a_clause, .ref a_clauses, .ref a_read, .int a__next, .int a__wrong, .int a__number, .int a__text, .int a__made, .int a__deep, .int a__lines, .ref a_open, .int a__opened, .ref a_stack, .int a__top, .ref a_word, .ref a_said, .int a__x, .ref a_worth, .ref a_mate, .ref a_wasSaid, .int a__undone, .int a__boughtNow, .ref a_wayBy, .ref a_wayThen, .int a__walkMost, .int a__walkGoing, .int a__walkSet, .ref a_kept, .long a__drawX, .ref a_images, .ref a_imageX, .ref a_isMade])), (a_said, .inl (cs 0, 123, .inl a_said_c))]) [1,0] rfl) hE hS⟩ rfl rfl hl.1 rfl (lv_room (Nat.le_of_ble_eq_true rfl)) dX12_half_38 ⟨(Nat.le_of_ble_eq_true rfl), (Nat.le_of_ble_eq_true rfl)⟩) hS (fun _ _ h => h.elim) (fun _ h => h.elim) (fun r19 u t H1 locs ht hvm hw hB hz1 hk1 hS => ?_)
        have hP := hz_keep hP hk1
        clear hk1 hB hz1
        generalize H1 = H at hP hS ⊢
        have x20 := hw
        exact W.iret (v := r19) hx hb hr (fun t ht hW => ⟨⟨r19, (), rfl, (Or.inr ((⟨h3, h15⟩))), trivial⟩, hS.F ht⟩) hS.2.2 dX12_half_41
      · have t21 : p1.toInt = 2 := lin_eqN c17 rfl (by decide)
        have h22 : IV 2 2 p1 := iv_eq1 c17 h15 (iv_c (a := 2) (b := 2) (by decide)) (by decide) (by decide)
        have ii23 : 2 ≤ p1.toInt ∧ p1.toInt ≤ 2 := h22
        refine lv_aload_n hx hb dX12_half_27 rfl (lv_at hl 0 rfl) ?_
        refine lv_iload_n hx hb dX12_half_28 rfl (lv_at hl 1 rfl) ?_
        refine va_calli (va_runV (As := [.int p0]) (rest := []) ⟨hx, hb, hml, hown, hT⟩ (c_X12_priceOf l D cs kK kV a p0 a_tape a__taped a__rules a_sign a_length a_clause a_clauses a_read a__next a__wrong a__number a__text a__made a__deep a__lines a_open a__opened a_stack a__top a_word a_said a__x a_worth a_mate a_wasSaid a__undone a__boughtNow a_wayBy a_wayThen a__walkMost a__walkGoing a__walkSet a_kept a__drawX a_images a_imageX a_isMade a_said_c h3 h_a__taped h_a__rules h_a__next h_a__text h_a__made h_a__lines h_a__opened h_a__top h_a__x h_a__undone) (cwV 1 hT (hz_gV q_1152 q_1153 q_1154 q_701 q_1155) rfl rfl rfl (by decide +kernel) ⟨(Nat.le_of_ble_eq_true rfl), (Nat.le_of_ble_eq_true rfl)⟩) ⟨hz_P.blind, va_recv hK hP (ci := 12) (q0 := 1) rfl rfl, hz_P.mk (hP.sub (ws' := [(a, .inr (12, [.ref a_tape, .int a__taped, .int a__rules, .ref a_sign, .ref a_length, .ref a_clause, .ref a_clauses, .ref a_read, .int a__next, .int a__wrong, .int a__number, .int a__text, .int a__made, .int a__deep, .int a__lines, .ref a_open, .int a__opened, .ref a_stack, .int a__top, .ref a_word, .ref a_said, .int a__x, .ref a_worth, .ref a_mate, .ref a_wasSaid, .int a__undone, .int a__boughtNow, .ref a_wayBy, .ref a_wayThen, .int a__walkMost, .int a__walkGoing, .int a__walkSet, .ref a_kept, .long a__drawX, .ref a_images, .ref a_imageX, .ref a_isMade])), (a_said, .inl (cs 0, 123, .inl a_said_c))]) [1,0] rfl) hE hS⟩ rfl rfl hl.1 rfl (lv_room (Nat.le_of_ble_eq_true rfl)) dX12_half_29 ⟨(Nat.le_of_ble_eq_true rfl), (Nat.le_of_ble_eq_true rfl)⟩) hS (fun _ _ h => h.elim) (fun _ h => h.elim) (fun r24 u t H1 locs ht hvm hw hB hz1 hk1 hS => ?_)
        have hP := hz_keep hP hk1
        clear hk1 hB hz1
        generalize H1 = H at hP hS ⊢
        refine lv_goto (tgt := 41) hx hb dX12_half_32 (by decide) ?_
        exact W.iret (v := r24) hx hb hr (fun t ht hW => ⟨⟨r24, (), rfl, (Or.inr ((⟨h3, (iv_w h22 (by decide) (by decide))⟩))), trivial⟩, hS.F ht⟩) hS.2.2 dX12_half_41
theorem dX12_fit_0 : decode cX12_fit 0 = .ok (.aload_n 0, 1) := by decide +kernel
theorem dX12_fit_1 : decode cX12_fit 1 = .ok (.iload_n 1, 1) := by decide +kernel
theorem dX12_fit_2 : decode cX12_fit 2 = .ok (.invokevirtual 335, 3) := by decide +kernel
theorem dX12_fit_5 : decode cX12_fit 5 = .ok (.ifCond .eq 25, 3) := by decide +kernel
theorem dX12_fit_8 : decode cX12_fit 8 = .ok (.aload_n 0, 1) := by decide +kernel
theorem dX12_fit_9 : decode cX12_fit 9 = .ok (.iload_n 2, 1) := by decide +kernel
theorem dX12_fit_10 : decode cX12_fit 10 = .ok (.invokevirtual 335, 3) := by decide +kernel
theorem dX12_fit_13 : decode cX12_fit 13 = .ok (.ifCond .eq 17, 3) := by decide +kernel
theorem dX12_fit_16 : decode cX12_fit 16 = .ok (.iload_n 1, 1) := by decide +kernel
theorem dX12_fit_17 : decode cX12_fit 17 = .ok (.iload_n 2, 1) := by decide +kernel
theorem dX12_fit_18 : decode cX12_fit 18 = .ok (.if_icmp .eq 12, 3) := by decide +kernel
theorem dX12_fit_21 : decode cX12_fit 21 = .ok (.aload_n 0, 1) := by decide +kernel
theorem dX12_fit_22 : decode cX12_fit 22 = .ok (.iload_n 1, 1) := by decide +kernel
theorem dX12_fit_23 : decode cX12_fit 23 = .ok (.iload_n 2, 1) := by decide +kernel
theorem dX12_fit_24 : decode cX12_fit 24 = .ok (.invokevirtual 326, 3) := by decide +kernel
theorem dX12_fit_27 : decode cX12_fit 27 = .ok (.goto 4, 3) := by decide +kernel
theorem dX12_fit_30 : decode cX12_fit 30 = .ok (.iconst (-1), 1) := by decide +kernel
theorem dX12_fit_31 : decode cX12_fit 31 = .ok (.ireturn, 1) := by decide +kernel
set_option maxHeartbeats 4000000 in
set_option maxRecDepth 100000 in
theorem c_X12_fit (l : Launch) (D : va_G) (cs : Nat → ClassId) (kK kV : Nat → Nat) (a : Nat) (p0 : Int32) (p1 : Int32) (a_said : Nat) (a_said_c : Nat → Int32) (a_tape : Nat) (a__taped : Int32) (a__rules : Int32) (a_sign : Nat) (a_length : Nat) (a_clause : Nat) (a_clauses : Nat) (a_read : Nat) (a__next : Int32) (a__wrong : Int32) (a__number : Int32) (a__text : Int32) (a__made : Int32) (a__deep : Int32) (a__lines : Int32) (a_open : Nat) (a__opened : Int32) (a_stack : Nat) (a__top : Int32) (a_word : Nat) (a__x : Int32) (a_worth : Nat) (a_mate : Nat) (a_wasSaid : Nat) (a__undone : Int32) (a__boughtNow : Int32) (a_wayBy : Nat) (a_wayThen : Nat) (a__walkMost : Int32) (a__walkGoing : Int32) (a__walkSet : Int32) (a_kept : Nat) (a__drawX : Int64) (a_images : Nat) (a_imageX : Nat) (a_isMade : Nat) (h_a__taped : IV 0 400 a__taped) (h_a__rules : IV 0 6 a__rules) (h_a__next : IV 0 400 a__next) (h_a__text : IV 0 6 a__text) (h_a__made : IV 0 60 a__made) (h_a__lines : IV 0 40 a__lines) (h_a__opened : IV 0 400 a__opened) (h_a__top : IV 0 64 a__top) (h_a__x : IV 0 2147483647 a__x) (h_a__undone : IV 0 20 a__undone) (hf0 : BS a_said_c 200) : Met l yX12_fit (hz_w yX12_fit cX12_fit 3 (some .int)) ({ frames := 3, cells := 0, slots := 0, locals := 67 }) (va_Pc [.ref a, .int p0, .int p1] (hz_P D cs kK kV [(a_said, .inl (cs 0, 123, .inl a_said_c)), (a, .inr (12, [.ref a_tape, .int a__taped, .int a__rules, .ref a_sign, .ref a_length, .ref a_clause, .ref a_clauses, .ref a_read, .int a__next, .int a__wrong, .int a__number, .int a__text, .int a__made, .int a__deep, .int a__lines, .ref a_open, .int a__opened, .ref a_stack, .int a__top, .ref a_word, .ref a_said, .int a__x, .ref a_worth, .ref a_mate, .ref a_wasSaid, .int a__undone, .int a__boughtNow, .ref a_wayBy, .ref a_wayThen, .int a__walkMost, .int a__walkGoing, .int a__walkSet, .ref a_kept, .long a__drawX, .ref a_images, .ref a_imageX, .ref a_isMade]))])) (va_Qi (fun (r : Int32) (_ : Unit) => IV (-1) 2 r) (fun _ t => True) (fun _ => False)) 0 0 (fun _ => False) := by
  refine Met.ofW (cc := cX12_fit) (maxL := 3) (ret := (some .int)) (by decide) rfl ?_
  intro p e s m args below meth c s₁ B hml hv
  obtain ⟨rfl, hP, hE⟩ := hv
  have hx := B.exec
  have hb := B.bytes
  have hr := B.returns
  have hT : ∀ w ∈ TB, w.before _ s = true := fun w h => atoms_spec (ws := hz_w yX12_fit cX12_fit 3 (some .int)) B.pre w (List.mem_cons_of_mem _ h)
  have hown : s.vm.findClass RX12 = some m.cls := findClass_of_methodNamed B.named
  have hlocks := B.notSynchronized
  clear B
  have hS : va_S (fun _ => False) s.heap s.heap [] := va_S.rf
  have hK := hE.1
  have hl := lv_entry ([.ref a, .int p0, .int p1]) (n := 3) (Nat.le_of_ble_eq_true rfl)
  rw [lg_entry_eq]
  generalize (lg_sl ([.ref a, .int p0, .int p1]) ++ List.replicate (3 - (lg_sl ([.ref a, .int p0, .int p1])).length) Slot.unset).toArray = ls at hl ⊢
  have hl : lv_has ls 3 [(0, .ref a), (1, .int p0), (2, .int p1)] := hl
  obtain ⟨H, eH⟩ : ∃ z, z = s.heap := ⟨_, rfl⟩
  have hP : va_P D classes [(a_said, .inl (cs 0, 123, .inl a_said_c)), (a, .inr (12, [.ref a_tape, .int a__taped, .int a__rules, .ref a_sign, .ref a_length, .ref a_clause, .ref a_clauses, .ref a_read, .int a__next, .int a__wrong, .int a__number, .int a__text, .int a__made, .int a__deep, .int a__lines, .ref a_open, .int a__opened, .ref a_stack, .int a__top, .ref a_word, .ref a_said, .int a__x, .ref a_worth, .ref a_mate, .ref a_wasSaid, .int a__undone, .int a__boughtNow, .ref a_wayBy, .ref a_wayThen, .int a__walkMost, .int a__walkGoing, .int a__walkSet, .ref a_kept, .long a__drawX, .ref a_images, .ref a_imageX, .ref a_isMade]))] H := by rw [eH]; exact hP
  have hS : va_S (fun _ => False) s.heap H [] := by rw [eH]; exact hS
  rw [← eH]
  clear eH
  obtain ⟨locs, el⟩ : ∃ z : List Loc, z = [] := ⟨_, rfl⟩
  rw [← el] at hS ⊢
  clear el
  have z0 : (0 : Int32).toInt = 0 := by decide
  have z1 : (1 : Int32).toInt = 1 := by decide
  have zm1 : (-1 : Int32).toInt = -1 := by decide
  have i_a__lines : 0 ≤ a__lines.toInt ∧ a__lines.toInt ≤ 40 := h_a__lines
  have i_a__made : 0 ≤ a__made.toInt ∧ a__made.toInt ≤ 60 := h_a__made
  have i_a__next : 0 ≤ a__next.toInt ∧ a__next.toInt ≤ 400 := h_a__next
  have i_a__opened : 0 ≤ a__opened.toInt ∧ a__opened.toInt ≤ 400 := h_a__opened
  have i_a__rules : 0 ≤ a__rules.toInt ∧ a__rules.toInt ≤ 6 := h_a__rules
  have i_a__taped : 0 ≤ a__taped.toInt ∧ a__taped.toInt ≤ 400 := h_a__taped
  have i_a__text : 0 ≤ a__text.toInt ∧ a__text.toInt ≤ 6 := h_a__text
  have i_a__top : 0 ≤ a__top.toInt ∧ a__top.toInt ≤ 64 := h_a__top
  have i_a__undone : 0 ≤ a__undone.toInt ∧ a__undone.toInt ≤ 20 := h_a__undone
  have i_a__x : 0 ≤ a__x.toInt ∧ a__x.toInt ≤ 2147483647 := h_a__x
  refine lv_aload_n hx hb dX12_fit_0 rfl (lv_at hl 0 rfl) ?_
  refine lv_iload_n hx hb dX12_fit_1 rfl (lv_at hl 1 rfl) ?_
  refine va_calli (va_runV (As := [.int p0]) (rest := []) ⟨hx, hb, hml, hown, hT⟩ (c_X12_isHalf l D cs kK kV a p0 a_said a_said_c a_tape a__taped a__rules a_sign a_length a_clause a_clauses a_read a__next a__wrong a__number a__text a__made a__deep a__lines a_open a__opened a_stack a__top a_word a__x a_worth a_mate a_wasSaid a__undone a__boughtNow a_wayBy a_wayThen a__walkMost a__walkGoing a__walkSet a_kept a__drawX a_images a_imageX a_isMade h_a__taped h_a__rules h_a__next h_a__text h_a__made h_a__lines h_a__opened h_a__top h_a__x h_a__undone hf0) (cwV 1 hT (hz_gV q_1148 q_1149 q_1150 q_701 q_1151) rfl rfl rfl (by decide +kernel) ⟨(Nat.le_of_ble_eq_true rfl), (Nat.le_of_ble_eq_true rfl)⟩) ⟨hz_P.blind, va_recv hK hP (ci := 12) (q0 := 1) rfl rfl, hz_P.mk (hP.sub (ws' := [(a_said, .inl (cs 0, 123, .inl a_said_c)), (a, .inr (12, [.ref a_tape, .int a__taped, .int a__rules, .ref a_sign, .ref a_length, .ref a_clause, .ref a_clauses, .ref a_read, .int a__next, .int a__wrong, .int a__number, .int a__text, .int a__made, .int a__deep, .int a__lines, .ref a_open, .int a__opened, .ref a_stack, .int a__top, .ref a_word, .ref a_said, .int a__x, .ref a_worth, .ref a_mate, .ref a_wasSaid, .int a__undone, .int a__boughtNow, .ref a_wayBy, .ref a_wayThen, .int a__walkMost, .int a__walkGoing, .int a__walkSet, .ref a_kept, .long a__drawX, .ref a_images, .ref a_imageX, .ref a_isMade]))]) [0,1] rfl) hE hS⟩ rfl rfl hl.1 rfl (lv_room (Nat.le_of_ble_eq_true rfl)) dX12_fit_2 ⟨(Nat.le_of_ble_eq_true rfl), (Nat.le_of_ble_eq_true rfl)⟩) hS (fun _ _ h => h.elim) (fun _ h => h.elim) (fun r1 u t H1 locs ht hvm hw hB hz1 hk1 hS => ?_)
  have hP := hz_keep hP hk1
  clear hk1 hB hz1
  generalize H1 = H at hP hS ⊢
  rcases hw with ⟨rfl, h2⟩ | ⟨rfl, h3, x4, x5⟩
  · have ii6 : (-2147483648) ≤ p0.toInt ∧ p0.toInt ≤ 2147483647 := h2
    refine lv_if_eq (tgt := 30) hx hb dX12_fit_5 (by decide) (fun _ => ?_) (fun z => absurd (by decide) z)
    refine lv_iconst (v := (-1)) hx hb dX12_fit_30 (by decide) ?_
    exact W.iret (v := (-1)) hx hb hr (fun t ht hW => ⟨⟨(-1), (), rfl, (iv_c (by decide)), trivial⟩, hS.F ht⟩) hS.2.2 dX12_fit_31
  · have ii7 : 0 ≤ p0.toInt ∧ p0.toInt ≤ 11 := h3
    refine lv_if_eq (tgt := 30) hx hb dX12_fit_5 (by decide) (fun z => absurd z (by decide)) (fun _ => ?_)
    refine lv_aload_n hx hb dX12_fit_8 rfl (lv_at hl 0 rfl) ?_
    refine lv_iload_n hx hb dX12_fit_9 rfl (lv_at hl 2 rfl) ?_
    refine va_calli (va_runV (As := [.int p1]) (rest := []) ⟨hx, hb, hml, hown, hT⟩ (c_X12_isHalf l D cs kK kV a p1 a_said a_said_c a_tape a__taped a__rules a_sign a_length a_clause a_clauses a_read a__next a__wrong a__number a__text a__made a__deep a__lines a_open a__opened a_stack a__top a_word a__x a_worth a_mate a_wasSaid a__undone a__boughtNow a_wayBy a_wayThen a__walkMost a__walkGoing a__walkSet a_kept a__drawX a_images a_imageX a_isMade h_a__taped h_a__rules h_a__next h_a__text h_a__made h_a__lines h_a__opened h_a__top h_a__x h_a__undone hf0) (cwV 1 hT (hz_gV q_1148 q_1149 q_1150 q_701 q_1151) rfl rfl rfl (by decide +kernel) ⟨(Nat.le_of_ble_eq_true rfl), (Nat.le_of_ble_eq_true rfl)⟩) ⟨hz_P.blind, va_recv hK hP (ci := 12) (q0 := 1) rfl rfl, hz_P.mk (hP.sub (ws' := [(a_said, .inl (cs 0, 123, .inl a_said_c)), (a, .inr (12, [.ref a_tape, .int a__taped, .int a__rules, .ref a_sign, .ref a_length, .ref a_clause, .ref a_clauses, .ref a_read, .int a__next, .int a__wrong, .int a__number, .int a__text, .int a__made, .int a__deep, .int a__lines, .ref a_open, .int a__opened, .ref a_stack, .int a__top, .ref a_word, .ref a_said, .int a__x, .ref a_worth, .ref a_mate, .ref a_wasSaid, .int a__undone, .int a__boughtNow, .ref a_wayBy, .ref a_wayThen, .int a__walkMost, .int a__walkGoing, .int a__walkSet, .ref a_kept, .long a__drawX, .ref a_images, .ref a_imageX, .ref a_isMade]))]) [0,1] rfl) hE hS⟩ rfl rfl hl.1 rfl (lv_room (Nat.le_of_ble_eq_true rfl)) dX12_fit_10 ⟨(Nat.le_of_ble_eq_true rfl), (Nat.le_of_ble_eq_true rfl)⟩) hS (fun _ _ h => h.elim) (fun _ h => h.elim) (fun r8 u t H1 locs ht hvm hw hB hz1 hk1 hS => ?_)
    have hP := hz_keep hP hk1
    clear hk1 hB hz1
    generalize H1 = H at hP hS ⊢
    rcases hw with ⟨rfl, h9⟩ | ⟨rfl, h10, x11, x12⟩
    · have ii13 : (-2147483648) ≤ p1.toInt ∧ p1.toInt ≤ 2147483647 := h9
      refine lv_if_eq (tgt := 30) hx hb dX12_fit_13 (by decide) (fun _ => ?_) (fun z => absurd (by decide) z)
      refine lv_iconst (v := (-1)) hx hb dX12_fit_30 (by decide) ?_
      exact W.iret (v := (-1)) hx hb hr (fun t ht hW => ⟨⟨(-1), (), rfl, (iv_c (by decide)), trivial⟩, hS.F ht⟩) hS.2.2 dX12_fit_31
    · have ii14 : 0 ≤ p1.toInt ∧ p1.toInt ≤ 11 := h10
      refine lv_if_eq (tgt := 30) hx hb dX12_fit_13 (by decide) (fun z => absurd z (by decide)) (fun _ => ?_)
      refine lv_iload_n hx hb dX12_fit_16 rfl (lv_at hl 1 rfl) ?_
      refine lv_iload_n hx hb dX12_fit_17 rfl (lv_at hl 2 rfl) ?_
      refine lv_icmp_eq (tgt := 30) hx hb dX12_fit_18 (by decide) (fun c15 => ?_) (fun c15 => ?_)
      · have t16 : p0.toInt = p1.toInt := lin_eq c15 rfl rfl
        refine lv_iconst (v := (-1)) hx hb dX12_fit_30 (by decide) ?_
        exact W.iret (v := (-1)) hx hb hr (fun t ht hW => ⟨⟨(-1), (), rfl, (iv_c (by decide)), trivial⟩, hS.F ht⟩) hS.2.2 dX12_fit_31
      · have t17 : p0.toInt ≠ p1.toInt := lin_ne c15 rfl rfl
        refine lv_aload_n hx hb dX12_fit_21 rfl (lv_at hl 0 rfl) ?_
        refine lv_iload_n hx hb dX12_fit_22 rfl (lv_at hl 1 rfl) ?_
        refine lv_iload_n hx hb dX12_fit_23 rfl (lv_at hl 2 rfl) ?_
        refine va_calli (va_runV (As := [.int p0, .int p1]) (rest := []) ⟨hx, hb, hml, hown, hT⟩ (c_X12_fitOf l D cs kK kV a p0 p1 a_tape a__taped a__rules a_sign a_length a_clause a_clauses a_read a__next a__wrong a__number a__text a__made a__deep a__lines a_open a__opened a_stack a__top a_word a_said a__x a_worth a_mate a_wasSaid a__undone a__boughtNow a_wayBy a_wayThen a__walkMost a__walkGoing a__walkSet a_kept a__drawX a_images a_imageX a_isMade a_said_c h3 h10 h_a__taped h_a__rules h_a__next h_a__text h_a__made h_a__lines h_a__opened h_a__top h_a__x h_a__undone) (cwV 2 hT (hz_gV q_1136 q_1137 q_1138 q_701 q_1139) rfl rfl rfl (by decide +kernel) ⟨(Nat.le_of_ble_eq_true rfl), (Nat.le_of_ble_eq_true rfl)⟩) ⟨hz_P.blind, va_recv hK hP (ci := 12) (q0 := 1) rfl rfl, hz_P.mk (hP.sub (ws' := [(a, .inr (12, [.ref a_tape, .int a__taped, .int a__rules, .ref a_sign, .ref a_length, .ref a_clause, .ref a_clauses, .ref a_read, .int a__next, .int a__wrong, .int a__number, .int a__text, .int a__made, .int a__deep, .int a__lines, .ref a_open, .int a__opened, .ref a_stack, .int a__top, .ref a_word, .ref a_said, .int a__x, .ref a_worth, .ref a_mate, .ref a_wasSaid, .int a__undone, .int a__boughtNow, .ref a_wayBy, .ref a_wayThen, .int a__walkMost, .int a__walkGoing, .int a__walkSet, .ref a_kept, .long a__drawX, .ref a_images, .ref a_imageX, .ref a_isMade])), (a_said, .inl (cs 0, 123, .inl a_said_c))]) [1,0] rfl) hE hS⟩ rfl rfl hl.1 rfl (lv_room (Nat.le_of_ble_eq_true rfl)) dX12_fit_24 ⟨(Nat.le_of_ble_eq_true rfl), (Nat.le_of_ble_eq_true rfl)⟩) hS (fun _ _ h => h.elim) (fun _ h => h.elim) (fun r18 u t H1 locs ht hvm hw hB hz1 hk1 hS => ?_)
        have hP := hz_keep hP hk1
        clear hk1 hB hz1
        generalize H1 = H at hP hS ⊢
        rcases hw with rfl | rfl | rfl
        · refine lv_goto (tgt := 31) hx hb dX12_fit_27 (by decide) ?_
          exact W.iret (v := 0) hx hb hr (fun t ht hW => ⟨⟨0, (), rfl, (iv_c (by decide)), trivial⟩, hS.F ht⟩) hS.2.2 dX12_fit_31
        · refine lv_goto (tgt := 31) hx hb dX12_fit_27 (by decide) ?_
          exact W.iret (v := 1) hx hb hr (fun t ht hW => ⟨⟨1, (), rfl, (iv_c (by decide)), trivial⟩, hS.F ht⟩) hS.2.2 dX12_fit_31
        · refine lv_goto (tgt := 31) hx hb dX12_fit_27 (by decide) ?_
          exact W.iret (v := 2) hx hb hr (fun t ht hW => ⟨⟨2, (), rfl, (iv_c (by decide)), trivial⟩, hS.F ht⟩) hS.2.2 dX12_fit_31
theorem dX12_buyer_0 : decode cX12_buyer 0 = .ok (.aload_n 0, 1) := by decide +kernel
theorem dX12_buyer_1 : decode cX12_buyer 1 = .ok (.iload_n 1, 1) := by decide +kernel
theorem dX12_buyer_2 : decode cX12_buyer 2 = .ok (.invokevirtual 343, 3) := by decide +kernel
theorem dX12_buyer_5 : decode cX12_buyer 5 = .ok (.ifCond .ne 5, 3) := by decide +kernel
theorem dX12_buyer_8 : decode cX12_buyer 8 = .ok (.iconst (-1), 1) := by decide +kernel
theorem dX12_buyer_9 : decode cX12_buyer 9 = .ok (.ireturn, 1) := by decide +kernel
theorem dX12_buyer_10 : decode cX12_buyer 10 = .ok (.iload_n 2, 1) := by decide +kernel
theorem dX12_buyer_11 : decode cX12_buyer 11 = .ok (.tableswitch 74 0 5 #[37, 37, 44, 50, 56, 63], 37) := by decide +kernel
theorem dX12_buyer_48 : decode cX12_buyer 48 = .ok (.aload_n 0, 1) := by decide +kernel
theorem dX12_buyer_49 : decode cX12_buyer 49 = .ok (.iload_n 1, 1) := by decide +kernel
theorem dX12_buyer_50 : decode cX12_buyer 50 = .ok (.iload_n 2, 1) := by decide +kernel
theorem dX12_buyer_51 : decode cX12_buyer 51 = .ok (.invokevirtual 314, 3) := by decide +kernel
theorem dX12_buyer_54 : decode cX12_buyer 54 = .ok (.ireturn, 1) := by decide +kernel
theorem dX12_buyer_55 : decode cX12_buyer 55 = .ok (.aload_n 0, 1) := by decide +kernel
theorem dX12_buyer_56 : decode cX12_buyer 56 = .ok (.iload_n 1, 1) := by decide +kernel
theorem dX12_buyer_57 : decode cX12_buyer 57 = .ok (.invokevirtual 346, 3) := by decide +kernel
theorem dX12_buyer_60 : decode cX12_buyer 60 = .ok (.ireturn, 1) := by decide +kernel
theorem dX12_buyer_61 : decode cX12_buyer 61 = .ok (.aload_n 0, 1) := by decide +kernel
theorem dX12_buyer_62 : decode cX12_buyer 62 = .ok (.iload_n 1, 1) := by decide +kernel
theorem dX12_buyer_63 : decode cX12_buyer 63 = .ok (.invokevirtual 349, 3) := by decide +kernel
theorem dX12_buyer_66 : decode cX12_buyer 66 = .ok (.ireturn, 1) := by decide +kernel
theorem dX12_buyer_67 : decode cX12_buyer 67 = .ok (.aload_n 0, 1) := by decide +kernel
theorem dX12_buyer_68 : decode cX12_buyer 68 = .ok (.iload_n 1, 1) := by decide +kernel
theorem dX12_buyer_69 : decode cX12_buyer 69 = .ok (.iconst 3, 1) := by decide +kernel
theorem dX12_buyer_70 : decode cX12_buyer 70 = .ok (.invokevirtual 314, 3) := by decide +kernel
theorem dX12_buyer_73 : decode cX12_buyer 73 = .ok (.ireturn, 1) := by decide +kernel
theorem dX12_buyer_74 : decode cX12_buyer 74 = .ok (.aload_n 0, 1) := by decide +kernel
theorem dX12_buyer_75 : decode cX12_buyer 75 = .ok (.getfield 42, 3) := by decide +kernel
theorem dX12_buyer_78 : decode cX12_buyer 78 = .ok (.aload_n 0, 1) := by decide +kernel
theorem dX12_buyer_79 : decode cX12_buyer 79 = .ok (.iload_n 1, 1) := by decide +kernel
theorem dX12_buyer_80 : decode cX12_buyer 80 = .ok (.invokevirtual 346, 3) := by decide +kernel
theorem dX12_buyer_83 : decode cX12_buyer 83 = .ok (.iaload, 1) := by decide +kernel
theorem dX12_buyer_84 : decode cX12_buyer 84 = .ok (.ireturn, 1) := by decide +kernel
theorem dX12_buyer_85 : decode cX12_buyer 85 = .ok (.iconst (-1), 1) := by decide +kernel
theorem dX12_buyer_86 : decode cX12_buyer 86 = .ok (.ireturn, 1) := by decide +kernel
set_option maxHeartbeats 4000000 in
set_option maxRecDepth 100000 in
theorem c_X12_buyer (l : Launch) (D : va_G) (cs : Nat → ClassId) (kK kV : Nat → Nat) (a : Nat) (p0 : Int32) (p1 : Int32) (a_said : Nat) (a_said_c : Nat → Int32) (a_tape : Nat) (a__taped : Int32) (a__rules : Int32) (a_sign : Nat) (a_length : Nat) (a_clause : Nat) (a_clauses : Nat) (a_read : Nat) (a__next : Int32) (a__wrong : Int32) (a__number : Int32) (a__text : Int32) (a__made : Int32) (a__deep : Int32) (a__lines : Int32) (a_open : Nat) (a__opened : Int32) (a_stack : Nat) (a__top : Int32) (a_word : Nat) (a__x : Int32) (a_worth : Nat) (a_mate : Nat) (a_wasSaid : Nat) (a__undone : Int32) (a__boughtNow : Int32) (a_wayBy : Nat) (a_wayThen : Nat) (a__walkMost : Int32) (a__walkGoing : Int32) (a__walkSet : Int32) (a_kept : Nat) (a__drawX : Int64) (a_images : Nat) (a_imageX : Nat) (a_isMade : Nat) (a_worth_c : Nat → Int32) (h_a__taped : IV 0 400 a__taped) (h_a__rules : IV 0 6 a__rules) (h_a__next : IV 0 400 a__next) (h_a__text : IV 0 6 a__text) (h_a__made : IV 0 60 a__made) (h_a__lines : IV 0 40 a__lines) (h_a__opened : IV 0 400 a__opened) (h_a__top : IV 0 64 a__top) (h_a__x : IV 0 2147483647 a__x) (h_a__undone : IV 0 20 a__undone) (hf0 : BS a_said_c 200) : Met l yX12_buyer (hz_w yX12_buyer cX12_buyer 3 (some .int)) ({ frames := 2, cells := 0, slots := 0, locals := 45 }) (va_Pc [.ref a, .int p0, .int p1] (hz_P D cs kK kV [(a_said, .inl (cs 0, 123, .inl a_said_c)), (a, .inr (12, [.ref a_tape, .int a__taped, .int a__rules, .ref a_sign, .ref a_length, .ref a_clause, .ref a_clauses, .ref a_read, .int a__next, .int a__wrong, .int a__number, .int a__text, .int a__made, .int a__deep, .int a__lines, .ref a_open, .int a__opened, .ref a_stack, .int a__top, .ref a_word, .ref a_said, .int a__x, .ref a_worth, .ref a_mate, .ref a_wasSaid, .int a__undone, .int a__boughtNow, .ref a_wayBy, .ref a_wayThen, .int a__walkMost, .int a__walkGoing, .int a__walkSet, .ref a_kept, .long a__drawX, .ref a_images, .ref a_imageX, .ref a_isMade])), (a_worth, .inl (cs 0, 4096, .inl a_worth_c))])) (va_Qi (fun (r : Int32) (_ : Unit) => (r = (-1) ∧ IV (-2147483648) 2147483647 p0) ∨ (IV 0 3 p0 ∧ IV 0 5 p1)) (fun _ t => True) (fun _ => False)) 0 0 (fun _ => False) := by
  refine Met.ofW (cc := cX12_buyer) (maxL := 3) (ret := (some .int)) (by decide) rfl ?_
  intro p e s m args below meth c s₁ B hml hv
  obtain ⟨rfl, hP, hE⟩ := hv
  have hx := B.exec
  have hb := B.bytes
  have hr := B.returns
  have hT : ∀ w ∈ TB, w.before _ s = true := fun w h => atoms_spec (ws := hz_w yX12_buyer cX12_buyer 3 (some .int)) B.pre w (List.mem_cons_of_mem _ h)
  have hown : s.vm.findClass RX12 = some m.cls := findClass_of_methodNamed B.named
  have hlocks := B.notSynchronized
  clear B
  have hS : va_S (fun _ => False) s.heap s.heap [] := va_S.rf
  have hK := hE.1
  have hl := lv_entry ([.ref a, .int p0, .int p1]) (n := 3) (Nat.le_of_ble_eq_true rfl)
  rw [lg_entry_eq]
  generalize (lg_sl ([.ref a, .int p0, .int p1]) ++ List.replicate (3 - (lg_sl ([.ref a, .int p0, .int p1])).length) Slot.unset).toArray = ls at hl ⊢
  have hl : lv_has ls 3 [(0, .ref a), (1, .int p0), (2, .int p1)] := hl
  obtain ⟨H, eH⟩ : ∃ z, z = s.heap := ⟨_, rfl⟩
  have hP : va_P D classes [(a_said, .inl (cs 0, 123, .inl a_said_c)), (a, .inr (12, [.ref a_tape, .int a__taped, .int a__rules, .ref a_sign, .ref a_length, .ref a_clause, .ref a_clauses, .ref a_read, .int a__next, .int a__wrong, .int a__number, .int a__text, .int a__made, .int a__deep, .int a__lines, .ref a_open, .int a__opened, .ref a_stack, .int a__top, .ref a_word, .ref a_said, .int a__x, .ref a_worth, .ref a_mate, .ref a_wasSaid, .int a__undone, .int a__boughtNow, .ref a_wayBy, .ref a_wayThen, .int a__walkMost, .int a__walkGoing, .int a__walkSet, .ref a_kept, .long a__drawX, .ref a_images, .ref a_imageX, .ref a_isMade])), (a_worth, .inl (cs 0, 4096, .inl a_worth_c))] H := by rw [eH]; exact hP
  have hS : va_S (fun _ => False) s.heap H [] := by rw [eH]; exact hS
  rw [← eH]
  clear eH
  obtain ⟨locs, el⟩ : ∃ z : List Loc, z = [] := ⟨_, rfl⟩
  rw [← el] at hS ⊢
  clear el
  have z0 : (0 : Int32).toInt = 0 := by decide
  have z1 : (1 : Int32).toInt = 1 := by decide
  have zm1 : (-1 : Int32).toInt = -1 := by decide
  have i_a__lines : 0 ≤ a__lines.toInt ∧ a__lines.toInt ≤ 40 := h_a__lines
  have i_a__made : 0 ≤ a__made.toInt ∧ a__made.toInt ≤ 60 := h_a__made
  have i_a__next : 0 ≤ a__next.toInt ∧ a__next.toInt ≤ 400 := h_a__next
  have i_a__opened : 0 ≤ a__opened.toInt ∧ a__opened.toInt ≤ 400 := h_a__opened
  have i_a__rules : 0 ≤ a__rules.toInt ∧ a__rules.toInt ≤ 6 := h_a__rules
  have i_a__taped : 0 ≤ a__taped.toInt ∧ a__taped.toInt ≤ 400 := h_a__taped
  have i_a__text : 0 ≤ a__text.toInt ∧ a__text.toInt ≤ 6 := h_a__text
  have i_a__top : 0 ≤ a__top.toInt ∧ a__top.toInt ≤ 64 := h_a__top
  have i_a__undone : 0 ≤ a__undone.toInt ∧ a__undone.toInt ≤ 20 := h_a__undone
  have i_a__x : 0 ≤ a__x.toInt ∧ a__x.toInt ≤ 2147483647 := h_a__x
  refine lv_aload_n hx hb dX12_buyer_0 rfl (lv_at hl 0 rfl) ?_
  refine lv_iload_n hx hb dX12_buyer_1 rfl (lv_at hl 1 rfl) ?_
  refine va_calli (va_runV (As := [.int p0]) (rest := []) ⟨hx, hb, hml, hown, hT⟩ (c_X12_isBuyer l D cs kK kV a p0 a_said a_said_c a_tape a__taped a__rules a_sign a_length a_clause a_clauses a_read a__next a__wrong a__number a__text a__made a__deep a__lines a_open a__opened a_stack a__top a_word a__x a_worth a_mate a_wasSaid a__undone a__boughtNow a_wayBy a_wayThen a__walkMost a__walkGoing a__walkSet a_kept a__drawX a_images a_imageX a_isMade h_a__taped h_a__rules h_a__next h_a__text h_a__made h_a__lines h_a__opened h_a__top h_a__x h_a__undone hf0) (cwV 1 hT (hz_gV q_1156 q_1157 q_1158 q_701 q_1159) rfl rfl rfl (by decide +kernel) ⟨(Nat.le_of_ble_eq_true rfl), (Nat.le_of_ble_eq_true rfl)⟩) ⟨hz_P.blind, va_recv hK hP (ci := 12) (q0 := 1) rfl rfl, hz_P.mk (hP.sub (ws' := [(a_said, .inl (cs 0, 123, .inl a_said_c)), (a, .inr (12, [.ref a_tape, .int a__taped, .int a__rules, .ref a_sign, .ref a_length, .ref a_clause, .ref a_clauses, .ref a_read, .int a__next, .int a__wrong, .int a__number, .int a__text, .int a__made, .int a__deep, .int a__lines, .ref a_open, .int a__opened, .ref a_stack, .int a__top, .ref a_word, .ref a_said, .int a__x, .ref a_worth, .ref a_mate, .ref a_wasSaid, .int a__undone, .int a__boughtNow, .ref a_wayBy, .ref a_wayThen, .int a__walkMost, .int a__walkGoing, .int a__walkSet, .ref a_kept, .long a__drawX, .ref a_images, .ref a_imageX, .ref a_isMade]))]) [0,1] rfl) hE hS⟩ rfl rfl hl.1 rfl (lv_room (Nat.le_of_ble_eq_true rfl)) dX12_buyer_2 ⟨(Nat.le_of_ble_eq_true rfl), (Nat.le_of_ble_eq_true rfl)⟩) hS (fun _ _ h => h.elim) (fun _ h => h.elim) (fun r1 u t H1 locs ht hvm hw hB hz1 hk1 hS => ?_)
  have hP := hz_keep hP hk1
  clear hk1 hB hz1
  generalize H1 = H at hP hS ⊢
  rcases hw with ⟨rfl, h2⟩ | ⟨rfl, h3, x4, x5⟩
  · have ii6 : (-2147483648) ≤ p0.toInt ∧ p0.toInt ≤ 2147483647 := h2
    refine lv_if_ne (tgt := 10) hx hb dX12_buyer_5 (by decide) (fun z => absurd (by decide) z) (fun _ => ?_)
    refine lv_iconst (v := (-1)) hx hb dX12_buyer_8 (by decide) ?_
    exact W.iret (v := (-1)) hx hb hr (fun t ht hW => ⟨⟨(-1), (), rfl, (Or.inl (⟨rfl, h2⟩)), trivial⟩, hS.F ht⟩) hS.2.2 dX12_buyer_9
  · have ii7 : 0 ≤ p0.toInt ∧ p0.toInt ≤ 3 := h3
    refine lv_if_ne (tgt := 10) hx hb dX12_buyer_5 (by decide) (fun _ => ?_) (fun z => absurd z (by decide))
    refine lv_iload_n hx hb dX12_buyer_10 rfl (lv_at hl 2 rfl) ?_
    by_cases c8 : p1.toInt < 0 ∨ 5 < p1.toInt
    · refine lv_tableOut (tgt := 85) hx hb dX12_buyer_11 c8 (by decide) ?_
      refine lv_iconst (v := (-1)) hx hb dX12_buyer_85 (by decide) ?_
      exact W.iret (v := (-1)) hx hb hr (fun t ht hW => ⟨⟨(-1), (), rfl, (Or.inl (⟨rfl, (iv_w h3 (by decide) (by decide))⟩)), trivial⟩, hS.F ht⟩) hS.2.2 dX12_buyer_86
    · rcases (show p1.toInt = 0 ∨ p1.toInt = 1 ∨ p1.toInt = 2 ∨ p1.toInt = 3 ∨ p1.toInt = 4 ∨ p1.toInt = 5 by omega) with c8e | c8e | c8e | c8e | c8e | c8e
      · refine lv_tableIn (off := 37) (tgt := 48) hx hb dX12_buyer_11 (by omega) (by omega) (by rw [c8e]; rfl) (by decide) ?_
        have h9 : IV 0 0 p1 := ⟨by omega, by omega⟩
        have ii10 : 0 ≤ p1.toInt ∧ p1.toInt ≤ 0 := h9
        refine lv_aload_n hx hb dX12_buyer_48 rfl (lv_at hl 0 rfl) ?_
        refine lv_iload_n hx hb dX12_buyer_49 rfl (lv_at hl 1 rfl) ?_
        refine lv_iload_n hx hb dX12_buyer_50 rfl (lv_at hl 2 rfl) ?_
        refine va_calli (va_runV (As := [.int p0, .int p1]) (rest := []) ⟨hx, hb, hml, hown, hT⟩ (c_X12_buyerOf l D cs kK kV a p0 p1 a_said a_said_c a_tape a__taped a__rules a_sign a_length a_clause a_clauses a_read a__next a__wrong a__number a__text a__made a__deep a__lines a_open a__opened a_stack a__top a_word a__x a_worth a_mate a_wasSaid a__undone a__boughtNow a_wayBy a_wayThen a__walkMost a__walkGoing a__walkSet a_kept a__drawX a_images a_imageX a_isMade h3 ((iv_w h9 (by decide) (by decide))) h_a__taped h_a__rules h_a__next h_a__text h_a__made h_a__lines h_a__opened h_a__top h_a__x h_a__undone hf0) (cwV 2 hT (hz_gV q_1120 q_1121 q_1122 q_701 q_1123) rfl rfl rfl (by decide +kernel) ⟨(Nat.le_of_ble_eq_true rfl), (Nat.le_of_ble_eq_true rfl)⟩) ⟨hz_P.blind, va_recv hK hP (ci := 12) (q0 := 1) rfl rfl, hz_P.mk (hP.sub (ws' := [(a_said, .inl (cs 0, 123, .inl a_said_c)), (a, .inr (12, [.ref a_tape, .int a__taped, .int a__rules, .ref a_sign, .ref a_length, .ref a_clause, .ref a_clauses, .ref a_read, .int a__next, .int a__wrong, .int a__number, .int a__text, .int a__made, .int a__deep, .int a__lines, .ref a_open, .int a__opened, .ref a_stack, .int a__top, .ref a_word, .ref a_said, .int a__x, .ref a_worth, .ref a_mate, .ref a_wasSaid, .int a__undone, .int a__boughtNow, .ref a_wayBy, .ref a_wayThen, .int a__walkMost, .int a__walkGoing, .int a__walkSet, .ref a_kept, .long a__drawX, .ref a_images, .ref a_imageX, .ref a_isMade]))]) [0,1] rfl) hE hS⟩ rfl rfl hl.1 rfl (lv_room (Nat.le_of_ble_eq_true rfl)) dX12_buyer_51 ⟨(Nat.le_of_ble_eq_true rfl), (Nat.le_of_ble_eq_true rfl)⟩) hS (fun _ _ h => h.elim) (fun _ h => h.elim) (fun r11 u t H1 locs ht hvm hw hB hz1 hk1 hS => ?_)
        have hP := hz_keep hP hk1
        clear hk1 hB hz1
        generalize H1 = H at hP hS ⊢
        rcases hw with ⟨x12, x13⟩
        exact W.iret (v := r11) hx hb hr (fun t ht hW => ⟨⟨r11, (), rfl, (Or.inr ((⟨h3, (iv_w h9 (by decide) (by decide))⟩))), trivial⟩, hS.F ht⟩) hS.2.2 dX12_buyer_54
      · refine lv_tableIn (off := 37) (tgt := 48) hx hb dX12_buyer_11 (by omega) (by omega) (by rw [c8e]; rfl) (by decide) ?_
        have h14 : IV 1 1 p1 := ⟨by omega, by omega⟩
        have ii15 : 1 ≤ p1.toInt ∧ p1.toInt ≤ 1 := h14
        refine lv_aload_n hx hb dX12_buyer_48 rfl (lv_at hl 0 rfl) ?_
        refine lv_iload_n hx hb dX12_buyer_49 rfl (lv_at hl 1 rfl) ?_
        refine lv_iload_n hx hb dX12_buyer_50 rfl (lv_at hl 2 rfl) ?_
        refine va_calli (va_runV (As := [.int p0, .int p1]) (rest := []) ⟨hx, hb, hml, hown, hT⟩ (c_X12_buyerOf l D cs kK kV a p0 p1 a_said a_said_c a_tape a__taped a__rules a_sign a_length a_clause a_clauses a_read a__next a__wrong a__number a__text a__made a__deep a__lines a_open a__opened a_stack a__top a_word a__x a_worth a_mate a_wasSaid a__undone a__boughtNow a_wayBy a_wayThen a__walkMost a__walkGoing a__walkSet a_kept a__drawX a_images a_imageX a_isMade h3 ((iv_w h14 (by decide) (by decide))) h_a__taped h_a__rules h_a__next h_a__text h_a__made h_a__lines h_a__opened h_a__top h_a__x h_a__undone hf0) (cwV 2 hT (hz_gV q_1120 q_1121 q_1122 q_701 q_1123) rfl rfl rfl (by decide +kernel) ⟨(Nat.le_of_ble_eq_true rfl), (Nat.le_of_ble_eq_true rfl)⟩) ⟨hz_P.blind, va_recv hK hP (ci := 12) (q0 := 1) rfl rfl, hz_P.mk (hP.sub (ws' := [(a_said, .inl (cs 0, 123, .inl a_said_c)), (a, .inr (12, [.ref a_tape, .int a__taped, .int a__rules, .ref a_sign, .ref a_length, .ref a_clause, .ref a_clauses, .ref a_read, .int a__next, .int a__wrong, .int a__number, .int a__text, .int a__made, .int a__deep, .int a__lines, .ref a_open, .int a__opened, .ref a_stack, .int a__top, .ref a_word, .ref a_said, .int a__x, .ref a_worth, .ref a_mate, .ref a_wasSaid, .int a__undone, .int a__boughtNow, .ref a_wayBy, .ref a_wayThen, .int a__walkMost, .int a__walkGoing, .int a__walkSet, .ref a_kept, .long a__drawX, .ref a_images, .ref a_imageX, .ref a_isMade]))]) [0,1] rfl) hE hS⟩ rfl rfl hl.1 rfl (lv_room (Nat.le_of_ble_eq_true rfl)) dX12_buyer_51 ⟨(Nat.le_of_ble_eq_true rfl), (Nat.le_of_ble_eq_true rfl)⟩) hS (fun _ _ h => h.elim) (fun _ h => h.elim) (fun r16 u t H1 locs ht hvm hw hB hz1 hk1 hS => ?_)
        have hP := hz_keep hP hk1
        clear hk1 hB hz1
        generalize H1 = H at hP hS ⊢
        rcases hw with ⟨x17, x18⟩
        exact W.iret (v := r16) hx hb hr (fun t ht hW => ⟨⟨r16, (), rfl, (Or.inr ((⟨h3, (iv_w h14 (by decide) (by decide))⟩))), trivial⟩, hS.F ht⟩) hS.2.2 dX12_buyer_54
      · refine lv_tableIn (off := 44) (tgt := 55) hx hb dX12_buyer_11 (by omega) (by omega) (by rw [c8e]; rfl) (by decide) ?_
        have h19 : IV 2 2 p1 := ⟨by omega, by omega⟩
        have ii20 : 2 ≤ p1.toInt ∧ p1.toInt ≤ 2 := h19
        refine lv_aload_n hx hb dX12_buyer_55 rfl (lv_at hl 0 rfl) ?_
        refine lv_iload_n hx hb dX12_buyer_56 rfl (lv_at hl 1 rfl) ?_
        refine va_calli (va_runV (As := [.int p0]) (rest := []) ⟨hx, hb, hml, hown, hT⟩ (c_X12_hasOf l D cs kK kV a p0 a_said a_said_c a_tape a__taped a__rules a_sign a_length a_clause a_clauses a_read a__next a__wrong a__number a__text a__made a__deep a__lines a_open a__opened a_stack a__top a_word a__x a_worth a_mate a_wasSaid a__undone a__boughtNow a_wayBy a_wayThen a__walkMost a__walkGoing a__walkSet a_kept a__drawX a_images a_imageX a_isMade h_a__taped h_a__rules h_a__next h_a__text h_a__made h_a__lines h_a__opened h_a__top h_a__x h_a__undone hf0) (cwV 1 hT (hz_gV q_1160 q_1161 q_1162 q_701 q_1163) rfl rfl rfl (by decide +kernel) ⟨(Nat.le_of_ble_eq_true rfl), (Nat.le_of_ble_eq_true rfl)⟩) ⟨hz_P.blind, va_recv hK hP (ci := 12) (q0 := 1) rfl rfl, hz_P.mk (hP.sub (ws' := [(a_said, .inl (cs 0, 123, .inl a_said_c)), (a, .inr (12, [.ref a_tape, .int a__taped, .int a__rules, .ref a_sign, .ref a_length, .ref a_clause, .ref a_clauses, .ref a_read, .int a__next, .int a__wrong, .int a__number, .int a__text, .int a__made, .int a__deep, .int a__lines, .ref a_open, .int a__opened, .ref a_stack, .int a__top, .ref a_word, .ref a_said, .int a__x, .ref a_worth, .ref a_mate, .ref a_wasSaid, .int a__undone, .int a__boughtNow, .ref a_wayBy, .ref a_wayThen, .int a__walkMost, .int a__walkGoing, .int a__walkSet, .ref a_kept, .long a__drawX, .ref a_images, .ref a_imageX, .ref a_isMade]))]) [0,1] rfl) hE hS⟩ rfl rfl hl.1 rfl (lv_room (Nat.le_of_ble_eq_true rfl)) dX12_buyer_57 ⟨(Nat.le_of_ble_eq_true rfl), (Nat.le_of_ble_eq_true rfl)⟩) hS (fun _ _ h => h.elim) (fun _ h => h.elim) (fun r21 u t H1 locs ht hvm hw hB hz1 hk1 hS => ?_)
        have hP := hz_keep hP hk1
        clear hk1 hB hz1
        generalize H1 = H at hP hS ⊢
        have hw_r21 := hw
        exact W.iret (v := r21) hx hb hr (fun t ht hW => ⟨⟨r21, (), rfl, (Or.inr ((⟨h3, (iv_w h19 (by decide) (by decide))⟩))), trivial⟩, hS.F ht⟩) hS.2.2 dX12_buyer_60
      · refine lv_tableIn (off := 50) (tgt := 61) hx hb dX12_buyer_11 (by omega) (by omega) (by rw [c8e]; rfl) (by decide) ?_
        have h22 : IV 3 3 p1 := ⟨by omega, by omega⟩
        have ii23 : 3 ≤ p1.toInt ∧ p1.toInt ≤ 3 := h22
        refine lv_aload_n hx hb dX12_buyer_61 rfl (lv_at hl 0 rfl) ?_
        refine lv_iload_n hx hb dX12_buyer_62 rfl (lv_at hl 1 rfl) ?_
        refine va_calli (va_runV (As := [.int p0]) (rest := []) ⟨hx, hb, hml, hown, hT⟩ (c_X12_sawOf l D cs kK kV a p0 a_said a_said_c a_tape a__taped a__rules a_sign a_length a_clause a_clauses a_read a__next a__wrong a__number a__text a__made a__deep a__lines a_open a__opened a_stack a__top a_word a__x a_worth a_mate a_wasSaid a__undone a__boughtNow a_wayBy a_wayThen a__walkMost a__walkGoing a__walkSet a_kept a__drawX a_images a_imageX a_isMade h3 h_a__taped h_a__rules h_a__next h_a__text h_a__made h_a__lines h_a__opened h_a__top h_a__x h_a__undone hf0) (cwV 1 hT (hz_gV q_1164 q_1165 q_1166 q_701 q_1167) rfl rfl rfl (by decide +kernel) ⟨(Nat.le_of_ble_eq_true rfl), (Nat.le_of_ble_eq_true rfl)⟩) ⟨hz_P.blind, va_recv hK hP (ci := 12) (q0 := 1) rfl rfl, hz_P.mk (hP.sub (ws' := [(a_said, .inl (cs 0, 123, .inl a_said_c)), (a, .inr (12, [.ref a_tape, .int a__taped, .int a__rules, .ref a_sign, .ref a_length, .ref a_clause, .ref a_clauses, .ref a_read, .int a__next, .int a__wrong, .int a__number, .int a__text, .int a__made, .int a__deep, .int a__lines, .ref a_open, .int a__opened, .ref a_stack, .int a__top, .ref a_word, .ref a_said, .int a__x, .ref a_worth, .ref a_mate, .ref a_wasSaid, .int a__undone, .int a__boughtNow, .ref a_wayBy, .ref a_wayThen, .int a__walkMost, .int a__walkGoing, .int a__walkSet, .ref a_kept, .long a__drawX, .ref a_images, .ref a_imageX, .ref a_isMade]))]) [0,1] rfl) hE hS⟩ rfl rfl hl.1 rfl (lv_room (Nat.le_of_ble_eq_true rfl)) dX12_buyer_63 ⟨(Nat.le_of_ble_eq_true rfl), (Nat.le_of_ble_eq_true rfl)⟩) hS (fun _ _ h => h.elim) (fun _ h => h.elim) (fun r24 u t H1 locs ht hvm hw hB hz1 hk1 hS => ?_)
        have hP := hz_keep hP hk1
        clear hk1 hB hz1
        generalize H1 = H at hP hS ⊢
        exact W.iret (v := r24) hx hb hr (fun t ht hW => ⟨⟨r24, (), rfl, (Or.inr ((⟨h3, (iv_w h22 (by decide) (by decide))⟩))), trivial⟩, hS.F ht⟩) hS.2.2 dX12_buyer_66
      · refine lv_tableIn (off := 56) (tgt := 67) hx hb dX12_buyer_11 (by omega) (by omega) (by rw [c8e]; rfl) (by decide) ?_
        have h25 : IV 4 4 p1 := ⟨by omega, by omega⟩
        have ii26 : 4 ≤ p1.toInt ∧ p1.toInt ≤ 4 := h25
        refine lv_aload_n hx hb dX12_buyer_67 rfl (lv_at hl 0 rfl) ?_
        refine lv_iload_n hx hb dX12_buyer_68 rfl (lv_at hl 1 rfl) ?_
        refine lv_iconst (v := 3) hx hb dX12_buyer_69 (by decide) ?_
        refine va_calli (va_runV (As := [.int p0, .int 3]) (rest := []) ⟨hx, hb, hml, hown, hT⟩ (c_X12_buyerOf l D cs kK kV a p0 3 a_said a_said_c a_tape a__taped a__rules a_sign a_length a_clause a_clauses a_read a__next a__wrong a__number a__text a__made a__deep a__lines a_open a__opened a_stack a__top a_word a__x a_worth a_mate a_wasSaid a__undone a__boughtNow a_wayBy a_wayThen a__walkMost a__walkGoing a__walkSet a_kept a__drawX a_images a_imageX a_isMade h3 ((iv_c (by decide))) h_a__taped h_a__rules h_a__next h_a__text h_a__made h_a__lines h_a__opened h_a__top h_a__x h_a__undone hf0) (cwV 2 hT (hz_gV q_1120 q_1121 q_1122 q_701 q_1123) rfl rfl rfl (by decide +kernel) ⟨(Nat.le_of_ble_eq_true rfl), (Nat.le_of_ble_eq_true rfl)⟩) ⟨hz_P.blind, va_recv hK hP (ci := 12) (q0 := 1) rfl rfl, hz_P.mk (hP.sub (ws' := [(a_said, .inl (cs 0, 123, .inl a_said_c)), (a, .inr (12, [.ref a_tape, .int a__taped, .int a__rules, .ref a_sign, .ref a_length, .ref a_clause, .ref a_clauses, .ref a_read, .int a__next, .int a__wrong, .int a__number, .int a__text, .int a__made, .int a__deep, .int a__lines, .ref a_open, .int a__opened, .ref a_stack, .int a__top, .ref a_word, .ref a_said, .int a__x, .ref a_worth, .ref a_mate, .ref a_wasSaid, .int a__undone, .int a__boughtNow, .ref a_wayBy, .ref a_wayThen, .int a__walkMost, .int a__walkGoing, .int a__walkSet, .ref a_kept, .long a__drawX, .ref a_images, .ref a_imageX, .ref a_isMade]))]) [0,1] rfl) hE hS⟩ rfl rfl hl.1 rfl (lv_room (Nat.le_of_ble_eq_true rfl)) dX12_buyer_70 ⟨(Nat.le_of_ble_eq_true rfl), (Nat.le_of_ble_eq_true rfl)⟩) hS (fun _ _ h => h.elim) (fun _ h => h.elim) (fun r27 u t H1 locs ht hvm hw hB hz1 hk1 hS => ?_)
        have hP := hz_keep hP hk1
        clear hk1 hB hz1
        generalize H1 = H at hP hS ⊢
        rcases hw with ⟨x28, x29⟩
        have z3 : (3 : Int32).toInt = 3 := by decide
        exact W.iret (v := r27) hx hb hr (fun t ht hW => ⟨⟨r27, (), rfl, (Or.inr ((⟨h3, (iv_w h25 (by decide) (by decide))⟩))), trivial⟩, hS.F ht⟩) hS.2.2 dX12_buyer_73
      · refine lv_tableIn (off := 63) (tgt := 74) hx hb dX12_buyer_11 (by omega) (by omega) (by rw [c8e]; rfl) (by decide) ?_
        have h30 : IV 5 5 p1 := ⟨by omega, by omega⟩
        have ii31 : 5 ≤ p1.toInt ∧ p1.toInt ≤ 5 := h30
        refine lv_aload_n hx hb dX12_buyer_74 rfl (lv_at hl 0 rfl) ?_
        refine va_get (D := D) (ci := 12) (v := .ref a_worth) (C := RX12) (T := TX12) (N := 37) hx hb hT i_X12 hown hK hP 1 rfl rfl 22 (by decide) (hT _ q_186) (fun _ h9 => h9) rfl dX12_buyer_75 ?_
        refine lv_aload_n hx hb dX12_buyer_78 rfl (lv_at hl 0 rfl) ?_
        refine lv_iload_n hx hb dX12_buyer_79 rfl (lv_at hl 1 rfl) ?_
        refine va_calli (va_runV (As := [.int p0]) (rest := [.ref a_worth]) ⟨hx, hb, hml, hown, hT⟩ (c_X12_hasOf l D cs kK kV a p0 a_said a_said_c a_tape a__taped a__rules a_sign a_length a_clause a_clauses a_read a__next a__wrong a__number a__text a__made a__deep a__lines a_open a__opened a_stack a__top a_word a__x a_worth a_mate a_wasSaid a__undone a__boughtNow a_wayBy a_wayThen a__walkMost a__walkGoing a__walkSet a_kept a__drawX a_images a_imageX a_isMade h_a__taped h_a__rules h_a__next h_a__text h_a__made h_a__lines h_a__opened h_a__top h_a__x h_a__undone hf0) (cwV 1 hT (hz_gV q_1160 q_1161 q_1162 q_701 q_1163) rfl rfl rfl (by decide +kernel) ⟨(Nat.le_of_ble_eq_true rfl), (Nat.le_of_ble_eq_true rfl)⟩) ⟨hz_P.blind, va_recv hK hP (ci := 12) (q0 := 1) rfl rfl, hz_P.mk (hP.sub (ws' := [(a_said, .inl (cs 0, 123, .inl a_said_c)), (a, .inr (12, [.ref a_tape, .int a__taped, .int a__rules, .ref a_sign, .ref a_length, .ref a_clause, .ref a_clauses, .ref a_read, .int a__next, .int a__wrong, .int a__number, .int a__text, .int a__made, .int a__deep, .int a__lines, .ref a_open, .int a__opened, .ref a_stack, .int a__top, .ref a_word, .ref a_said, .int a__x, .ref a_worth, .ref a_mate, .ref a_wasSaid, .int a__undone, .int a__boughtNow, .ref a_wayBy, .ref a_wayThen, .int a__walkMost, .int a__walkGoing, .int a__walkSet, .ref a_kept, .long a__drawX, .ref a_images, .ref a_imageX, .ref a_isMade]))]) [0,1] rfl) hE hS⟩ rfl rfl hl.1 rfl (lv_room (Nat.le_of_ble_eq_true rfl)) dX12_buyer_80 ⟨(Nat.le_of_ble_eq_true rfl), (Nat.le_of_ble_eq_true rfl)⟩) hS (fun _ _ h => h.elim) (fun _ h => h.elim) (fun r32 u t H1 locs ht hvm hw hB hz1 hk1 hS => ?_)
        have hP := hz_keep hP hk1
        clear hk1 hB hz1
        generalize H1 = H at hP hS ⊢
        have hw_r32 := hw
        refine va_iald hx hb hK hP 2 0 rfl rfl (iv_v hw_r32 (by decide) (by decide)) dX12_buyer_83 ?_
        refine lv_topi (fun v33 ev33 => ?_)
        have lv33 : v33.toInt = (a_worth_c (Int32.toNatClampNeg r32)).toInt := by rw [ev33]
        exact W.iret (v := v33) hx hb hr (fun t ht hW => ⟨⟨v33, (), rfl, (Or.inr ((⟨h3, (iv_w h30 (by decide) (by decide))⟩))), trivial⟩, hS.F ht⟩) hS.2.2 dX12_buyer_84
theorem dX12_spot_0 : decode cX12_spot 0 = .ok (.iload_n 1, 1) := by decide +kernel
theorem dX12_spot_1 : decode cX12_spot 1 = .ok (.ifCond .lt 41, 3) := by decide +kernel
theorem dX12_spot_4 : decode cX12_spot 4 = .ok (.iload_n 1, 1) := by decide +kernel
theorem dX12_spot_5 : decode cX12_spot 5 = .ok (.aload_n 0, 1) := by decide +kernel
theorem dX12_spot_6 : decode cX12_spot 6 = .ok (.getfield 39, 3) := by decide +kernel
theorem dX12_spot_9 : decode cX12_spot 9 = .ok (.iconst 0, 1) := by decide +kernel
theorem dX12_spot_10 : decode cX12_spot 10 = .ok (.iaload, 1) := by decide +kernel
theorem dX12_spot_11 : decode cX12_spot 11 = .ok (.if_icmp .ge 31, 3) := by decide +kernel
theorem dX12_spot_14 : decode cX12_spot 14 = .ok (.iload_n 2, 1) := by decide +kernel
theorem dX12_spot_15 : decode cX12_spot 15 = .ok (.i2l, 1) := by decide +kernel
theorem dX12_spot_16 : decode cX12_spot 16 = .ok (.lconst 0, 1) := by decide +kernel
theorem dX12_spot_17 : decode cX12_spot 17 = .ok (.ldc2_w 352, 3) := by decide +kernel
theorem dX12_spot_20 : decode cX12_spot 20 = .ok (.invokestatic 109, 3) := by decide +kernel
theorem dX12_spot_23 : decode cX12_spot 23 = .ok (.ifCond .eq 19, 3) := by decide +kernel
theorem dX12_spot_26 : decode cX12_spot 26 = .ok (.aload_n 0, 1) := by decide +kernel
theorem dX12_spot_27 : decode cX12_spot 27 = .ok (.iload_n 1, 1) := by decide +kernel
theorem dX12_spot_28 : decode cX12_spot 28 = .ok (.aload_n 0, 1) := by decide +kernel
theorem dX12_spot_29 : decode cX12_spot 29 = .ok (.getfield 39, 3) := by decide +kernel
theorem dX12_spot_32 : decode cX12_spot 32 = .ok (.iconst 3, 1) := by decide +kernel
theorem dX12_spot_33 : decode cX12_spot 33 = .ok (.iaload, 1) := by decide +kernel
theorem dX12_spot_34 : decode cX12_spot 34 = .ok (.iload_n 2, 1) := by decide +kernel
theorem dX12_spot_35 : decode cX12_spot 35 = .ok (.iadd, 1) := by decide +kernel
theorem dX12_spot_36 : decode cX12_spot 36 = .ok (.invokevirtual 305, 3) := by decide +kernel
theorem dX12_spot_39 : decode cX12_spot 39 = .ok (.goto 4, 3) := by decide +kernel
theorem dX12_spot_42 : decode cX12_spot 42 = .ok (.iconst (-1), 1) := by decide +kernel
theorem dX12_spot_43 : decode cX12_spot 43 = .ok (.ireturn, 1) := by decide +kernel
set_option maxHeartbeats 4000000 in
set_option maxRecDepth 100000 in
theorem c_X12_spot (l : Launch) (D : va_G) (cs : Nat → ClassId) (kK kV : Nat → Nat) (a : Nat) (p0 : Int32) (p1 : Int32) (a_said : Nat) (a_said_c : Nat → Int32) (a_tape : Nat) (a__taped : Int32) (a__rules : Int32) (a_sign : Nat) (a_length : Nat) (a_clause : Nat) (a_clauses : Nat) (a_read : Nat) (a__next : Int32) (a__wrong : Int32) (a__number : Int32) (a__text : Int32) (a__made : Int32) (a__deep : Int32) (a__lines : Int32) (a_open : Nat) (a__opened : Int32) (a_stack : Nat) (a__top : Int32) (a_word : Nat) (a__x : Int32) (a_worth : Nat) (a_mate : Nat) (a_wasSaid : Nat) (a__undone : Int32) (a__boughtNow : Int32) (a_wayBy : Nat) (a_wayThen : Nat) (a__walkMost : Int32) (a__walkGoing : Int32) (a__walkSet : Int32) (a_kept : Nat) (a__drawX : Int64) (a_images : Nat) (a_imageX : Nat) (a_isMade : Nat) (h_a__taped : IV 0 400 a__taped) (h_a__rules : IV 0 6 a__rules) (h_a__next : IV 0 400 a__next) (h_a__text : IV 0 6 a__text) (h_a__made : IV 0 60 a__made) (h_a__lines : IV 0 40 a__lines) (h_a__opened : IV 0 400 a__opened) (h_a__top : IV 0 64 a__top) (h_a__x : IV 0 2147483647 a__x) (h_a__undone : IV 0 20 a__undone) (hf0 : BS a_said_c 200) (hf1 : TR a_said_c) (hf2 : (a_said_c 3).toInt ≤ 99) : Met l yX12_spot (hz_w yX12_spot cX12_spot 3 (some .int)) ({ frames := 1, cells := 0, slots := 0, locals := 25 }) (va_Pc [.ref a, .int p0, .int p1] (hz_P D cs kK kV [(a_said, .inl (cs 0, 123, .inl a_said_c)), (a, .inr (12, [.ref a_tape, .int a__taped, .int a__rules, .ref a_sign, .ref a_length, .ref a_clause, .ref a_clauses, .ref a_read, .int a__next, .int a__wrong, .int a__number, .int a__text, .int a__made, .int a__deep, .int a__lines, .ref a_open, .int a__opened, .ref a_stack, .int a__top, .ref a_word, .ref a_said, .int a__x, .ref a_worth, .ref a_mate, .ref a_wasSaid, .int a__undone, .int a__boughtNow, .ref a_wayBy, .ref a_wayThen, .int a__walkMost, .int a__walkGoing, .int a__walkSet, .ref a_kept, .long a__drawX, .ref a_images, .ref a_imageX, .ref a_isMade]))])) (va_Qi (fun (r : Int32) (_ : Unit) => (r = (-1) ∧ IV (-2147483648) 2147483647 p0) ∨ (IV (-7) 7 r ∧ IV 0 7 p0 ∧ IV 0 99 p1)) (fun _ t => True) (fun _ => False)) 0 0 (fun _ => False) := by
  refine Met.ofW (cc := cX12_spot) (maxL := 3) (ret := (some .int)) (by decide) rfl ?_
  intro p e s m args below meth c s₁ B hml hv
  obtain ⟨rfl, hP, hE⟩ := hv
  have hx := B.exec
  have hb := B.bytes
  have hr := B.returns
  have hT : ∀ w ∈ TB, w.before _ s = true := fun w h => atoms_spec (ws := hz_w yX12_spot cX12_spot 3 (some .int)) B.pre w (List.mem_cons_of_mem _ h)
  have hown : s.vm.findClass RX12 = some m.cls := findClass_of_methodNamed B.named
  have hlocks := B.notSynchronized
  clear B
  have hS : va_S (fun _ => False) s.heap s.heap [] := va_S.rf
  have hK := hE.1
  have hl := lv_entry ([.ref a, .int p0, .int p1]) (n := 3) (Nat.le_of_ble_eq_true rfl)
  rw [lg_entry_eq]
  generalize (lg_sl ([.ref a, .int p0, .int p1]) ++ List.replicate (3 - (lg_sl ([.ref a, .int p0, .int p1])).length) Slot.unset).toArray = ls at hl ⊢
  have hl : lv_has ls 3 [(0, .ref a), (1, .int p0), (2, .int p1)] := hl
  obtain ⟨H, eH⟩ : ∃ z, z = s.heap := ⟨_, rfl⟩
  have hP : va_P D classes [(a_said, .inl (cs 0, 123, .inl a_said_c)), (a, .inr (12, [.ref a_tape, .int a__taped, .int a__rules, .ref a_sign, .ref a_length, .ref a_clause, .ref a_clauses, .ref a_read, .int a__next, .int a__wrong, .int a__number, .int a__text, .int a__made, .int a__deep, .int a__lines, .ref a_open, .int a__opened, .ref a_stack, .int a__top, .ref a_word, .ref a_said, .int a__x, .ref a_worth, .ref a_mate, .ref a_wasSaid, .int a__undone, .int a__boughtNow, .ref a_wayBy, .ref a_wayThen, .int a__walkMost, .int a__walkGoing, .int a__walkSet, .ref a_kept, .long a__drawX, .ref a_images, .ref a_imageX, .ref a_isMade]))] H := by rw [eH]; exact hP
  have hS : va_S (fun _ => False) s.heap H [] := by rw [eH]; exact hS
  rw [← eH]
  clear eH
  obtain ⟨locs, el⟩ : ∃ z : List Loc, z = [] := ⟨_, rfl⟩
  rw [← el] at hS ⊢
  clear el
  have z0 : (0 : Int32).toInt = 0 := by decide
  have z1 : (1 : Int32).toInt = 1 := by decide
  have zm1 : (-1 : Int32).toInt = -1 := by decide
  have i_a__lines : 0 ≤ a__lines.toInt ∧ a__lines.toInt ≤ 40 := h_a__lines
  have i_a__made : 0 ≤ a__made.toInt ∧ a__made.toInt ≤ 60 := h_a__made
  have i_a__next : 0 ≤ a__next.toInt ∧ a__next.toInt ≤ 400 := h_a__next
  have i_a__opened : 0 ≤ a__opened.toInt ∧ a__opened.toInt ≤ 400 := h_a__opened
  have i_a__rules : 0 ≤ a__rules.toInt ∧ a__rules.toInt ≤ 6 := h_a__rules
  have i_a__taped : 0 ≤ a__taped.toInt ∧ a__taped.toInt ≤ 400 := h_a__taped
  have i_a__text : 0 ≤ a__text.toInt ∧ a__text.toInt ≤ 6 := h_a__text
  have i_a__top : 0 ≤ a__top.toInt ∧ a__top.toInt ≤ 64 := h_a__top
  have i_a__undone : 0 ≤ a__undone.toInt ∧ a__undone.toInt ≤ 20 := h_a__undone
  have i_a__x : 0 ≤ a__x.toInt ∧ a__x.toInt ≤ 2147483647 := h_a__x
  refine lv_iload_n hx hb dX12_spot_0 rfl (lv_at hl 1 rfl) ?_
  refine lv_if_lt (tgt := 42) hx hb dX12_spot_1 (by decide) (fun c1 => ?_) (fun c1 => ?_)
  · have t2 : p0.toInt < 0 := lin_lt c1 rfl (by decide)
    have h3 : IV (-2147483648) (-1) p0 := iv_lt1 c1 iv_top (iv_c (a := 0) (b := 0) (by decide)) (by decide)
    have ii4 : (-2147483648) ≤ p0.toInt ∧ p0.toInt ≤ (-1) := h3
    refine lv_iconst (v := (-1)) hx hb dX12_spot_42 (by decide) ?_
    exact W.iret (v := (-1)) hx hb hr (fun t ht hW => ⟨⟨(-1), (), rfl, (Or.inl (⟨rfl, (iv_w h3 (by decide) (by decide))⟩)), trivial⟩, hS.F ht⟩) hS.2.2 dX12_spot_43
  · have t5 : p0.toInt ≥ 0 := lin_ltN c1 rfl (by decide)
    have h6 : IV 0 2147483647 p0 := iv_le2 (Int32.not_lt.mp c1) (iv_c (a := 0) (b := 0) (by decide)) iv_top (by decide)
    have ii7 : 0 ≤ p0.toInt ∧ p0.toInt ≤ 2147483647 := h6
    refine lv_iload_n hx hb dX12_spot_4 rfl (lv_at hl 1 rfl) ?_
    refine lv_aload_n hx hb dX12_spot_5 rfl (lv_at hl 0 rfl) ?_
    refine va_get (D := D) (ci := 12) (v := .ref a_said) (C := RX12) (T := TX12) (N := 37) hx hb hT i_X12 hown hK hP 1 rfl rfl 20 (by decide) (hT _ q_185) (fun _ h9 => h9) rfl dX12_spot_6 ?_
    refine lv_iconst (v := 0) hx hb dX12_spot_9 (by decide) ?_
    refine va_iald hx hb hK hP 0 0 rfl rfl (iv_vc (by decide)) dX12_spot_10 ?_
    refine lv_topi (fun v8 ev8 => ?_)
    have h9 : IV 0 8 v8 := (by rw [ev8]; exact bs_i0 hf0)
    have ii10 : 0 ≤ v8.toInt ∧ v8.toInt ≤ 8 := h9
    have lv8 : v8.toInt = (a_said_c 0).toInt := by rw [ev8]; rfl
    refine lv_icmp_ge (tgt := 42) hx hb dX12_spot_11 (by decide) (fun c11 => ?_) (fun c11 => ?_)
    · have t12 : p0.toInt ≥ v8.toInt := lin_ge c11 rfl rfl
      refine lv_iconst (v := (-1)) hx hb dX12_spot_42 (by decide) ?_
      exact W.iret (v := (-1)) hx hb hr (fun t ht hW => ⟨⟨(-1), (), rfl, (Or.inl (⟨rfl, (iv_w h6 (by decide) (by decide))⟩)), trivial⟩, hS.F ht⟩) hS.2.2 dX12_spot_43
    · have t13 : p0.toInt < v8.toInt := lin_geN c11 rfl rfl
      have h14 : IV 0 7 p0 := iv_lt1 (Int32.not_le.mp c11) h6 h9 (by decide)
      have ii15 : 0 ≤ p0.toInt ∧ p0.toInt ≤ 7 := h14
      have h16 : IV 1 8 v8 := iv_lt2 (Int32.not_le.mp c11) h6 h9 (by decide)
      have ii17 : 1 ≤ v8.toInt ∧ v8.toInt ≤ 8 := h16
      refine lv_iload_n hx hb dX12_spot_14 rfl (lv_at hl 2 rfl) ?_
      refine lv_i2l (v := p1.toInt64) hx hb dX12_spot_15 rfl ?_
      refine lv_lconst (v := 0) hx hb dX12_spot_16 (by decide) ?_
      refine lv_ldc2 hx hb hown (hT _ q_1418) dX12_spot_17 ?_
      refine va_calli (va_runS (As := [.long p1.toInt64, .long 0, .long 99]) (rest := []) ⟨hx, hb, hml, hown, hT⟩ (c_X12_in l D cs kK kV p1.toInt64 0 99) (va_cwS 3 hT (hz_gS q_964 q_965 q_701 q_966) rfl rfl rfl (by decide +kernel) ⟨(Nat.le_of_ble_eq_true rfl), (Nat.le_of_ble_eq_true rfl)⟩) ⟨hz_P.blind, hz_P.mk (hP.sub (ws' := []) [] rfl) hE hS⟩ rfl rfl hl.1 rfl (lv_room (Nat.le_of_ble_eq_true rfl)) dX12_spot_20 ⟨(Nat.le_of_ble_eq_true rfl), (Nat.le_of_ble_eq_true rfl)⟩) hS (fun _ _ h => h.elim) (fun _ h => h.elim) (fun r18 u t H1 locs ht hvm hw hB hz1 hk1 hS => ?_)
      have hP := hz_keep hP hk1
      clear hk1 hB hz1
      generalize H1 = H at hP hS ⊢
      rcases hw with ⟨rfl, x19⟩ | ⟨rfl, x20, x21⟩
      · have t22 : ¬ (0 ≤ p1.toInt ∧ p1.toInt ≤ 99) := fun z => x19 ⟨l64_clI z.1 (by decide), l64_lcI z.2 (by decide)⟩
        refine lv_if_eq (tgt := 42) hx hb dX12_spot_23 (by decide) (fun _ => ?_) (fun z => absurd (by decide) z)
        refine lv_iconst (v := (-1)) hx hb dX12_spot_42 (by decide) ?_
        exact W.iret (v := (-1)) hx hb hr (fun t ht hW => ⟨⟨(-1), (), rfl, (Or.inl (⟨rfl, (iv_w h14 (by decide) (by decide))⟩)), trivial⟩, hS.F ht⟩) hS.2.2 dX12_spot_43
      · have h23 : IV 0 2147483647 p1 := ⟨l64_cle x20 (by decide), iv_top.2⟩
        have ii24 : 0 ≤ p1.toInt ∧ p1.toInt ≤ 2147483647 := h23
        have h25 : IV 0 99 p1 := ⟨(h23).1, l64_lec x21 (by decide)⟩
        have ii26 : 0 ≤ p1.toInt ∧ p1.toInt ≤ 99 := h25
        refine lv_if_eq (tgt := 42) hx hb dX12_spot_23 (by decide) (fun z => absurd z (by decide)) (fun _ => ?_)
        refine lv_aload_n hx hb dX12_spot_26 rfl (lv_at hl 0 rfl) ?_
        refine lv_iload_n hx hb dX12_spot_27 rfl (lv_at hl 1 rfl) ?_
        refine lv_aload_n hx hb dX12_spot_28 rfl (lv_at hl 0 rfl) ?_
        refine va_get (D := D) (ci := 12) (v := .ref a_said) (C := RX12) (T := TX12) (N := 37) hx hb hT i_X12 hown hK hP 1 rfl rfl 20 (by decide) (hT _ q_185) (fun _ h9 => h9) rfl dX12_spot_29 ?_
        refine lv_iconst (v := 3) hx hb dX12_spot_32 (by decide) ?_
        refine va_iald hx hb hK hP 0 0 rfl rfl (iv_vc (by decide)) dX12_spot_33 ?_
        refine lv_topi (fun v27 ev27 => ?_)
        have h28 : IV 0 200 v27 := (by rw [ev27]; exact bs_i3 hf0)
        have ii29 : 0 ≤ v27.toInt ∧ v27.toInt ≤ 200 := h28
        have lv27 : v27.toInt = (a_said_c 3).toInt := by rw [ev27]; rfl
        refine lv_iload_n hx hb dX12_spot_34 rfl (lv_at hl 2 rfl) ?_
        refine lv_iadd hx hb dX12_spot_35 ?_
        refine lv_topi (fun v30 ev30 => ?_)
        have hv30 : IV 0 299 v30 := iv_add ev30 h28 h25 (by decide) (by decide)
        have ii31 : 0 ≤ v30.toInt ∧ v30.toInt ≤ 299 := hv30
        have lv30 : v30.toInt = v27.toInt + p1.toInt := lin_add ev30 h28 h25 rfl rfl (by decide) (by decide)
        refine va_calli (va_runV (As := [.int p0, .int v30]) (rest := []) ⟨hx, hb, hml, hown, hT⟩ (c_X12_spotAt l D cs kK kV a p0 v30 a_said a_said_c a_tape a__taped a__rules a_sign a_length a_clause a_clauses a_read a__next a__wrong a__number a__text a__made a__deep a__lines a_open a__opened a_stack a__top a_word a__x a_worth a_mate a_wasSaid a__undone a__boughtNow a_wayBy a_wayThen a__walkMost a__walkGoing a__walkSet a_kept a__drawX a_images a_imageX a_isMade ((iv_w hv30 (by decide) (by decide))) h_a__taped h_a__rules h_a__next h_a__text h_a__made h_a__lines h_a__opened h_a__top h_a__x h_a__undone hf0 ((by omega))) (cwV 2 hT (hz_gV q_1108 q_1109 q_1110 q_701 q_1111) rfl rfl rfl (by decide +kernel) ⟨(Nat.le_of_ble_eq_true rfl), (Nat.le_of_ble_eq_true rfl)⟩) ⟨hz_P.blind, va_recv hK hP (ci := 12) (q0 := 1) rfl rfl, hz_P.mk (hP.sub (ws' := [(a_said, .inl (cs 0, 123, .inl a_said_c)), (a, .inr (12, [.ref a_tape, .int a__taped, .int a__rules, .ref a_sign, .ref a_length, .ref a_clause, .ref a_clauses, .ref a_read, .int a__next, .int a__wrong, .int a__number, .int a__text, .int a__made, .int a__deep, .int a__lines, .ref a_open, .int a__opened, .ref a_stack, .int a__top, .ref a_word, .ref a_said, .int a__x, .ref a_worth, .ref a_mate, .ref a_wasSaid, .int a__undone, .int a__boughtNow, .ref a_wayBy, .ref a_wayThen, .int a__walkMost, .int a__walkGoing, .int a__walkSet, .ref a_kept, .long a__drawX, .ref a_images, .ref a_imageX, .ref a_isMade]))]) [0,1] rfl) hE hS⟩ rfl rfl hl.1 rfl (lv_room (Nat.le_of_ble_eq_true rfl)) dX12_spot_36 ⟨(Nat.le_of_ble_eq_true rfl), (Nat.le_of_ble_eq_true rfl)⟩) hS (fun _ _ h => h.elim) (fun _ h => h.elim) (fun r32 u t H1 locs ht hvm hw hB hz1 hk1 hS => ?_)
        have hP := hz_keep hP hk1
        clear hk1 hB hz1
        generalize H1 = H at hP hS ⊢
        rcases hw with ⟨h33, x34⟩
        have ii35 : (-7) ≤ r32.toInt ∧ r32.toInt ≤ 7 := h33
        refine lv_goto (tgt := 43) hx hb dX12_spot_39 (by decide) ?_
        exact W.iret (v := r32) hx hb hr (fun t ht hW => ⟨⟨r32, (), rfl, (Or.inr ((⟨h33, h14, h25⟩))), trivial⟩, hS.F ht⟩) hS.2.2 dX12_spot_43
theorem dX12_keepsAct_0 : decode cX12_keepsAct 0 = .ok (.aload_n 0, 1) := by decide +kernel
theorem dX12_keepsAct_1 : decode cX12_keepsAct 1 = .ok (.getfield 274, 3) := by decide +kernel
theorem dX12_keepsAct_4 : decode cX12_keepsAct 4 = .ok (.bipush 20, 2) := by decide +kernel
theorem dX12_keepsAct_6 : decode cX12_keepsAct 6 = .ok (.if_icmp .ne 44, 3) := by decide +kernel
theorem dX12_keepsAct_9 : decode cX12_keepsAct 9 = .ok (.bipush 86, 2) := by decide +kernel
theorem dX12_keepsAct_11 : decode cX12_keepsAct 11 = .ok (.istore_n 1, 1) := by decide +kernel
theorem dX12_keepsAct_12 : decode cX12_keepsAct 12 = .ok (.iload_n 1, 1) := by decide +kernel
theorem dX12_keepsAct_13 : decode cX12_keepsAct 13 = .ok (.sipush 1720, 3) := by decide +kernel
theorem dX12_keepsAct_16 : decode cX12_keepsAct 16 = .ok (.if_icmp .ge 24, 3) := by decide +kernel
theorem dX12_keepsAct_19 : decode cX12_keepsAct 19 = .ok (.aload_n 0, 1) := by decide +kernel
theorem dX12_keepsAct_20 : decode cX12_keepsAct 20 = .ok (.getfield 48, 3) := by decide +kernel
theorem dX12_keepsAct_23 : decode cX12_keepsAct 23 = .ok (.iload_n 1, 1) := by decide +kernel
theorem dX12_keepsAct_24 : decode cX12_keepsAct 24 = .ok (.bipush 86, 2) := by decide +kernel
theorem dX12_keepsAct_26 : decode cX12_keepsAct 26 = .ok (.isub, 1) := by decide +kernel
theorem dX12_keepsAct_27 : decode cX12_keepsAct 27 = .ok (.aload_n 0, 1) := by decide +kernel
theorem dX12_keepsAct_28 : decode cX12_keepsAct 28 = .ok (.getfield 48, 3) := by decide +kernel
theorem dX12_keepsAct_31 : decode cX12_keepsAct 31 = .ok (.iload_n 1, 1) := by decide +kernel
theorem dX12_keepsAct_32 : decode cX12_keepsAct 32 = .ok (.iaload, 1) := by decide +kernel
theorem dX12_keepsAct_33 : decode cX12_keepsAct 33 = .ok (.iastore, 1) := by decide +kernel
theorem dX12_keepsAct_34 : decode cX12_keepsAct 34 = .ok (.iinc 1 1, 3) := by decide +kernel
theorem dX12_keepsAct_37 : decode cX12_keepsAct 37 = .ok (.goto (-25), 3) := by decide +kernel
theorem dX12_keepsAct_40 : decode cX12_keepsAct 40 = .ok (.aload_n 0, 1) := by decide +kernel
theorem dX12_keepsAct_41 : decode cX12_keepsAct 41 = .ok (.dup, 1) := by decide +kernel
theorem dX12_keepsAct_42 : decode cX12_keepsAct 42 = .ok (.getfield 274, 3) := by decide +kernel
theorem dX12_keepsAct_45 : decode cX12_keepsAct 45 = .ok (.iconst 1, 1) := by decide +kernel
theorem dX12_keepsAct_46 : decode cX12_keepsAct 46 = .ok (.isub, 1) := by decide +kernel
theorem dX12_keepsAct_47 : decode cX12_keepsAct 47 = .ok (.putfield 274, 3) := by decide +kernel
theorem dX12_keepsAct_50 : decode cX12_keepsAct 50 = .ok (.iconst 0, 1) := by decide +kernel
theorem dX12_keepsAct_51 : decode cX12_keepsAct 51 = .ok (.istore_n 1, 1) := by decide +kernel
theorem dX12_keepsAct_52 : decode cX12_keepsAct 52 = .ok (.iload_n 1, 1) := by decide +kernel
theorem dX12_keepsAct_53 : decode cX12_keepsAct 53 = .ok (.bipush 86, 2) := by decide +kernel
theorem dX12_keepsAct_55 : decode cX12_keepsAct 55 = .ok (.if_icmp .ge 29, 3) := by decide +kernel
theorem dX12_keepsAct_58 : decode cX12_keepsAct 58 = .ok (.aload_n 0, 1) := by decide +kernel
theorem dX12_keepsAct_59 : decode cX12_keepsAct 59 = .ok (.getfield 48, 3) := by decide +kernel
theorem dX12_keepsAct_62 : decode cX12_keepsAct 62 = .ok (.bipush 86, 2) := by decide +kernel
theorem dX12_keepsAct_64 : decode cX12_keepsAct 64 = .ok (.aload_n 0, 1) := by decide +kernel
theorem dX12_keepsAct_65 : decode cX12_keepsAct 65 = .ok (.getfield 274, 3) := by decide +kernel
theorem dX12_keepsAct_68 : decode cX12_keepsAct 68 = .ok (.imul, 1) := by decide +kernel
theorem dX12_keepsAct_69 : decode cX12_keepsAct 69 = .ok (.iload_n 1, 1) := by decide +kernel
theorem dX12_keepsAct_70 : decode cX12_keepsAct 70 = .ok (.iadd, 1) := by decide +kernel
theorem dX12_keepsAct_71 : decode cX12_keepsAct 71 = .ok (.aload_n 0, 1) := by decide +kernel
theorem dX12_keepsAct_72 : decode cX12_keepsAct 72 = .ok (.getfield 39, 3) := by decide +kernel
theorem dX12_keepsAct_75 : decode cX12_keepsAct 75 = .ok (.iload_n 1, 1) := by decide +kernel
theorem dX12_keepsAct_76 : decode cX12_keepsAct 76 = .ok (.iaload, 1) := by decide +kernel
theorem dX12_keepsAct_77 : decode cX12_keepsAct 77 = .ok (.iastore, 1) := by decide +kernel
theorem dX12_keepsAct_78 : decode cX12_keepsAct 78 = .ok (.iinc 1 1, 3) := by decide +kernel
theorem dX12_keepsAct_81 : decode cX12_keepsAct 81 = .ok (.goto (-29), 3) := by decide +kernel
theorem dX12_keepsAct_84 : decode cX12_keepsAct 84 = .ok (.aload_n 0, 1) := by decide +kernel
theorem dX12_keepsAct_85 : decode cX12_keepsAct 85 = .ok (.dup, 1) := by decide +kernel
theorem dX12_keepsAct_86 : decode cX12_keepsAct 86 = .ok (.getfield 274, 3) := by decide +kernel
theorem dX12_keepsAct_89 : decode cX12_keepsAct 89 = .ok (.iconst 1, 1) := by decide +kernel
theorem dX12_keepsAct_90 : decode cX12_keepsAct 90 = .ok (.iadd, 1) := by decide +kernel
theorem dX12_keepsAct_91 : decode cX12_keepsAct 91 = .ok (.putfield 274, 3) := by decide +kernel
theorem dX12_keepsAct_94 : decode cX12_keepsAct 94 = .ok (.return_, 1) := by decide +kernel
set_option maxHeartbeats 4000000 in
set_option maxRecDepth 100000 in
theorem c_X12_keepsAct (l : Launch) (D : va_G) (cs : Nat → ClassId) (kK kV : Nat → Nat) (a : Nat) (a_said : Nat) (a_said_c : Nat → Int32) (a_wasSaid : Nat) (a_wasSaid_c : Nat → Int32) (a_tape : Nat) (a__taped : Int32) (a__rules : Int32) (a_sign : Nat) (a_length : Nat) (a_clause : Nat) (a_clauses : Nat) (a_read : Nat) (a__next : Int32) (a__wrong : Int32) (a__number : Int32) (a__text : Int32) (a__made : Int32) (a__deep : Int32) (a__lines : Int32) (a_open : Nat) (a__opened : Int32) (a_stack : Nat) (a__top : Int32) (a_word : Nat) (a__x : Int32) (a_worth : Nat) (a_mate : Nat) (a__undone : Int32) (a__boughtNow : Int32) (a_wayBy : Nat) (a_wayThen : Nat) (a__walkMost : Int32) (a__walkGoing : Int32) (a__walkSet : Int32) (a_kept : Nat) (a__drawX : Int64) (a_images : Nat) (a_imageX : Nat) (a_isMade : Nat) (h_a__taped : IV 0 400 a__taped) (h_a__rules : IV 0 6 a__rules) (h_a__next : IV 0 400 a__next) (h_a__text : IV 0 6 a__text) (h_a__made : IV 0 60 a__made) (h_a__lines : IV 0 40 a__lines) (h_a__opened : IV 0 400 a__opened) (h_a__top : IV 0 64 a__top) (h_a__x : IV 0 2147483647 a__x) (h_a__undone : IV 0 20 a__undone) (hf0 : BS a_said_c 99) (hf1 : WSN a_wasSaid_c a__undone.toInt) (sz : Nat) : Met l yX12_keepsAct (hz_w yX12_keepsAct cX12_keepsAct 2 none) ({ frames := 0, cells := 0, slots := 0, locals := 0 }) (va_Pc [.ref a] (hz_C D cs kK kV sz [(a_said, .inl (cs 0, 123, .inl a_said_c)), (a_wasSaid, .inl (cs 0, 1720, .inl a_wasSaid_c)), (a, .inr (12, [.ref a_tape, .int a__taped, .int a__rules, .ref a_sign, .ref a_length, .ref a_clause, .ref a_clauses, .ref a_read, .int a__next, .int a__wrong, .int a__number, .int a__text, .int a__made, .int a__deep, .int a__lines, .ref a_open, .int a__opened, .ref a_stack, .int a__top, .ref a_word, .ref a_said, .int a__x, .ref a_worth, .ref a_mate, .ref a_wasSaid, .int a__undone, .int a__boughtNow, .ref a_wayBy, .ref a_wayThen, .int a__walkMost, .int a__walkGoing, .int a__walkSet, .ref a_kept, .long a__drawX, .ref a_images, .ref a_imageX, .ref a_isMade]))])) (va_Qv (fun (u : (Nat → Int32) × (Nat → Nat → Int32)) => (IV 1 20 (u.1 1) ∧ (WSN (u.2 0) (u.1 1).toInt))) (fun u t => va_P D classes [(a_said, .inl (cs 0, 123, .inl a_said_c)), (a_wasSaid, .inl (cs 0, 1720, .inl (u.2 0))), (a, .inr (12, [.ref a_tape, .int a__taped, .int a__rules, .ref a_sign, .ref a_length, .ref a_clause, .ref a_clauses, .ref a_read, .int a__next, .int a__wrong, .int a__number, .int a__text, .int a__made, .int a__deep, .int a__lines, .ref a_open, .int a__opened, .ref a_stack, .int a__top, .ref a_word, .ref a_said, .int a__x, .ref a_worth, .ref a_mate, .ref a_wasSaid, .int (u.1 1), .int a__boughtNow, .ref a_wayBy, .ref a_wayThen, .int a__walkMost, .int a__walkGoing, .int a__walkSet, .ref a_kept, .long a__drawX, .ref a_images, .ref a_imageX, .ref a_isMade]))] t.heap ∧ va_D (va_A [(a_said, .inl (cs 0, 123, .inl a_said_c)), (a_wasSaid, .inl (cs 0, 1720, .inl a_wasSaid_c)), (a, .inr (12, [.ref a_tape, .int a__taped, .int a__rules, .ref a_sign, .ref a_length, .ref a_clause, .ref a_clauses, .ref a_read, .int a__next, .int a__wrong, .int a__number, .int a__text, .int a__made, .int a__deep, .int a__lines, .ref a_open, .int a__opened, .ref a_stack, .int a__top, .ref a_word, .ref a_said, .int a__x, .ref a_worth, .ref a_mate, .ref a_wasSaid, .int a__undone, .int a__boughtNow, .ref a_wayBy, .ref a_wayThen, .int a__walkMost, .int a__walkGoing, .int a__walkSet, .ref a_kept, .long a__drawX, .ref a_images, .ref a_imageX, .ref a_isMade]))] sz) [(a_said, .inl (cs 0, 123, .inl a_said_c)), (a_wasSaid, .inl (cs 0, 1720, .inl (u.2 0))), (a, .inr (12, [.ref a_tape, .int a__taped, .int a__rules, .ref a_sign, .ref a_length, .ref a_clause, .ref a_clauses, .ref a_read, .int a__next, .int a__wrong, .int a__number, .int a__text, .int a__made, .int a__deep, .int a__lines, .ref a_open, .int a__opened, .ref a_stack, .int a__top, .ref a_word, .ref a_said, .int a__x, .ref a_worth, .ref a_mate, .ref a_wasSaid, .int (u.1 1), .int a__boughtNow, .ref a_wayBy, .ref a_wayThen, .int a__walkMost, .int a__walkGoing, .int a__walkSet, .ref a_kept, .long a__drawX, .ref a_images, .ref a_imageX, .ref a_isMade]))]) (va_A [(a_said, .inl (cs 0, 123, .inl a_said_c)), (a_wasSaid, .inl (cs 0, 1720, .inl a_wasSaid_c)), (a, .inr (12, [.ref a_tape, .int a__taped, .int a__rules, .ref a_sign, .ref a_length, .ref a_clause, .ref a_clauses, .ref a_read, .int a__next, .int a__wrong, .int a__number, .int a__text, .int a__made, .int a__deep, .int a__lines, .ref a_open, .int a__opened, .ref a_stack, .int a__top, .ref a_word, .ref a_said, .int a__x, .ref a_worth, .ref a_mate, .ref a_wasSaid, .int a__undone, .int a__boughtNow, .ref a_wayBy, .ref a_wayThen, .int a__walkMost, .int a__walkGoing, .int a__walkSet, .ref a_kept, .long a__drawX, .ref a_images, .ref a_imageX, .ref a_isMade]))] sz)) 0 0 (va_A [(a_said, .inl (cs 0, 123, .inl a_said_c)), (a_wasSaid, .inl (cs 0, 1720, .inl a_wasSaid_c)), (a, .inr (12, [.ref a_tape, .int a__taped, .int a__rules, .ref a_sign, .ref a_length, .ref a_clause, .ref a_clauses, .ref a_read, .int a__next, .int a__wrong, .int a__number, .int a__text, .int a__made, .int a__deep, .int a__lines, .ref a_open, .int a__opened, .ref a_stack, .int a__top, .ref a_word, .ref a_said, .int a__x, .ref a_worth, .ref a_mate, .ref a_wasSaid, .int a__undone, .int a__boughtNow, .ref a_wayBy, .ref a_wayThen, .int a__walkMost, .int a__walkGoing, .int a__walkSet, .ref a_kept, .long a__drawX, .ref a_images, .ref a_imageX, .ref a_isMade]))] sz) := by
  refine Met.ofW (cc := cX12_keepsAct) (maxL := 2) (ret := none) (by decide) rfl ?_
  intro p e s m args below meth c s₁ B hml hv
  obtain ⟨rfl, hsz, hP, hD0, hE⟩ := hv
  have hx := B.exec
  have hb := B.bytes
  have hr := B.returns
  have hT : ∀ w ∈ TB, w.before _ s = true := fun w h => atoms_spec (ws := hz_w yX12_keepsAct cX12_keepsAct 2 none) B.pre w (List.mem_cons_of_mem _ h)
  have hown : s.vm.findClass RX12 = some m.cls := findClass_of_methodNamed B.named
  have hlocks := B.notSynchronized
  clear B
  subst hsz
  have hD := hD0.self (sz := s.heap.size)
  generalize hAe : va_A [(a_said, .inl (cs 0, 123, .inl a_said_c)), (a_wasSaid, .inl (cs 0, 1720, .inl a_wasSaid_c)), (a, .inr (12, [.ref a_tape, .int a__taped, .int a__rules, .ref a_sign, .ref a_length, .ref a_clause, .ref a_clauses, .ref a_read, .int a__next, .int a__wrong, .int a__number, .int a__text, .int a__made, .int a__deep, .int a__lines, .ref a_open, .int a__opened, .ref a_stack, .int a__top, .ref a_word, .ref a_said, .int a__x, .ref a_worth, .ref a_mate, .ref a_wasSaid, .int a__undone, .int a__boughtNow, .ref a_wayBy, .ref a_wayThen, .int a__walkMost, .int a__walkGoing, .int a__walkSet, .ref a_kept, .long a__drawX, .ref a_images, .ref a_imageX, .ref a_isMade]))] s.heap.size = A at hD hE ⊢
  have hA : ∀ q : Nat, s.heap.size ≤ q → A q := fun q h => by rw [← hAe]; exact Or.inr h
  clear hAe hD0
  have hS : va_S A s.heap s.heap [] := va_S.rf
  have hK := hE.1
  have hl := lv_entry ([.ref a]) (n := 2) (Nat.le_of_ble_eq_true rfl)
  rw [lg_entry_eq]
  generalize (lg_sl ([.ref a]) ++ List.replicate (2 - (lg_sl ([.ref a])).length) Slot.unset).toArray = ls at hl ⊢
  have hl : lv_has ls 2 [(0, .ref a)] := hl
  obtain ⟨H, eH⟩ : ∃ z, z = s.heap := ⟨_, rfl⟩
  have hP : va_P D classes [(a_said, .inl (cs 0, 123, .inl a_said_c)), (a_wasSaid, .inl (cs 0, 1720, .inl a_wasSaid_c)), (a, .inr (12, [.ref a_tape, .int a__taped, .int a__rules, .ref a_sign, .ref a_length, .ref a_clause, .ref a_clauses, .ref a_read, .int a__next, .int a__wrong, .int a__number, .int a__text, .int a__made, .int a__deep, .int a__lines, .ref a_open, .int a__opened, .ref a_stack, .int a__top, .ref a_word, .ref a_said, .int a__x, .ref a_worth, .ref a_mate, .ref a_wasSaid, .int a__undone, .int a__boughtNow, .ref a_wayBy, .ref a_wayThen, .int a__walkMost, .int a__walkGoing, .int a__walkSet, .ref a_kept, .long a__drawX, .ref a_images, .ref a_imageX, .ref a_isMade]))] H := by rw [eH]; exact hP
  have hS : va_S A s.heap H [] := by rw [eH]; exact hS
  rw [← eH]
  clear eH
  obtain ⟨locs, el⟩ : ∃ z : List Loc, z = [] := ⟨_, rfl⟩
  rw [← el] at hS ⊢
  clear el
  have z0 : (0 : Int32).toInt = 0 := by decide
  have z1 : (1 : Int32).toInt = 1 := by decide
  have zm1 : (-1 : Int32).toInt = -1 := by decide
  have i_a__lines : 0 ≤ a__lines.toInt ∧ a__lines.toInt ≤ 40 := h_a__lines
  have i_a__made : 0 ≤ a__made.toInt ∧ a__made.toInt ≤ 60 := h_a__made
  have i_a__next : 0 ≤ a__next.toInt ∧ a__next.toInt ≤ 400 := h_a__next
  have i_a__opened : 0 ≤ a__opened.toInt ∧ a__opened.toInt ≤ 400 := h_a__opened
  have i_a__rules : 0 ≤ a__rules.toInt ∧ a__rules.toInt ≤ 6 := h_a__rules
  have i_a__taped : 0 ≤ a__taped.toInt ∧ a__taped.toInt ≤ 400 := h_a__taped
  have i_a__text : 0 ≤ a__text.toInt ∧ a__text.toInt ≤ 6 := h_a__text
  have i_a__top : 0 ≤ a__top.toInt ∧ a__top.toInt ≤ 64 := h_a__top
  have i_a__undone : 0 ≤ a__undone.toInt ∧ a__undone.toInt ≤ 20 := h_a__undone
  have i_a__x : 0 ≤ a__x.toInt ∧ a__x.toInt ≤ 2147483647 := h_a__x
  have K52 : ∀ (n : Nat) (k52_L_1 : Int32) (k52_C_a_wasSaid : Nat → Int32) (k52_F_a_25 : Int32), (86 - k52_L_1.toInt + 1).toNat ≤ n → IV 0 19 k52_F_a_25 → IV 0 86 k52_L_1 → (WSN k52_C_a_wasSaid k52_F_a_25.toInt) → (CPT k52_C_a_wasSaid a_said_c (86 * k52_F_a_25.toInt.toNat) k52_L_1.toInt.toNat) → ∀ (H : Heap) (locs : List Loc), va_P D classes [(a_said, .inl (cs 0, 123, .inl a_said_c)), (a_wasSaid, .inl (cs 0, 1720, .inl k52_C_a_wasSaid)), (a, .inr (12, [.ref a_tape, .int a__taped, .int a__rules, .ref a_sign, .ref a_length, .ref a_clause, .ref a_clauses, .ref a_read, .int a__next, .int a__wrong, .int a__number, .int a__text, .int a__made, .int a__deep, .int a__lines, .ref a_open, .int a__opened, .ref a_stack, .int a__top, .ref a_word, .ref a_said, .int a__x, .ref a_worth, .ref a_mate, .ref a_wasSaid, .int k52_F_a_25, .int a__boughtNow, .ref a_wayBy, .ref a_wayThen, .int a__walkMost, .int a__walkGoing, .int a__walkSet, .ref a_kept, .long a__drawX, .ref a_images, .ref a_imageX, .ref a_isMade]))] H → va_D A [(a_said, .inl (cs 0, 123, .inl a_said_c)), (a_wasSaid, .inl (cs 0, 1720, .inl k52_C_a_wasSaid)), (a, .inr (12, [.ref a_tape, .int a__taped, .int a__rules, .ref a_sign, .ref a_length, .ref a_clause, .ref a_clauses, .ref a_read, .int a__next, .int a__wrong, .int a__number, .int a__text, .int a__made, .int a__deep, .int a__lines, .ref a_open, .int a__opened, .ref a_stack, .int a__top, .ref a_word, .ref a_said, .int a__x, .ref a_worth, .ref a_mate, .ref a_wasSaid, .int k52_F_a_25, .int a__boughtNow, .ref a_wayBy, .ref a_wayThen, .int a__walkMost, .int a__walkGoing, .int a__walkSet, .ref a_kept, .long a__drawX, .ref a_images, .ref a_imageX, .ref a_isMade]))] → va_S A s.heap H locs → ∀ ls : Array Slot, lv_has ls 2 [(1, .int k52_L_1), (0, .ref a)] → W p l e (headSpec (hz_w yX12_keepsAct cX12_keepsAct 2 none) ({ frames := 0, cells := 0, slots := 0, locals := 0 })).room s m [.ref a].toArray below meth c H locs 0 0 (MQ below (va_Qv (fun (u : (Nat → Int32) × (Nat → Nat → Int32)) => (IV 1 20 (u.1 1) ∧ (WSN (u.2 0) (u.1 1).toInt))) (fun u t => va_P D classes [(a_said, .inl (cs 0, 123, .inl a_said_c)), (a_wasSaid, .inl (cs 0, 1720, .inl (u.2 0))), (a, .inr (12, [.ref a_tape, .int a__taped, .int a__rules, .ref a_sign, .ref a_length, .ref a_clause, .ref a_clauses, .ref a_read, .int a__next, .int a__wrong, .int a__number, .int a__text, .int a__made, .int a__deep, .int a__lines, .ref a_open, .int a__opened, .ref a_stack, .int a__top, .ref a_word, .ref a_said, .int a__x, .ref a_worth, .ref a_mate, .ref a_wasSaid, .int (u.1 1), .int a__boughtNow, .ref a_wayBy, .ref a_wayThen, .int a__walkMost, .int a__walkGoing, .int a__walkSet, .ref a_kept, .long a__drawX, .ref a_images, .ref a_imageX, .ref a_isMade]))] t.heap ∧ va_D A [(a_said, .inl (cs 0, 123, .inl a_said_c)), (a_wasSaid, .inl (cs 0, 1720, .inl (u.2 0))), (a, .inr (12, [.ref a_tape, .int a__taped, .int a__rules, .ref a_sign, .ref a_length, .ref a_clause, .ref a_clauses, .ref a_read, .int a__next, .int a__wrong, .int a__number, .int a__text, .int a__made, .int a__deep, .int a__lines, .ref a_open, .int a__opened, .ref a_stack, .int a__top, .ref a_word, .ref a_said, .int a__x, .ref a_worth, .ref a_mate, .ref a_wasSaid, .int (u.1 1), .int a__boughtNow, .ref a_wayBy, .ref a_wayThen, .int a__walkMost, .int a__walkGoing, .int a__walkSet, .ref a_kept, .long a__drawX, .ref a_images, .ref a_imageX, .ref a_isMade]))]) A) [.ref a].toArray s 0 0 A) (F0 m 52 ls []) := by
    intro n
    induction n with
    | zero =>
      intro k52_L_1 k52_C_a_wasSaid k52_F_a_25 hn q52_9 q52_10 x52_0 x52_1 H locs hP hD hS ls hl
      exact absurd hn (by unfold IV at q52_10; omega)
    | succ n ih52 =>
      intro k52_L_1 k52_C_a_wasSaid k52_F_a_25 hn q52_9 q52_10 x52_0 x52_1 H locs hP hD hS ls hl
      have i_a__lines : 0 ≤ a__lines.toInt ∧ a__lines.toInt ≤ 40 := h_a__lines
      have i_a__made : 0 ≤ a__made.toInt ∧ a__made.toInt ≤ 60 := h_a__made
      have i_a__next : 0 ≤ a__next.toInt ∧ a__next.toInt ≤ 400 := h_a__next
      have i_a__opened : 0 ≤ a__opened.toInt ∧ a__opened.toInt ≤ 400 := h_a__opened
      have i_a__rules : 0 ≤ a__rules.toInt ∧ a__rules.toInt ≤ 6 := h_a__rules
      have i_a__taped : 0 ≤ a__taped.toInt ∧ a__taped.toInt ≤ 400 := h_a__taped
      have i_a__text : 0 ≤ a__text.toInt ∧ a__text.toInt ≤ 6 := h_a__text
      have i_a__top : 0 ≤ a__top.toInt ∧ a__top.toInt ≤ 64 := h_a__top
      have i_a__x : 0 ≤ a__x.toInt ∧ a__x.toInt ≤ 2147483647 := h_a__x
      have i_k52_F_a_25 : 0 ≤ k52_F_a_25.toInt ∧ k52_F_a_25.toInt ≤ 19 := q52_9
      have i_k52_L_1 : 0 ≤ k52_L_1.toInt ∧ k52_L_1.toInt ≤ 86 := q52_10
      refine lv_iload_n hx hb dX12_keepsAct_52 rfl (lv_at hl 0 rfl) ?_
      refine lv_bipush (v := 86) hx hb dX12_keepsAct_53 (by decide) ?_
      refine lv_icmp_ge (tgt := 84) hx hb dX12_keepsAct_55 (by decide) (fun c1 => ?_) (fun c1 => ?_)
      · have t2 : k52_L_1.toInt ≥ 86 := lin_ge c1 rfl (by decide)
        have h3 : IV 86 86 k52_L_1 := iv_le2 c1 (iv_c (a := 86) (b := 86) (by decide)) q52_10 (by decide)
        have ii4 : 86 ≤ k52_L_1.toInt ∧ k52_L_1.toInt ≤ 86 := h3
        refine lv_aload_n hx hb dX12_keepsAct_84 rfl (lv_at hl 1 rfl) ?_
        refine lv_dup hx hb dX12_keepsAct_85 rfl ?_
        refine va_get (D := D) (ci := 12) (v := .int k52_F_a_25) (C := RX12) (T := TX12) (N := 37) hx hb hT i_X12 hown hK hP 2 rfl rfl 25 (by decide) (hT _ q_205) (fun _ h9 => h9) rfl dX12_keepsAct_86 ?_
        refine lv_iconst (v := 1) hx hb dX12_keepsAct_89 (by decide) ?_
        refine lv_iadd hx hb dX12_keepsAct_90 ?_
        refine lv_topi (fun v5 ev5 => ?_)
        have hv5 : IV 1 20 v5 := iv_add ev5 q52_9 (iv_c (a := 1) (b := 1) (by decide)) (by decide) (by decide)
        have ii6 : 1 ≤ v5.toInt ∧ v5.toInt ≤ 20 := hv5
        have dv5 : v5.toInt = k52_F_a_25.toInt + 1 := iv_addE ev5 q52_9 (iv_c (a := 1) (b := 1) (by decide)) (by decide) (by decide) (by decide)
        have lv5 : v5.toInt = k52_F_a_25.toInt + 1 := lin_add ev5 q52_9 (iv_c (a := 1) (b := 1) (by decide)) rfl (by decide) (by decide) (by decide)
        refine va_put (D := D) (ci := 12) (v := .int v5) (ty := .int) (C := RX12) (T := TX12) (N := 37) hx hb hT i_X12 tyX12 tyX12_ok nmX12 hown hK hP hD hS 2 rfl rfl 25 (by decide) (hT _ q_205) (fun _ h9 => h9) rfl (by decide +kernel) rfl rfl (Nat.le_of_ble_eq_true rfl) dX12_keepsAct_91 (fun H locs hP hD hS => ?_)
        have hP : va_P D classes [(a_said, .inl (cs 0, 123, .inl a_said_c)), (a_wasSaid, .inl (cs 0, 1720, .inl k52_C_a_wasSaid)), (a, .inr (12, [.ref a_tape, .int a__taped, .int a__rules, .ref a_sign, .ref a_length, .ref a_clause, .ref a_clauses, .ref a_read, .int a__next, .int a__wrong, .int a__number, .int a__text, .int a__made, .int a__deep, .int a__lines, .ref a_open, .int a__opened, .ref a_stack, .int a__top, .ref a_word, .ref a_said, .int a__x, .ref a_worth, .ref a_mate, .ref a_wasSaid, .int v5, .int a__boughtNow, .ref a_wayBy, .ref a_wayThen, .int a__walkMost, .int a__walkGoing, .int a__walkSet, .ref a_kept, .long a__drawX, .ref a_images, .ref a_imageX, .ref a_isMade]))] H := hP
        have hD : va_D A [(a_said, .inl (cs 0, 123, .inl a_said_c)), (a_wasSaid, .inl (cs 0, 1720, .inl k52_C_a_wasSaid)), (a, .inr (12, [.ref a_tape, .int a__taped, .int a__rules, .ref a_sign, .ref a_length, .ref a_clause, .ref a_clauses, .ref a_read, .int a__next, .int a__wrong, .int a__number, .int a__text, .int a__made, .int a__deep, .int a__lines, .ref a_open, .int a__opened, .ref a_stack, .int a__top, .ref a_word, .ref a_said, .int a__x, .ref a_worth, .ref a_mate, .ref a_wasSaid, .int v5, .int a__boughtNow, .ref a_wayBy, .ref a_wayThen, .int a__walkMost, .int a__walkGoing, .int a__walkSet, .ref a_kept, .long a__drawX, .ref a_images, .ref a_imageX, .ref a_isMade]))] := hD
        refine W.widen (k := 0) (n := 0) (Nat.le_of_ble_eq_true rfl) (Nat.le_of_ble_eq_true rfl) ?_
        have g7 : WSN k52_C_a_wasSaid v5.toInt := (wsn_add x52_0 x52_1 (by omega) hf0 (by omega) (by omega))
        exact W.vret hx hb hr (fun t ht hW => ⟨⟨(fun k => match k with | 0 => 0 | 1 => v5 | _ => 0, fun k => match k with | 0 => k52_C_a_wasSaid | _ => fun _ => 0), rfl, (⟨hv5, g7⟩), by rw [ht]; exact hP.sub [0, 1, 2] rfl, hD.sub [0, 1, 2] (by decide) rfl⟩, hS.F ht⟩) hS.2.2 dX12_keepsAct_94
      · have t8 : k52_L_1.toInt < 86 := lin_geN c1 rfl (by decide)
        have h9 : IV 0 85 k52_L_1 := iv_lt1 (Int32.not_le.mp c1) q52_10 (iv_c (a := 86) (b := 86) (by decide)) (by decide)
        have ii10 : 0 ≤ k52_L_1.toInt ∧ k52_L_1.toInt ≤ 85 := h9
        refine lv_aload_n hx hb dX12_keepsAct_58 rfl (lv_at hl 1 rfl) ?_
        refine va_get (D := D) (ci := 12) (v := .ref a_wasSaid) (C := RX12) (T := TX12) (N := 37) hx hb hT i_X12 hown hK hP 2 rfl rfl 24 (by decide) (hT _ q_188) (fun _ h9 => h9) rfl dX12_keepsAct_59 ?_
        refine lv_bipush (v := 86) hx hb dX12_keepsAct_62 (by decide) ?_
        refine lv_aload_n hx hb dX12_keepsAct_64 rfl (lv_at hl 1 rfl) ?_
        refine va_get (D := D) (ci := 12) (v := .int k52_F_a_25) (C := RX12) (T := TX12) (N := 37) hx hb hT i_X12 hown hK hP 2 rfl rfl 25 (by decide) (hT _ q_205) (fun _ h9 => h9) rfl dX12_keepsAct_65 ?_
        refine lv_imul hx hb dX12_keepsAct_68 ?_
        refine lv_topi (fun v11 ev11 => ?_)
        have hv11 : IV 0 1634 v11 := iv_mul ev11 (iv_c (a := 86) (b := 86) (by decide)) q52_9 (by decide) (by decide) (by decide) (by decide)
        have ii12 : 0 ≤ v11.toInt ∧ v11.toInt ≤ 1634 := hv11
        have lv11 : v11.toInt = 86 * k52_F_a_25.toInt := lin_mul ev11 (iv_c (a := 86) (b := 86) (by decide)) q52_9 (by decide) rfl (by decide) (by decide) (by decide) (by decide)
        refine lv_iload_n hx hb dX12_keepsAct_69 rfl (lv_at hl 0 rfl) ?_
        refine lv_iadd hx hb dX12_keepsAct_70 ?_
        refine lv_topi (fun v13 ev13 => ?_)
        have hv13 : IV 0 1719 v13 := iv_add ev13 hv11 h9 (by decide) (by decide)
        have ii14 : 0 ≤ v13.toInt ∧ v13.toInt ≤ 1719 := hv13
        have lv13 : v13.toInt = v11.toInt + k52_L_1.toInt := lin_add ev13 hv11 h9 rfl rfl (by decide) (by decide)
        refine lv_aload_n hx hb dX12_keepsAct_71 rfl (lv_at hl 1 rfl) ?_
        refine va_get (D := D) (ci := 12) (v := .ref a_said) (C := RX12) (T := TX12) (N := 37) hx hb hT i_X12 hown hK hP 2 rfl rfl 20 (by decide) (hT _ q_185) (fun _ h9 => h9) rfl dX12_keepsAct_72 ?_
        refine lv_iload_n hx hb dX12_keepsAct_75 rfl (lv_at hl 0 rfl) ?_
        refine va_iald hx hb hK hP 0 0 rfl rfl (iv_v h9 (by decide) (by decide)) dX12_keepsAct_76 ?_
        refine lv_topi (fun v15 ev15 => ?_)
        have lv15 : v15.toInt = (a_said_c (Int32.toNatClampNeg k52_L_1)).toInt := by rw [ev15]
        refine va_iast hx hb hK hP hD hS 1 0 rfl rfl (iv_v hv13 (by decide) (by decide)) dX12_keepsAct_77 (fun H locs hP hD hS => ?_)
        have hP : va_P D classes [(a_said, .inl (cs 0, 123, .inl a_said_c)), (a_wasSaid, .inl (cs 0, 1720, .inl (upd k52_C_a_wasSaid (Int32.toNatClampNeg v13) v15))), (a, .inr (12, [.ref a_tape, .int a__taped, .int a__rules, .ref a_sign, .ref a_length, .ref a_clause, .ref a_clauses, .ref a_read, .int a__next, .int a__wrong, .int a__number, .int a__text, .int a__made, .int a__deep, .int a__lines, .ref a_open, .int a__opened, .ref a_stack, .int a__top, .ref a_word, .ref a_said, .int a__x, .ref a_worth, .ref a_mate, .ref a_wasSaid, .int k52_F_a_25, .int a__boughtNow, .ref a_wayBy, .ref a_wayThen, .int a__walkMost, .int a__walkGoing, .int a__walkSet, .ref a_kept, .long a__drawX, .ref a_images, .ref a_imageX, .ref a_isMade]))] H := hP
        have hD : va_D A [(a_said, .inl (cs 0, 123, .inl a_said_c)), (a_wasSaid, .inl (cs 0, 1720, .inl (upd k52_C_a_wasSaid (Int32.toNatClampNeg v13) v15))), (a, .inr (12, [.ref a_tape, .int a__taped, .int a__rules, .ref a_sign, .ref a_length, .ref a_clause, .ref a_clauses, .ref a_read, .int a__next, .int a__wrong, .int a__number, .int a__text, .int a__made, .int a__deep, .int a__lines, .ref a_open, .int a__opened, .ref a_stack, .int a__top, .ref a_word, .ref a_said, .int a__x, .ref a_worth, .ref a_mate, .ref a_wasSaid, .int k52_F_a_25, .int a__boughtNow, .ref a_wayBy, .ref a_wayThen, .int a__walkMost, .int a__walkGoing, .int a__walkSet, .ref a_kept, .long a__drawX, .ref a_images, .ref a_imageX, .ref a_isMade]))] := hD
        obtain ⟨f16, uf16⟩ : ∃ z, z = upd k52_C_a_wasSaid (Int32.toNatClampNeg v13) v15 := ⟨_, rfl⟩
        rw [← uf16] at hP hD
        have wf16 : (f16 (Int32.toNatClampNeg v13)).toInt = v15.toInt := lin_us uf16 rfl
        obtain ⟨v17, ev17⟩ : ∃ z : Int32, z = k52_L_1 + 1 := ⟨_, rfl⟩
        have hv17 : IV 1 86 v17 := iv_add ev17 h9 (iv_c (a := 1) (b := 1) (by decide)) (by decide) (by decide)
        have dv17 : v17.toInt = k52_L_1.toInt + 1 := iv_addE ev17 h9 (iv_c (a := 1) (b := 1) (by decide)) (by decide) (by decide) (by decide)
        refine lv_iinc (v := v17) (lv' := [(1, .int v17), (0, .ref a)]) hx hb dX12_keepsAct_78 hl (k := 0) rfl (by rw [ev17]; rfl) (by decide) rfl (fun ls hl => ?_)
        refine lv_goto (tgt := 52) hx hb dX12_keepsAct_81 (by decide) ?_
        exact ih52 v17 f16 k52_F_a_25 (by have h9 := h9; unfold IV at h9; have := dv17; omega) q52_9 (iv_w hv17 (by decide) (by decide)) (wsn_keep x52_0 uf16 (by omega) (by omega)) (cpt_step x52_1 uf16 ev15 (by omega) (by omega) (by omega)) H locs (hP.sub (ws' := [(a_said, .inl (cs 0, 123, .inl a_said_c)), (a_wasSaid, .inl (cs 0, 1720, .inl f16)), (a, .inr (12, [.ref a_tape, .int a__taped, .int a__rules, .ref a_sign, .ref a_length, .ref a_clause, .ref a_clauses, .ref a_read, .int a__next, .int a__wrong, .int a__number, .int a__text, .int a__made, .int a__deep, .int a__lines, .ref a_open, .int a__opened, .ref a_stack, .int a__top, .ref a_word, .ref a_said, .int a__x, .ref a_worth, .ref a_mate, .ref a_wasSaid, .int k52_F_a_25, .int a__boughtNow, .ref a_wayBy, .ref a_wayThen, .int a__walkMost, .int a__walkGoing, .int a__walkSet, .ref a_kept, .long a__drawX, .ref a_images, .ref a_imageX, .ref a_isMade]))]) [0, 1, 2] rfl) (hD.sub (ws' := [(a_said, .inl (cs 0, 123, .inl a_said_c)), (a_wasSaid, .inl (cs 0, 1720, .inl f16)), (a, .inr (12, [.ref a_tape, .int a__taped, .int a__rules, .ref a_sign, .ref a_length, .ref a_clause, .ref a_clauses, .ref a_read, .int a__next, .int a__wrong, .int a__number, .int a__text, .int a__made, .int a__deep, .int a__lines, .ref a_open, .int a__opened, .ref a_stack, .int a__top, .ref a_word, .ref a_said, .int a__x, .ref a_worth, .ref a_mate, .ref a_wasSaid, .int k52_F_a_25, .int a__boughtNow, .ref a_wayBy, .ref a_wayThen, .int a__walkMost, .int a__walkGoing, .int a__walkSet, .ref a_kept, .long a__drawX, .ref a_images, .ref a_imageX, .ref a_isMade]))]) [0, 1, 2] (by decide) rfl) hS ls (lv_sub hl [0, 1] rfl)
  have K12 : ∀ (n : Nat) (k12_L_1 : Int32) (k12_C_a_wasSaid : Nat → Int32), (1720 - k12_L_1.toInt + 1).toNat ≤ n → IV 20 20 a__undone → IV 86 1720 k12_L_1 → (SHI a_wasSaid_c k12_C_a_wasSaid k12_L_1.toInt.toNat) → ∀ (H : Heap) (locs : List Loc), va_P D classes [(a_said, .inl (cs 0, 123, .inl a_said_c)), (a_wasSaid, .inl (cs 0, 1720, .inl k12_C_a_wasSaid)), (a, .inr (12, [.ref a_tape, .int a__taped, .int a__rules, .ref a_sign, .ref a_length, .ref a_clause, .ref a_clauses, .ref a_read, .int a__next, .int a__wrong, .int a__number, .int a__text, .int a__made, .int a__deep, .int a__lines, .ref a_open, .int a__opened, .ref a_stack, .int a__top, .ref a_word, .ref a_said, .int a__x, .ref a_worth, .ref a_mate, .ref a_wasSaid, .int a__undone, .int a__boughtNow, .ref a_wayBy, .ref a_wayThen, .int a__walkMost, .int a__walkGoing, .int a__walkSet, .ref a_kept, .long a__drawX, .ref a_images, .ref a_imageX, .ref a_isMade]))] H → va_D A [(a_said, .inl (cs 0, 123, .inl a_said_c)), (a_wasSaid, .inl (cs 0, 1720, .inl k12_C_a_wasSaid)), (a, .inr (12, [.ref a_tape, .int a__taped, .int a__rules, .ref a_sign, .ref a_length, .ref a_clause, .ref a_clauses, .ref a_read, .int a__next, .int a__wrong, .int a__number, .int a__text, .int a__made, .int a__deep, .int a__lines, .ref a_open, .int a__opened, .ref a_stack, .int a__top, .ref a_word, .ref a_said, .int a__x, .ref a_worth, .ref a_mate, .ref a_wasSaid, .int a__undone, .int a__boughtNow, .ref a_wayBy, .ref a_wayThen, .int a__walkMost, .int a__walkGoing, .int a__walkSet, .ref a_kept, .long a__drawX, .ref a_images, .ref a_imageX, .ref a_isMade]))] → va_S A s.heap H locs → ∀ ls : Array Slot, lv_has ls 2 [(1, .int k12_L_1), (0, .ref a)] → W p l e (headSpec (hz_w yX12_keepsAct cX12_keepsAct 2 none) ({ frames := 0, cells := 0, slots := 0, locals := 0 })).room s m [.ref a].toArray below meth c H locs 0 0 (MQ below (va_Qv (fun (u : (Nat → Int32) × (Nat → Nat → Int32)) => (IV 1 20 (u.1 1) ∧ (WSN (u.2 0) (u.1 1).toInt))) (fun u t => va_P D classes [(a_said, .inl (cs 0, 123, .inl a_said_c)), (a_wasSaid, .inl (cs 0, 1720, .inl (u.2 0))), (a, .inr (12, [.ref a_tape, .int a__taped, .int a__rules, .ref a_sign, .ref a_length, .ref a_clause, .ref a_clauses, .ref a_read, .int a__next, .int a__wrong, .int a__number, .int a__text, .int a__made, .int a__deep, .int a__lines, .ref a_open, .int a__opened, .ref a_stack, .int a__top, .ref a_word, .ref a_said, .int a__x, .ref a_worth, .ref a_mate, .ref a_wasSaid, .int (u.1 1), .int a__boughtNow, .ref a_wayBy, .ref a_wayThen, .int a__walkMost, .int a__walkGoing, .int a__walkSet, .ref a_kept, .long a__drawX, .ref a_images, .ref a_imageX, .ref a_isMade]))] t.heap ∧ va_D A [(a_said, .inl (cs 0, 123, .inl a_said_c)), (a_wasSaid, .inl (cs 0, 1720, .inl (u.2 0))), (a, .inr (12, [.ref a_tape, .int a__taped, .int a__rules, .ref a_sign, .ref a_length, .ref a_clause, .ref a_clauses, .ref a_read, .int a__next, .int a__wrong, .int a__number, .int a__text, .int a__made, .int a__deep, .int a__lines, .ref a_open, .int a__opened, .ref a_stack, .int a__top, .ref a_word, .ref a_said, .int a__x, .ref a_worth, .ref a_mate, .ref a_wasSaid, .int (u.1 1), .int a__boughtNow, .ref a_wayBy, .ref a_wayThen, .int a__walkMost, .int a__walkGoing, .int a__walkSet, .ref a_kept, .long a__drawX, .ref a_images, .ref a_imageX, .ref a_isMade]))]) A) [.ref a].toArray s 0 0 A) (F0 m 12 ls []) := by
    intro n
    induction n with
    | zero =>
      intro k12_L_1 k12_C_a_wasSaid hn q12_8 q12_10 x12_0 H locs hP hD hS ls hl
      exact absurd hn (by unfold IV at q12_10; omega)
    | succ n ih12 =>
      intro k12_L_1 k12_C_a_wasSaid hn q12_8 q12_10 x12_0 H locs hP hD hS ls hl
      have i_a__lines : 0 ≤ a__lines.toInt ∧ a__lines.toInt ≤ 40 := h_a__lines
      have i_a__made : 0 ≤ a__made.toInt ∧ a__made.toInt ≤ 60 := h_a__made
      have i_a__next : 0 ≤ a__next.toInt ∧ a__next.toInt ≤ 400 := h_a__next
      have i_a__opened : 0 ≤ a__opened.toInt ∧ a__opened.toInt ≤ 400 := h_a__opened
      have i_a__rules : 0 ≤ a__rules.toInt ∧ a__rules.toInt ≤ 6 := h_a__rules
      have i_a__taped : 0 ≤ a__taped.toInt ∧ a__taped.toInt ≤ 400 := h_a__taped
      have i_a__text : 0 ≤ a__text.toInt ∧ a__text.toInt ≤ 6 := h_a__text
      have i_a__top : 0 ≤ a__top.toInt ∧ a__top.toInt ≤ 64 := h_a__top
      have i_a__undone : 20 ≤ a__undone.toInt ∧ a__undone.toInt ≤ 20 := q12_8
      have i_a__x : 0 ≤ a__x.toInt ∧ a__x.toInt ≤ 2147483647 := h_a__x
      have i_k12_L_1 : 86 ≤ k12_L_1.toInt ∧ k12_L_1.toInt ≤ 1720 := q12_10
      refine lv_iload_n hx hb dX12_keepsAct_12 rfl (lv_at hl 0 rfl) ?_
      refine lv_sipush (v := 1720) hx hb dX12_keepsAct_13 (by decide) ?_
      refine lv_icmp_ge (tgt := 40) hx hb dX12_keepsAct_16 (by decide) (fun c18 => ?_) (fun c18 => ?_)
      · have t19 : k12_L_1.toInt ≥ 1720 := lin_ge c18 rfl (by decide)
        have h20 : IV 1720 1720 k12_L_1 := iv_le2 c18 (iv_c (a := 1720) (b := 1720) (by decide)) q12_10 (by decide)
        have ii21 : 1720 ≤ k12_L_1.toInt ∧ k12_L_1.toInt ≤ 1720 := h20
        refine lv_aload_n hx hb dX12_keepsAct_40 rfl (lv_at hl 1 rfl) ?_
        refine lv_dup hx hb dX12_keepsAct_41 rfl ?_
        refine va_get (D := D) (ci := 12) (v := .int a__undone) (C := RX12) (T := TX12) (N := 37) hx hb hT i_X12 hown hK hP 2 rfl rfl 25 (by decide) (hT _ q_205) (fun _ h9 => h9) rfl dX12_keepsAct_42 ?_
        refine lv_iconst (v := 1) hx hb dX12_keepsAct_45 (by decide) ?_
        refine lv_isub hx hb dX12_keepsAct_46 ?_
        refine lv_topi (fun v22 ev22 => ?_)
        have hv22 : IV 19 19 v22 := iv_sub ev22 q12_8 (iv_c (a := 1) (b := 1) (by decide)) (by decide) (by decide)
        have ii23 : 19 ≤ v22.toInt ∧ v22.toInt ≤ 19 := hv22
        have dv22 : v22.toInt = a__undone.toInt + (-1) := iv_subE ev22 q12_8 (iv_c (a := 1) (b := 1) (by decide)) (by decide) (by decide) (by decide)
        have lv22 : v22.toInt = a__undone.toInt - 1 := lin_sub ev22 q12_8 (iv_c (a := 1) (b := 1) (by decide)) rfl (by decide) (by decide) (by decide)
        refine va_put (D := D) (ci := 12) (v := .int v22) (ty := .int) (C := RX12) (T := TX12) (N := 37) hx hb hT i_X12 tyX12 tyX12_ok nmX12 hown hK hP hD hS 2 rfl rfl 25 (by decide) (hT _ q_205) (fun _ h9 => h9) rfl (by decide +kernel) rfl rfl (Nat.le_of_ble_eq_true rfl) dX12_keepsAct_47 (fun H locs hP hD hS => ?_)
        have hP : va_P D classes [(a_said, .inl (cs 0, 123, .inl a_said_c)), (a_wasSaid, .inl (cs 0, 1720, .inl k12_C_a_wasSaid)), (a, .inr (12, [.ref a_tape, .int a__taped, .int a__rules, .ref a_sign, .ref a_length, .ref a_clause, .ref a_clauses, .ref a_read, .int a__next, .int a__wrong, .int a__number, .int a__text, .int a__made, .int a__deep, .int a__lines, .ref a_open, .int a__opened, .ref a_stack, .int a__top, .ref a_word, .ref a_said, .int a__x, .ref a_worth, .ref a_mate, .ref a_wasSaid, .int v22, .int a__boughtNow, .ref a_wayBy, .ref a_wayThen, .int a__walkMost, .int a__walkGoing, .int a__walkSet, .ref a_kept, .long a__drawX, .ref a_images, .ref a_imageX, .ref a_isMade]))] H := hP
        have hD : va_D A [(a_said, .inl (cs 0, 123, .inl a_said_c)), (a_wasSaid, .inl (cs 0, 1720, .inl k12_C_a_wasSaid)), (a, .inr (12, [.ref a_tape, .int a__taped, .int a__rules, .ref a_sign, .ref a_length, .ref a_clause, .ref a_clauses, .ref a_read, .int a__next, .int a__wrong, .int a__number, .int a__text, .int a__made, .int a__deep, .int a__lines, .ref a_open, .int a__opened, .ref a_stack, .int a__top, .ref a_word, .ref a_said, .int a__x, .ref a_worth, .ref a_mate, .ref a_wasSaid, .int v22, .int a__boughtNow, .ref a_wayBy, .ref a_wayThen, .int a__walkMost, .int a__walkGoing, .int a__walkSet, .ref a_kept, .long a__drawX, .ref a_images, .ref a_imageX, .ref a_isMade]))] := hD
        refine lv_iconst (v := 0) hx hb dX12_keepsAct_50 (by decide) ?_
        refine lv_istore_n (lv' := [(1, .int 0), (0, .ref a)]) hx hb dX12_keepsAct_51 rfl hl (by decide) rfl (fun ls hl => ?_)
        exact K52 _ ((0 : Int32)) k12_C_a_wasSaid v22 (Nat.le_refl _) (iv_w hv22 (by decide) (by decide)) (iv_c (by decide)) (wsn_shift hf1 x12_0 (by omega) (by omega) (by omega)) (cpt_0) H locs (hP.sub (ws' := [(a_said, .inl (cs 0, 123, .inl a_said_c)), (a_wasSaid, .inl (cs 0, 1720, .inl k12_C_a_wasSaid)), (a, .inr (12, [.ref a_tape, .int a__taped, .int a__rules, .ref a_sign, .ref a_length, .ref a_clause, .ref a_clauses, .ref a_read, .int a__next, .int a__wrong, .int a__number, .int a__text, .int a__made, .int a__deep, .int a__lines, .ref a_open, .int a__opened, .ref a_stack, .int a__top, .ref a_word, .ref a_said, .int a__x, .ref a_worth, .ref a_mate, .ref a_wasSaid, .int v22, .int a__boughtNow, .ref a_wayBy, .ref a_wayThen, .int a__walkMost, .int a__walkGoing, .int a__walkSet, .ref a_kept, .long a__drawX, .ref a_images, .ref a_imageX, .ref a_isMade]))]) [0, 1, 2] rfl) (hD.sub (ws' := [(a_said, .inl (cs 0, 123, .inl a_said_c)), (a_wasSaid, .inl (cs 0, 1720, .inl k12_C_a_wasSaid)), (a, .inr (12, [.ref a_tape, .int a__taped, .int a__rules, .ref a_sign, .ref a_length, .ref a_clause, .ref a_clauses, .ref a_read, .int a__next, .int a__wrong, .int a__number, .int a__text, .int a__made, .int a__deep, .int a__lines, .ref a_open, .int a__opened, .ref a_stack, .int a__top, .ref a_word, .ref a_said, .int a__x, .ref a_worth, .ref a_mate, .ref a_wasSaid, .int v22, .int a__boughtNow, .ref a_wayBy, .ref a_wayThen, .int a__walkMost, .int a__walkGoing, .int a__walkSet, .ref a_kept, .long a__drawX, .ref a_images, .ref a_imageX, .ref a_isMade]))]) [0, 1, 2] (by decide) rfl) hS ls (lv_sub hl [0, 1] rfl)
      · have t24 : k12_L_1.toInt < 1720 := lin_geN c18 rfl (by decide)
        have h25 : IV 86 1719 k12_L_1 := iv_lt1 (Int32.not_le.mp c18) q12_10 (iv_c (a := 1720) (b := 1720) (by decide)) (by decide)
        have ii26 : 86 ≤ k12_L_1.toInt ∧ k12_L_1.toInt ≤ 1719 := h25
        refine lv_aload_n hx hb dX12_keepsAct_19 rfl (lv_at hl 1 rfl) ?_
        refine va_get (D := D) (ci := 12) (v := .ref a_wasSaid) (C := RX12) (T := TX12) (N := 37) hx hb hT i_X12 hown hK hP 2 rfl rfl 24 (by decide) (hT _ q_188) (fun _ h9 => h9) rfl dX12_keepsAct_20 ?_
        refine lv_iload_n hx hb dX12_keepsAct_23 rfl (lv_at hl 0 rfl) ?_
        refine lv_bipush (v := 86) hx hb dX12_keepsAct_24 (by decide) ?_
        refine lv_isub hx hb dX12_keepsAct_26 ?_
        refine lv_topi (fun v27 ev27 => ?_)
        have hv27 : IV 0 1633 v27 := iv_sub ev27 h25 (iv_c (a := 86) (b := 86) (by decide)) (by decide) (by decide)
        have ii28 : 0 ≤ v27.toInt ∧ v27.toInt ≤ 1633 := hv27
        have dv27 : v27.toInt = k12_L_1.toInt + (-86) := iv_subE ev27 h25 (iv_c (a := 86) (b := 86) (by decide)) (by decide) (by decide) (by decide)
        have lv27 : v27.toInt = k12_L_1.toInt - 86 := lin_sub ev27 h25 (iv_c (a := 86) (b := 86) (by decide)) rfl (by decide) (by decide) (by decide)
        refine lv_aload_n hx hb dX12_keepsAct_27 rfl (lv_at hl 1 rfl) ?_
        refine va_get (D := D) (ci := 12) (v := .ref a_wasSaid) (C := RX12) (T := TX12) (N := 37) hx hb hT i_X12 hown hK hP 2 rfl rfl 24 (by decide) (hT _ q_188) (fun _ h9 => h9) rfl dX12_keepsAct_28 ?_
        refine lv_iload_n hx hb dX12_keepsAct_31 rfl (lv_at hl 0 rfl) ?_
        refine va_iald hx hb hK hP 1 0 rfl rfl (iv_v h25 (by decide) (by decide)) dX12_keepsAct_32 ?_
        refine lv_topi (fun v29 ev29 => ?_)
        have lv29 : v29.toInt = (k12_C_a_wasSaid (Int32.toNatClampNeg k12_L_1)).toInt := by rw [ev29]
        refine va_iast hx hb hK hP hD hS 1 0 rfl rfl (iv_v hv27 (by decide) (by decide)) dX12_keepsAct_33 (fun H locs hP hD hS => ?_)
        have hP : va_P D classes [(a_said, .inl (cs 0, 123, .inl a_said_c)), (a_wasSaid, .inl (cs 0, 1720, .inl (upd k12_C_a_wasSaid (Int32.toNatClampNeg v27) v29))), (a, .inr (12, [.ref a_tape, .int a__taped, .int a__rules, .ref a_sign, .ref a_length, .ref a_clause, .ref a_clauses, .ref a_read, .int a__next, .int a__wrong, .int a__number, .int a__text, .int a__made, .int a__deep, .int a__lines, .ref a_open, .int a__opened, .ref a_stack, .int a__top, .ref a_word, .ref a_said, .int a__x, .ref a_worth, .ref a_mate, .ref a_wasSaid, .int a__undone, .int a__boughtNow, .ref a_wayBy, .ref a_wayThen, .int a__walkMost, .int a__walkGoing, .int a__walkSet, .ref a_kept, .long a__drawX, .ref a_images, .ref a_imageX, .ref a_isMade]))] H := hP
        have hD : va_D A [(a_said, .inl (cs 0, 123, .inl a_said_c)), (a_wasSaid, .inl (cs 0, 1720, .inl (upd k12_C_a_wasSaid (Int32.toNatClampNeg v27) v29))), (a, .inr (12, [.ref a_tape, .int a__taped, .int a__rules, .ref a_sign, .ref a_length, .ref a_clause, .ref a_clauses, .ref a_read, .int a__next, .int a__wrong, .int a__number, .int a__text, .int a__made, .int a__deep, .int a__lines, .ref a_open, .int a__opened, .ref a_stack, .int a__top, .ref a_word, .ref a_said, .int a__x, .ref a_worth, .ref a_mate, .ref a_wasSaid, .int a__undone, .int a__boughtNow, .ref a_wayBy, .ref a_wayThen, .int a__walkMost, .int a__walkGoing, .int a__walkSet, .ref a_kept, .long a__drawX, .ref a_images, .ref a_imageX, .ref a_isMade]))] := hD
        obtain ⟨f30, uf30⟩ : ∃ z, z = upd k12_C_a_wasSaid (Int32.toNatClampNeg v27) v29 := ⟨_, rfl⟩
        rw [← uf30] at hP hD
        have wf30 : (f30 (Int32.toNatClampNeg v27)).toInt = v29.toInt := lin_us uf30 rfl
        obtain ⟨v31, ev31⟩ : ∃ z : Int32, z = k12_L_1 + 1 := ⟨_, rfl⟩
        have hv31 : IV 87 1720 v31 := iv_add ev31 h25 (iv_c (a := 1) (b := 1) (by decide)) (by decide) (by decide)
        have dv31 : v31.toInt = k12_L_1.toInt + 1 := iv_addE ev31 h25 (iv_c (a := 1) (b := 1) (by decide)) (by decide) (by decide) (by decide)
        refine lv_iinc (v := v31) (lv' := [(1, .int v31), (0, .ref a)]) hx hb dX12_keepsAct_34 hl (k := 0) rfl (by rw [ev31]; rfl) (by decide) rfl (fun ls hl => ?_)
        refine lv_goto (tgt := 12) hx hb dX12_keepsAct_37 (by decide) ?_
        exact ih12 v31 f30 (by have h9 := h25; unfold IV at h9; have := dv31; omega) q12_8 (iv_w hv31 (by decide) (by decide)) (shi_step x12_0 uf30 ev29 (by omega) (by omega) (by omega)) H locs (hP.sub (ws' := [(a_said, .inl (cs 0, 123, .inl a_said_c)), (a_wasSaid, .inl (cs 0, 1720, .inl f30)), (a, .inr (12, [.ref a_tape, .int a__taped, .int a__rules, .ref a_sign, .ref a_length, .ref a_clause, .ref a_clauses, .ref a_read, .int a__next, .int a__wrong, .int a__number, .int a__text, .int a__made, .int a__deep, .int a__lines, .ref a_open, .int a__opened, .ref a_stack, .int a__top, .ref a_word, .ref a_said, .int a__x, .ref a_worth, .ref a_mate, .ref a_wasSaid, .int a__undone, .int a__boughtNow, .ref a_wayBy, .ref a_wayThen, .int a__walkMost, .int a__walkGoing, .int a__walkSet, .ref a_kept, .long a__drawX, .ref a_images, .ref a_imageX, .ref a_isMade]))]) [0, 1, 2] rfl) (hD.sub (ws' := [(a_said, .inl (cs 0, 123, .inl a_said_c)), (a_wasSaid, .inl (cs 0, 1720, .inl f30)), (a, .inr (12, [.ref a_tape, .int a__taped, .int a__rules, .ref a_sign, .ref a_length, .ref a_clause, .ref a_clauses, .ref a_read, .int a__next, .int a__wrong, .int a__number, .int a__text, .int a__made, .int a__deep, .int a__lines, .ref a_open, .int a__opened, .ref a_stack, .int a__top, .ref a_word, .ref a_said, .int a__x, .ref a_worth, .ref a_mate, .ref a_wasSaid, .int a__undone, .int a__boughtNow, .ref a_wayBy, .ref a_wayThen, .int a__walkMost, .int a__walkGoing, .int a__walkSet, .ref a_kept, .long a__drawX, .ref a_images, .ref a_imageX, .ref a_isMade]))]) [0, 1, 2] (by decide) rfl) hS ls (lv_sub hl [0, 1] rfl)
  refine lv_aload_n hx hb dX12_keepsAct_0 rfl (lv_at hl 0 rfl) ?_
  refine va_get (D := D) (ci := 12) (v := .int a__undone) (C := RX12) (T := TX12) (N := 37) hx hb hT i_X12 hown hK hP 2 rfl rfl 25 (by decide) (hT _ q_205) (fun _ h9 => h9) rfl dX12_keepsAct_1 ?_
  refine lv_bipush (v := 20) hx hb dX12_keepsAct_4 (by decide) ?_
  refine lv_icmp_ne (tgt := 50) hx hb dX12_keepsAct_6 (by decide) (fun c32 => ?_) (fun c32 => ?_)
  · have t33 : a__undone.toInt ≠ 20 := lin_ne c32 rfl (by decide)
    have h34 : IV 0 19 a__undone := iv_neR c32 h_a__undone (by decide)
    have ii35 : 0 ≤ a__undone.toInt ∧ a__undone.toInt ≤ 19 := h34
    refine lv_iconst (v := 0) hx hb dX12_keepsAct_50 (by decide) ?_
    refine lv_istore_n (lv' := [(1, .int 0), (0, .ref a)]) hx hb dX12_keepsAct_51 rfl hl (by decide) rfl (fun ls hl => ?_)
    exact K52 _ ((0 : Int32)) a_wasSaid_c a__undone (Nat.le_refl _) h34 (iv_c (by decide)) hf1 (cpt_0) H locs (hP.sub (ws' := [(a_said, .inl (cs 0, 123, .inl a_said_c)), (a_wasSaid, .inl (cs 0, 1720, .inl a_wasSaid_c)), (a, .inr (12, [.ref a_tape, .int a__taped, .int a__rules, .ref a_sign, .ref a_length, .ref a_clause, .ref a_clauses, .ref a_read, .int a__next, .int a__wrong, .int a__number, .int a__text, .int a__made, .int a__deep, .int a__lines, .ref a_open, .int a__opened, .ref a_stack, .int a__top, .ref a_word, .ref a_said, .int a__x, .ref a_worth, .ref a_mate, .ref a_wasSaid, .int a__undone, .int a__boughtNow, .ref a_wayBy, .ref a_wayThen, .int a__walkMost, .int a__walkGoing, .int a__walkSet, .ref a_kept, .long a__drawX, .ref a_images, .ref a_imageX, .ref a_isMade]))]) [0, 1, 2] rfl) (hD.sub (ws' := [(a_said, .inl (cs 0, 123, .inl a_said_c)), (a_wasSaid, .inl (cs 0, 1720, .inl a_wasSaid_c)), (a, .inr (12, [.ref a_tape, .int a__taped, .int a__rules, .ref a_sign, .ref a_length, .ref a_clause, .ref a_clauses, .ref a_read, .int a__next, .int a__wrong, .int a__number, .int a__text, .int a__made, .int a__deep, .int a__lines, .ref a_open, .int a__opened, .ref a_stack, .int a__top, .ref a_word, .ref a_said, .int a__x, .ref a_worth, .ref a_mate, .ref a_wasSaid, .int a__undone, .int a__boughtNow, .ref a_wayBy, .ref a_wayThen, .int a__walkMost, .int a__walkGoing, .int a__walkSet, .ref a_kept, .long a__drawX, .ref a_images, .ref a_imageX, .ref a_isMade]))]) [0, 1, 2] (by decide) rfl) hS ls (lv_sub hl [0, 1] rfl)
  · have t36 : a__undone.toInt = 20 := lin_eqN c32 rfl (by decide)
    have h37 : IV 20 20 a__undone := iv_eq1 c32 h_a__undone (iv_c (a := 20) (b := 20) (by decide)) (by decide) (by decide)
    have ii38 : 20 ≤ a__undone.toInt ∧ a__undone.toInt ≤ 20 := h37
    refine lv_bipush (v := 86) hx hb dX12_keepsAct_9 (by decide) ?_
    refine lv_istore_n (lv' := [(1, .int 86), (0, .ref a)]) hx hb dX12_keepsAct_11 rfl hl (by decide) rfl (fun ls hl => ?_)
    exact K12 _ ((86 : Int32)) a_wasSaid_c (Nat.le_refl _) h37 (iv_c (by decide)) (shi_0) H locs (hP.sub (ws' := [(a_said, .inl (cs 0, 123, .inl a_said_c)), (a_wasSaid, .inl (cs 0, 1720, .inl a_wasSaid_c)), (a, .inr (12, [.ref a_tape, .int a__taped, .int a__rules, .ref a_sign, .ref a_length, .ref a_clause, .ref a_clauses, .ref a_read, .int a__next, .int a__wrong, .int a__number, .int a__text, .int a__made, .int a__deep, .int a__lines, .ref a_open, .int a__opened, .ref a_stack, .int a__top, .ref a_word, .ref a_said, .int a__x, .ref a_worth, .ref a_mate, .ref a_wasSaid, .int a__undone, .int a__boughtNow, .ref a_wayBy, .ref a_wayThen, .int a__walkMost, .int a__walkGoing, .int a__walkSet, .ref a_kept, .long a__drawX, .ref a_images, .ref a_imageX, .ref a_isMade]))]) [0, 1, 2] rfl) (hD.sub (ws' := [(a_said, .inl (cs 0, 123, .inl a_said_c)), (a_wasSaid, .inl (cs 0, 1720, .inl a_wasSaid_c)), (a, .inr (12, [.ref a_tape, .int a__taped, .int a__rules, .ref a_sign, .ref a_length, .ref a_clause, .ref a_clauses, .ref a_read, .int a__next, .int a__wrong, .int a__number, .int a__text, .int a__made, .int a__deep, .int a__lines, .ref a_open, .int a__opened, .ref a_stack, .int a__top, .ref a_word, .ref a_said, .int a__x, .ref a_worth, .ref a_mate, .ref a_wasSaid, .int a__undone, .int a__boughtNow, .ref a_wayBy, .ref a_wayThen, .int a__walkMost, .int a__walkGoing, .int a__walkSet, .ref a_kept, .long a__drawX, .ref a_images, .ref a_imageX, .ref a_isMade]))]) [0, 1, 2] (by decide) rfl) hS ls (lv_sub hl [0, 1] rfl)
theorem dX12_undo_0 : decode cX12_undo 0 = .ok (.aload_n 0, 1) := by decide +kernel
theorem dX12_undo_1 : decode cX12_undo 1 = .ok (.getfield 274, 3) := by decide +kernel
theorem dX12_undo_4 : decode cX12_undo 4 = .ok (.ifCond .ne 5, 3) := by decide +kernel
theorem dX12_undo_7 : decode cX12_undo 7 = .ok (.iconst (-1), 1) := by decide +kernel
theorem dX12_undo_8 : decode cX12_undo 8 = .ok (.ireturn, 1) := by decide +kernel
theorem dX12_undo_9 : decode cX12_undo 9 = .ok (.aload_n 0, 1) := by decide +kernel
theorem dX12_undo_10 : decode cX12_undo 10 = .ok (.dup, 1) := by decide +kernel
theorem dX12_undo_11 : decode cX12_undo 11 = .ok (.getfield 274, 3) := by decide +kernel
theorem dX12_undo_14 : decode cX12_undo 14 = .ok (.iconst 1, 1) := by decide +kernel
theorem dX12_undo_15 : decode cX12_undo 15 = .ok (.isub, 1) := by decide +kernel
theorem dX12_undo_16 : decode cX12_undo 16 = .ok (.putfield 274, 3) := by decide +kernel
theorem dX12_undo_19 : decode cX12_undo 19 = .ok (.iconst 0, 1) := by decide +kernel
theorem dX12_undo_20 : decode cX12_undo 20 = .ok (.istore_n 1, 1) := by decide +kernel
theorem dX12_undo_21 : decode cX12_undo 21 = .ok (.iload_n 1, 1) := by decide +kernel
theorem dX12_undo_22 : decode cX12_undo 22 = .ok (.bipush 86, 2) := by decide +kernel
theorem dX12_undo_24 : decode cX12_undo 24 = .ok (.if_icmp .ge 29, 3) := by decide +kernel
theorem dX12_undo_27 : decode cX12_undo 27 = .ok (.aload_n 0, 1) := by decide +kernel
theorem dX12_undo_28 : decode cX12_undo 28 = .ok (.getfield 39, 3) := by decide +kernel
theorem dX12_undo_31 : decode cX12_undo 31 = .ok (.iload_n 1, 1) := by decide +kernel
theorem dX12_undo_32 : decode cX12_undo 32 = .ok (.aload_n 0, 1) := by decide +kernel
theorem dX12_undo_33 : decode cX12_undo 33 = .ok (.getfield 48, 3) := by decide +kernel
theorem dX12_undo_36 : decode cX12_undo 36 = .ok (.bipush 86, 2) := by decide +kernel
theorem dX12_undo_38 : decode cX12_undo 38 = .ok (.aload_n 0, 1) := by decide +kernel
theorem dX12_undo_39 : decode cX12_undo 39 = .ok (.getfield 274, 3) := by decide +kernel
theorem dX12_undo_42 : decode cX12_undo 42 = .ok (.imul, 1) := by decide +kernel
theorem dX12_undo_43 : decode cX12_undo 43 = .ok (.iload_n 1, 1) := by decide +kernel
theorem dX12_undo_44 : decode cX12_undo 44 = .ok (.iadd, 1) := by decide +kernel
theorem dX12_undo_45 : decode cX12_undo 45 = .ok (.iaload, 1) := by decide +kernel
theorem dX12_undo_46 : decode cX12_undo 46 = .ok (.iastore, 1) := by decide +kernel
theorem dX12_undo_47 : decode cX12_undo 47 = .ok (.iinc 1 1, 3) := by decide +kernel
theorem dX12_undo_50 : decode cX12_undo 50 = .ok (.goto (-29), 3) := by decide +kernel
theorem dX12_undo_53 : decode cX12_undo 53 = .ok (.aload_n 0, 1) := by decide +kernel
theorem dX12_undo_54 : decode cX12_undo 54 = .ok (.getfield 274, 3) := by decide +kernel
theorem dX12_undo_57 : decode cX12_undo 57 = .ok (.ireturn, 1) := by decide +kernel
set_option maxHeartbeats 4000000 in
set_option maxRecDepth 100000 in
theorem c_X12_undo (l : Launch) (D : va_G) (cs : Nat → ClassId) (kK kV : Nat → Nat) (a : Nat) (a_said : Nat) (a_said_c : Nat → Int32) (a_wasSaid : Nat) (a_wasSaid_c : Nat → Int32) (a_tape : Nat) (a__taped : Int32) (a__rules : Int32) (a_sign : Nat) (a_length : Nat) (a_clause : Nat) (a_clauses : Nat) (a_read : Nat) (a__next : Int32) (a__wrong : Int32) (a__number : Int32) (a__text : Int32) (a__made : Int32) (a__deep : Int32) (a__lines : Int32) (a_open : Nat) (a__opened : Int32) (a_stack : Nat) (a__top : Int32) (a_word : Nat) (a__x : Int32) (a_worth : Nat) (a_mate : Nat) (a__undone : Int32) (a__boughtNow : Int32) (a_wayBy : Nat) (a_wayThen : Nat) (a__walkMost : Int32) (a__walkGoing : Int32) (a__walkSet : Int32) (a_kept : Nat) (a__drawX : Int64) (a_images : Nat) (a_imageX : Nat) (a_isMade : Nat) (h_a__taped : IV 0 400 a__taped) (h_a__rules : IV 0 6 a__rules) (h_a__next : IV 0 400 a__next) (h_a__text : IV 0 6 a__text) (h_a__made : IV 0 60 a__made) (h_a__lines : IV 0 40 a__lines) (h_a__opened : IV 0 400 a__opened) (h_a__top : IV 0 64 a__top) (h_a__x : IV 0 2147483647 a__x) (h_a__undone : IV 0 20 a__undone) (hf0 : BS a_said_c 200) (hf1 : TR a_said_c) (hf2 : (a_said_c 3).toInt ≤ 99) (hf3 : WSN a_wasSaid_c a__undone.toInt) (sz : Nat) : Met l yX12_undo (hz_w yX12_undo cX12_undo 2 (some .int)) ({ frames := 0, cells := 0, slots := 0, locals := 0 }) (va_Pc [.ref a] (hz_C D cs kK kV sz [(a_said, .inl (cs 0, 123, .inl a_said_c)), (a_wasSaid, .inl (cs 0, 1720, .inl a_wasSaid_c)), (a, .inr (12, [.ref a_tape, .int a__taped, .int a__rules, .ref a_sign, .ref a_length, .ref a_clause, .ref a_clauses, .ref a_read, .int a__next, .int a__wrong, .int a__number, .int a__text, .int a__made, .int a__deep, .int a__lines, .ref a_open, .int a__opened, .ref a_stack, .int a__top, .ref a_word, .ref a_said, .int a__x, .ref a_worth, .ref a_mate, .ref a_wasSaid, .int a__undone, .int a__boughtNow, .ref a_wayBy, .ref a_wayThen, .int a__walkMost, .int a__walkGoing, .int a__walkSet, .ref a_kept, .long a__drawX, .ref a_images, .ref a_imageX, .ref a_isMade]))])) (va_Qi (fun (r : Int32) (u : (Nat → Int32) × (Nat → Nat → Int32)) => (r = (-1) ∧ IV 0 0 a__undone ∧ IV 0 0 (u.1 1) ∧ (BS (u.2 0) 200) ∧ (TR (u.2 0)) ∧ (((u.2 0) 3).toInt ≤ 99) ∧ (WSN a_wasSaid_c (u.1 1).toInt)) ∨ (IV 0 19 r ∧ IV 0 19 (u.1 1) ∧ (BS (u.2 0) 200) ∧ (TR (u.2 0)) ∧ (((u.2 0) 3).toInt ≤ 99) ∧ (WSN a_wasSaid_c (u.1 1).toInt))) (fun u t => va_P D classes [(a_said, .inl (cs 0, 123, .inl (u.2 0))), (a_wasSaid, .inl (cs 0, 1720, .inl a_wasSaid_c)), (a, .inr (12, [.ref a_tape, .int a__taped, .int a__rules, .ref a_sign, .ref a_length, .ref a_clause, .ref a_clauses, .ref a_read, .int a__next, .int a__wrong, .int a__number, .int a__text, .int a__made, .int a__deep, .int a__lines, .ref a_open, .int a__opened, .ref a_stack, .int a__top, .ref a_word, .ref a_said, .int a__x, .ref a_worth, .ref a_mate, .ref a_wasSaid, .int (u.1 1), .int a__boughtNow, .ref a_wayBy, .ref a_wayThen, .int a__walkMost, .int a__walkGoing, .int a__walkSet, .ref a_kept, .long a__drawX, .ref a_images, .ref a_imageX, .ref a_isMade]))] t.heap ∧ va_D (va_A [(a_said, .inl (cs 0, 123, .inl a_said_c)), (a_wasSaid, .inl (cs 0, 1720, .inl a_wasSaid_c)), (a, .inr (12, [.ref a_tape, .int a__taped, .int a__rules, .ref a_sign, .ref a_length, .ref a_clause, .ref a_clauses, .ref a_read, .int a__next, .int a__wrong, .int a__number, .int a__text, .int a__made, .int a__deep, .int a__lines, .ref a_open, .int a__opened, .ref a_stack, .int a__top, .ref a_word, .ref a_said, .int a__x, .ref a_worth, .ref a_mate, .ref a_wasSaid, .int a__undone, .int a__boughtNow, .ref a_wayBy, .ref a_wayThen, .int a__walkMost, .int a__walkGoing, .int a__walkSet, .ref a_kept, .long a__drawX, .ref a_images, .ref a_imageX, .ref a_isMade]))] sz) [(a_said, .inl (cs 0, 123, .inl (u.2 0))), (a_wasSaid, .inl (cs 0, 1720, .inl a_wasSaid_c)), (a, .inr (12, [.ref a_tape, .int a__taped, .int a__rules, .ref a_sign, .ref a_length, .ref a_clause, .ref a_clauses, .ref a_read, .int a__next, .int a__wrong, .int a__number, .int a__text, .int a__made, .int a__deep, .int a__lines, .ref a_open, .int a__opened, .ref a_stack, .int a__top, .ref a_word, .ref a_said, .int a__x, .ref a_worth, .ref a_mate, .ref a_wasSaid, .int (u.1 1), .int a__boughtNow, .ref a_wayBy, .ref a_wayThen, .int a__walkMost, .int a__walkGoing, .int a__walkSet, .ref a_kept, .long a__drawX, .ref a_images, .ref a_imageX, .ref a_isMade]))]) (va_A [(a_said, .inl (cs 0, 123, .inl a_said_c)), (a_wasSaid, .inl (cs 0, 1720, .inl a_wasSaid_c)), (a, .inr (12, [.ref a_tape, .int a__taped, .int a__rules, .ref a_sign, .ref a_length, .ref a_clause, .ref a_clauses, .ref a_read, .int a__next, .int a__wrong, .int a__number, .int a__text, .int a__made, .int a__deep, .int a__lines, .ref a_open, .int a__opened, .ref a_stack, .int a__top, .ref a_word, .ref a_said, .int a__x, .ref a_worth, .ref a_mate, .ref a_wasSaid, .int a__undone, .int a__boughtNow, .ref a_wayBy, .ref a_wayThen, .int a__walkMost, .int a__walkGoing, .int a__walkSet, .ref a_kept, .long a__drawX, .ref a_images, .ref a_imageX, .ref a_isMade]))] sz)) 0 0 (va_A [(a_said, .inl (cs 0, 123, .inl a_said_c)), (a_wasSaid, .inl (cs 0, 1720, .inl a_wasSaid_c)), (a, .inr (12, [.ref a_tape, .int a__taped, .int a__rules, .ref a_sign, .ref a_length, .ref a_clause, .ref a_clauses, .ref a_read, .int a__next, .int a__wrong, .int a__number, .int a__text, .int a__made, .int a__deep, .int a__lines, .ref a_open, .int a__opened, .ref a_stack, .int a__top, .ref a_word, .ref a_said, .int a__x, .ref a_worth, .ref a_mate, .ref a_wasSaid, .int a__undone, .int a__boughtNow, .ref a_wayBy, .ref a_wayThen, .int a__walkMost, .int a__walkGoing, .int a__walkSet, .ref a_kept, .long a__drawX, .ref a_images, .ref a_imageX, .ref a_isMade]))] sz) := by
  refine Met.ofW (cc := cX12_undo) (maxL := 2) (ret := (some .int)) (by decide) rfl ?_
  intro p e s m args below meth c s₁ B hml hv
  obtain ⟨rfl, hsz, hP, hD0, hE⟩ := hv
  have hx := B.exec
  have hb := B.bytes
  have hr := B.returns
  have hT : ∀ w ∈ TB, w.before _ s = true := fun w h => atoms_spec (ws := hz_w yX12_undo cX12_undo 2 (some .int)) B.pre w (List.mem_cons_of_mem _ h)
  have hown : s.vm.findClass RX12 = some m.cls := findClass_of_methodNamed B.named
  have hlocks := B.notSynchronized
  clear B
  subst hsz
  have hD := hD0.self (sz := s.heap.size)
  generalize hAe : va_A [(a_said, .inl (cs 0, 123, .inl a_said_c)), (a_wasSaid, .inl (cs 0, 1720, .inl a_wasSaid_c)), (a, .inr (12, [.ref a_tape, .int a__taped, .int a__rules, .ref a_sign, .ref a_length, .ref a_clause, .ref a_clauses, .ref a_read, .int a__next, .int a__wrong, .int a__number, .int a__text, .int a__made, .int a__deep, .int a__lines, .ref a_open, .int a__opened, .ref a_stack, .int a__top, .ref a_word, .ref a_said, .int a__x, .ref a_worth, .ref a_mate, .ref a_wasSaid, .int a__undone, .int a__boughtNow, .ref a_wayBy, .ref a_wayThen, .int a__walkMost, .int a__walkGoing, .int a__walkSet, .ref a_kept, .long a__drawX, .ref a_images, .ref a_imageX, .ref a_isMade]))] s.heap.size = A at hD hE ⊢
  have hA : ∀ q : Nat, s.heap.size ≤ q → A q := fun q h => by rw [← hAe]; exact Or.inr h
  clear hAe hD0
  have hS : va_S A s.heap s.heap [] := va_S.rf
  have hK := hE.1
  have hl := lv_entry ([.ref a]) (n := 2) (Nat.le_of_ble_eq_true rfl)
  rw [lg_entry_eq]
  generalize (lg_sl ([.ref a]) ++ List.replicate (2 - (lg_sl ([.ref a])).length) Slot.unset).toArray = ls at hl ⊢
  have hl : lv_has ls 2 [(0, .ref a)] := hl
  obtain ⟨H, eH⟩ : ∃ z, z = s.heap := ⟨_, rfl⟩
  have hP : va_P D classes [(a_said, .inl (cs 0, 123, .inl a_said_c)), (a_wasSaid, .inl (cs 0, 1720, .inl a_wasSaid_c)), (a, .inr (12, [.ref a_tape, .int a__taped, .int a__rules, .ref a_sign, .ref a_length, .ref a_clause, .ref a_clauses, .ref a_read, .int a__next, .int a__wrong, .int a__number, .int a__text, .int a__made, .int a__deep, .int a__lines, .ref a_open, .int a__opened, .ref a_stack, .int a__top, .ref a_word, .ref a_said, .int a__x, .ref a_worth, .ref a_mate, .ref a_wasSaid, .int a__undone, .int a__boughtNow, .ref a_wayBy, .ref a_wayThen, .int a__walkMost, .int a__walkGoing, .int a__walkSet, .ref a_kept, .long a__drawX, .ref a_images, .ref a_imageX, .ref a_isMade]))] H := by rw [eH]; exact hP
  have hS : va_S A s.heap H [] := by rw [eH]; exact hS
  rw [← eH]
  clear eH
  obtain ⟨locs, el⟩ : ∃ z : List Loc, z = [] := ⟨_, rfl⟩
  rw [← el] at hS ⊢
  clear el
  have z0 : (0 : Int32).toInt = 0 := by decide
  have z1 : (1 : Int32).toInt = 1 := by decide
  have zm1 : (-1 : Int32).toInt = -1 := by decide
  have i_a__lines : 0 ≤ a__lines.toInt ∧ a__lines.toInt ≤ 40 := h_a__lines
  have i_a__made : 0 ≤ a__made.toInt ∧ a__made.toInt ≤ 60 := h_a__made
  have i_a__next : 0 ≤ a__next.toInt ∧ a__next.toInt ≤ 400 := h_a__next
  have i_a__opened : 0 ≤ a__opened.toInt ∧ a__opened.toInt ≤ 400 := h_a__opened
  have i_a__rules : 0 ≤ a__rules.toInt ∧ a__rules.toInt ≤ 6 := h_a__rules
  have i_a__taped : 0 ≤ a__taped.toInt ∧ a__taped.toInt ≤ 400 := h_a__taped
  have i_a__text : 0 ≤ a__text.toInt ∧ a__text.toInt ≤ 6 := h_a__text
  have i_a__top : 0 ≤ a__top.toInt ∧ a__top.toInt ≤ 64 := h_a__top
  have i_a__undone : 0 ≤ a__undone.toInt ∧ a__undone.toInt ≤ 20 := h_a__undone
  have i_a__x : 0 ≤ a__x.toInt ∧ a__x.toInt ≤ 2147483647 := h_a__x
  have K21 : ∀ (n : Nat) (k21_L_1 : Int32) (k21_C_a_said : Nat → Int32) (k21_F_a_25 : Int32), (86 - k21_L_1.toInt + 1).toNat ≤ n → IV 0 19 k21_F_a_25 → IV 0 86 k21_L_1 → (CPF k21_C_a_said a_wasSaid_c (86 * k21_F_a_25.toInt.toNat) k21_L_1.toInt.toNat) → (KPA k21_C_a_said a_said_c k21_L_1.toInt.toNat) → (k21_F_a_25.toInt + 1 = a__undone.toInt) → ∀ (H : Heap) (locs : List Loc), va_P D classes [(a_said, .inl (cs 0, 123, .inl k21_C_a_said)), (a_wasSaid, .inl (cs 0, 1720, .inl a_wasSaid_c)), (a, .inr (12, [.ref a_tape, .int a__taped, .int a__rules, .ref a_sign, .ref a_length, .ref a_clause, .ref a_clauses, .ref a_read, .int a__next, .int a__wrong, .int a__number, .int a__text, .int a__made, .int a__deep, .int a__lines, .ref a_open, .int a__opened, .ref a_stack, .int a__top, .ref a_word, .ref a_said, .int a__x, .ref a_worth, .ref a_mate, .ref a_wasSaid, .int k21_F_a_25, .int a__boughtNow, .ref a_wayBy, .ref a_wayThen, .int a__walkMost, .int a__walkGoing, .int a__walkSet, .ref a_kept, .long a__drawX, .ref a_images, .ref a_imageX, .ref a_isMade]))] H → va_D A [(a_said, .inl (cs 0, 123, .inl k21_C_a_said)), (a_wasSaid, .inl (cs 0, 1720, .inl a_wasSaid_c)), (a, .inr (12, [.ref a_tape, .int a__taped, .int a__rules, .ref a_sign, .ref a_length, .ref a_clause, .ref a_clauses, .ref a_read, .int a__next, .int a__wrong, .int a__number, .int a__text, .int a__made, .int a__deep, .int a__lines, .ref a_open, .int a__opened, .ref a_stack, .int a__top, .ref a_word, .ref a_said, .int a__x, .ref a_worth, .ref a_mate, .ref a_wasSaid, .int k21_F_a_25, .int a__boughtNow, .ref a_wayBy, .ref a_wayThen, .int a__walkMost, .int a__walkGoing, .int a__walkSet, .ref a_kept, .long a__drawX, .ref a_images, .ref a_imageX, .ref a_isMade]))] → va_S A s.heap H locs → ∀ ls : Array Slot, lv_has ls 2 [(1, .int k21_L_1), (0, .ref a)] → W p l e (headSpec (hz_w yX12_undo cX12_undo 2 (some .int)) ({ frames := 0, cells := 0, slots := 0, locals := 0 })).room s m [.ref a].toArray below meth c H locs 0 0 (MQ below (va_Qi (fun (r : Int32) (u : (Nat → Int32) × (Nat → Nat → Int32)) => (r = (-1) ∧ IV 0 0 a__undone ∧ IV 0 0 (u.1 1) ∧ (BS (u.2 0) 200) ∧ (TR (u.2 0)) ∧ (((u.2 0) 3).toInt ≤ 99) ∧ (WSN a_wasSaid_c (u.1 1).toInt)) ∨ (IV 0 19 r ∧ IV 0 19 (u.1 1) ∧ (BS (u.2 0) 200) ∧ (TR (u.2 0)) ∧ (((u.2 0) 3).toInt ≤ 99) ∧ (WSN a_wasSaid_c (u.1 1).toInt))) (fun u t => va_P D classes [(a_said, .inl (cs 0, 123, .inl (u.2 0))), (a_wasSaid, .inl (cs 0, 1720, .inl a_wasSaid_c)), (a, .inr (12, [.ref a_tape, .int a__taped, .int a__rules, .ref a_sign, .ref a_length, .ref a_clause, .ref a_clauses, .ref a_read, .int a__next, .int a__wrong, .int a__number, .int a__text, .int a__made, .int a__deep, .int a__lines, .ref a_open, .int a__opened, .ref a_stack, .int a__top, .ref a_word, .ref a_said, .int a__x, .ref a_worth, .ref a_mate, .ref a_wasSaid, .int (u.1 1), .int a__boughtNow, .ref a_wayBy, .ref a_wayThen, .int a__walkMost, .int a__walkGoing, .int a__walkSet, .ref a_kept, .long a__drawX, .ref a_images, .ref a_imageX, .ref a_isMade]))] t.heap ∧ va_D A [(a_said, .inl (cs 0, 123, .inl (u.2 0))), (a_wasSaid, .inl (cs 0, 1720, .inl a_wasSaid_c)), (a, .inr (12, [.ref a_tape, .int a__taped, .int a__rules, .ref a_sign, .ref a_length, .ref a_clause, .ref a_clauses, .ref a_read, .int a__next, .int a__wrong, .int a__number, .int a__text, .int a__made, .int a__deep, .int a__lines, .ref a_open, .int a__opened, .ref a_stack, .int a__top, .ref a_word, .ref a_said, .int a__x, .ref a_worth, .ref a_mate, .ref a_wasSaid, .int (u.1 1), .int a__boughtNow, .ref a_wayBy, .ref a_wayThen, .int a__walkMost, .int a__walkGoing, .int a__walkSet, .ref a_kept, .long a__drawX, .ref a_images, .ref a_imageX, .ref a_isMade]))]) A) [.ref a].toArray s 0 0 A) (F0 m 21 ls []) := by
    intro n
    induction n with
    | zero =>
      intro k21_L_1 k21_C_a_said k21_F_a_25 hn q21_9 q21_10 x21_0 x21_1 x21_2 H locs hP hD hS ls hl
      exact absurd hn (by unfold IV at q21_10; omega)
    | succ n ih21 =>
      intro k21_L_1 k21_C_a_said k21_F_a_25 hn q21_9 q21_10 x21_0 x21_1 x21_2 H locs hP hD hS ls hl
      have i_a__lines : 0 ≤ a__lines.toInt ∧ a__lines.toInt ≤ 40 := h_a__lines
      have i_a__made : 0 ≤ a__made.toInt ∧ a__made.toInt ≤ 60 := h_a__made
      have i_a__next : 0 ≤ a__next.toInt ∧ a__next.toInt ≤ 400 := h_a__next
      have i_a__opened : 0 ≤ a__opened.toInt ∧ a__opened.toInt ≤ 400 := h_a__opened
      have i_a__rules : 0 ≤ a__rules.toInt ∧ a__rules.toInt ≤ 6 := h_a__rules
      have i_a__taped : 0 ≤ a__taped.toInt ∧ a__taped.toInt ≤ 400 := h_a__taped
      have i_a__text : 0 ≤ a__text.toInt ∧ a__text.toInt ≤ 6 := h_a__text
      have i_a__top : 0 ≤ a__top.toInt ∧ a__top.toInt ≤ 64 := h_a__top
      have i_a__x : 0 ≤ a__x.toInt ∧ a__x.toInt ≤ 2147483647 := h_a__x
      have i_k21_F_a_25 : 0 ≤ k21_F_a_25.toInt ∧ k21_F_a_25.toInt ≤ 19 := q21_9
      have i_k21_L_1 : 0 ≤ k21_L_1.toInt ∧ k21_L_1.toInt ≤ 86 := q21_10
      refine lv_iload_n hx hb dX12_undo_21 rfl (lv_at hl 0 rfl) ?_
      refine lv_bipush (v := 86) hx hb dX12_undo_22 (by decide) ?_
      refine lv_icmp_ge (tgt := 53) hx hb dX12_undo_24 (by decide) (fun c1 => ?_) (fun c1 => ?_)
      · have t2 : k21_L_1.toInt ≥ 86 := lin_ge c1 rfl (by decide)
        have h3 : IV 86 86 k21_L_1 := iv_le2 c1 (iv_c (a := 86) (b := 86) (by decide)) q21_10 (by decide)
        have ii4 : 86 ≤ k21_L_1.toInt ∧ k21_L_1.toInt ≤ 86 := h3
        have fa5 : BS k21_C_a_said 200 := (bs_hi (bs_congr (hf3 k21_F_a_25.toInt.toNat (by omega)) (fun j hj => x21_0 j (by omega))) (by decide))
        have fa6 : TR k21_C_a_said := tr_congr hf1 (fun j hj => x21_1 j (by omega))
        have h3 := (bs_congr (hf3 k21_F_a_25.toInt.toNat (by omega)) (fun j hj => x21_0 j (by omega)) : BS k21_C_a_said 99).2.2.2.1.2
        refine lv_aload_n hx hb dX12_undo_53 rfl (lv_at hl 1 rfl) ?_
        refine va_get (D := D) (ci := 12) (v := .int k21_F_a_25) (C := RX12) (T := TX12) (N := 37) hx hb hT i_X12 hown hK hP 2 rfl rfl 25 (by decide) (hT _ q_205) (fun _ h9 => h9) rfl dX12_undo_54 ?_
        refine W.widen (k := 0) (n := 0) (Nat.le_of_ble_eq_true rfl) (Nat.le_of_ble_eq_true rfl) ?_
        have g7 : (k21_C_a_said 3).toInt ≤ 99 := (by omega)
        have g8 : WSN a_wasSaid_c k21_F_a_25.toInt := (wsn_le hf3 (by omega))
        exact W.iret (v := k21_F_a_25) hx hb hr (fun t ht hW => ⟨⟨k21_F_a_25, (fun k => match k with | 0 => 0 | 1 => k21_F_a_25 | _ => 0, fun k => match k with | 0 => k21_C_a_said | _ => fun _ => 0), rfl, (Or.inr ((⟨q21_9, q21_9, fa5, fa6, g7, g8⟩))), by rw [ht]; exact hP.sub [0, 1, 2] rfl, hD.sub [0, 1, 2] (by decide) rfl⟩, hS.F ht⟩) hS.2.2 dX12_undo_57
      · have t9 : k21_L_1.toInt < 86 := lin_geN c1 rfl (by decide)
        have h10 : IV 0 85 k21_L_1 := iv_lt1 (Int32.not_le.mp c1) q21_10 (iv_c (a := 86) (b := 86) (by decide)) (by decide)
        have ii11 : 0 ≤ k21_L_1.toInt ∧ k21_L_1.toInt ≤ 85 := h10
        refine lv_aload_n hx hb dX12_undo_27 rfl (lv_at hl 1 rfl) ?_
        refine va_get (D := D) (ci := 12) (v := .ref a_said) (C := RX12) (T := TX12) (N := 37) hx hb hT i_X12 hown hK hP 2 rfl rfl 20 (by decide) (hT _ q_185) (fun _ h9 => h9) rfl dX12_undo_28 ?_
        refine lv_iload_n hx hb dX12_undo_31 rfl (lv_at hl 0 rfl) ?_
        refine lv_aload_n hx hb dX12_undo_32 rfl (lv_at hl 1 rfl) ?_
        refine va_get (D := D) (ci := 12) (v := .ref a_wasSaid) (C := RX12) (T := TX12) (N := 37) hx hb hT i_X12 hown hK hP 2 rfl rfl 24 (by decide) (hT _ q_188) (fun _ h9 => h9) rfl dX12_undo_33 ?_
        refine lv_bipush (v := 86) hx hb dX12_undo_36 (by decide) ?_
        refine lv_aload_n hx hb dX12_undo_38 rfl (lv_at hl 1 rfl) ?_
        refine va_get (D := D) (ci := 12) (v := .int k21_F_a_25) (C := RX12) (T := TX12) (N := 37) hx hb hT i_X12 hown hK hP 2 rfl rfl 25 (by decide) (hT _ q_205) (fun _ h9 => h9) rfl dX12_undo_39 ?_
        refine lv_imul hx hb dX12_undo_42 ?_
        refine lv_topi (fun v12 ev12 => ?_)
        have hv12 : IV 0 1634 v12 := iv_mul ev12 (iv_c (a := 86) (b := 86) (by decide)) q21_9 (by decide) (by decide) (by decide) (by decide)
        have ii13 : 0 ≤ v12.toInt ∧ v12.toInt ≤ 1634 := hv12
        have lv12 : v12.toInt = 86 * k21_F_a_25.toInt := lin_mul ev12 (iv_c (a := 86) (b := 86) (by decide)) q21_9 (by decide) rfl (by decide) (by decide) (by decide) (by decide)
        refine lv_iload_n hx hb dX12_undo_43 rfl (lv_at hl 0 rfl) ?_
        refine lv_iadd hx hb dX12_undo_44 ?_
        refine lv_topi (fun v14 ev14 => ?_)
        have hv14 : IV 0 1719 v14 := iv_add ev14 hv12 h10 (by decide) (by decide)
        have ii15 : 0 ≤ v14.toInt ∧ v14.toInt ≤ 1719 := hv14
        have lv14 : v14.toInt = v12.toInt + k21_L_1.toInt := lin_add ev14 hv12 h10 rfl rfl (by decide) (by decide)
        refine va_iald hx hb hK hP 1 0 rfl rfl (iv_v hv14 (by decide) (by decide)) dX12_undo_45 ?_
        refine lv_topi (fun v16 ev16 => ?_)
        have lv16 : v16.toInt = (a_wasSaid_c (Int32.toNatClampNeg v14)).toInt := by rw [ev16]
        refine va_iast hx hb hK hP hD hS 0 0 rfl rfl (iv_v h10 (by decide) (by decide)) dX12_undo_46 (fun H locs hP hD hS => ?_)
        have hP : va_P D classes [(a_said, .inl (cs 0, 123, .inl (upd k21_C_a_said (Int32.toNatClampNeg k21_L_1) v16))), (a_wasSaid, .inl (cs 0, 1720, .inl a_wasSaid_c)), (a, .inr (12, [.ref a_tape, .int a__taped, .int a__rules, .ref a_sign, .ref a_length, .ref a_clause, .ref a_clauses, .ref a_read, .int a__next, .int a__wrong, .int a__number, .int a__text, .int a__made, .int a__deep, .int a__lines, .ref a_open, .int a__opened, .ref a_stack, .int a__top, .ref a_word, .ref a_said, .int a__x, .ref a_worth, .ref a_mate, .ref a_wasSaid, .int k21_F_a_25, .int a__boughtNow, .ref a_wayBy, .ref a_wayThen, .int a__walkMost, .int a__walkGoing, .int a__walkSet, .ref a_kept, .long a__drawX, .ref a_images, .ref a_imageX, .ref a_isMade]))] H := hP
        have hD : va_D A [(a_said, .inl (cs 0, 123, .inl (upd k21_C_a_said (Int32.toNatClampNeg k21_L_1) v16))), (a_wasSaid, .inl (cs 0, 1720, .inl a_wasSaid_c)), (a, .inr (12, [.ref a_tape, .int a__taped, .int a__rules, .ref a_sign, .ref a_length, .ref a_clause, .ref a_clauses, .ref a_read, .int a__next, .int a__wrong, .int a__number, .int a__text, .int a__made, .int a__deep, .int a__lines, .ref a_open, .int a__opened, .ref a_stack, .int a__top, .ref a_word, .ref a_said, .int a__x, .ref a_worth, .ref a_mate, .ref a_wasSaid, .int k21_F_a_25, .int a__boughtNow, .ref a_wayBy, .ref a_wayThen, .int a__walkMost, .int a__walkGoing, .int a__walkSet, .ref a_kept, .long a__drawX, .ref a_images, .ref a_imageX, .ref a_isMade]))] := hD
        obtain ⟨f17, uf17⟩ : ∃ z, z = upd k21_C_a_said (Int32.toNatClampNeg k21_L_1) v16 := ⟨_, rfl⟩
        rw [← uf17] at hP hD
        have wf17 : (f17 (Int32.toNatClampNeg k21_L_1)).toInt = v16.toInt := lin_us uf17 rfl
        obtain ⟨v18, ev18⟩ : ∃ z : Int32, z = k21_L_1 + 1 := ⟨_, rfl⟩
        have hv18 : IV 1 86 v18 := iv_add ev18 h10 (iv_c (a := 1) (b := 1) (by decide)) (by decide) (by decide)
        have dv18 : v18.toInt = k21_L_1.toInt + 1 := iv_addE ev18 h10 (iv_c (a := 1) (b := 1) (by decide)) (by decide) (by decide) (by decide)
        refine lv_iinc (v := v18) (lv' := [(1, .int v18), (0, .ref a)]) hx hb dX12_undo_47 hl (k := 0) rfl (by rw [ev18]; rfl) (by decide) rfl (fun ls hl => ?_)
        refine lv_goto (tgt := 21) hx hb dX12_undo_50 (by decide) ?_
        exact ih21 v18 f17 k21_F_a_25 (by have h9 := h10; unfold IV at h9; have := dv18; omega) q21_9 (iv_w hv18 (by decide) (by decide)) (cpf_step x21_0 uf17 ev16 (by omega) (by omega) (by omega)) (kpa_step x21_1 uf17 (by omega) (by omega)) x21_2 H locs (hP.sub (ws' := [(a_said, .inl (cs 0, 123, .inl f17)), (a_wasSaid, .inl (cs 0, 1720, .inl a_wasSaid_c)), (a, .inr (12, [.ref a_tape, .int a__taped, .int a__rules, .ref a_sign, .ref a_length, .ref a_clause, .ref a_clauses, .ref a_read, .int a__next, .int a__wrong, .int a__number, .int a__text, .int a__made, .int a__deep, .int a__lines, .ref a_open, .int a__opened, .ref a_stack, .int a__top, .ref a_word, .ref a_said, .int a__x, .ref a_worth, .ref a_mate, .ref a_wasSaid, .int k21_F_a_25, .int a__boughtNow, .ref a_wayBy, .ref a_wayThen, .int a__walkMost, .int a__walkGoing, .int a__walkSet, .ref a_kept, .long a__drawX, .ref a_images, .ref a_imageX, .ref a_isMade]))]) [0, 1, 2] rfl) (hD.sub (ws' := [(a_said, .inl (cs 0, 123, .inl f17)), (a_wasSaid, .inl (cs 0, 1720, .inl a_wasSaid_c)), (a, .inr (12, [.ref a_tape, .int a__taped, .int a__rules, .ref a_sign, .ref a_length, .ref a_clause, .ref a_clauses, .ref a_read, .int a__next, .int a__wrong, .int a__number, .int a__text, .int a__made, .int a__deep, .int a__lines, .ref a_open, .int a__opened, .ref a_stack, .int a__top, .ref a_word, .ref a_said, .int a__x, .ref a_worth, .ref a_mate, .ref a_wasSaid, .int k21_F_a_25, .int a__boughtNow, .ref a_wayBy, .ref a_wayThen, .int a__walkMost, .int a__walkGoing, .int a__walkSet, .ref a_kept, .long a__drawX, .ref a_images, .ref a_imageX, .ref a_isMade]))]) [0, 1, 2] (by decide) rfl) hS ls (lv_sub hl [0, 1] rfl)
  refine lv_aload_n hx hb dX12_undo_0 rfl (lv_at hl 0 rfl) ?_
  refine va_get (D := D) (ci := 12) (v := .int a__undone) (C := RX12) (T := TX12) (N := 37) hx hb hT i_X12 hown hK hP 2 rfl rfl 25 (by decide) (hT _ q_205) (fun _ h9 => h9) rfl dX12_undo_1 ?_
  refine lv_if_ne (tgt := 9) hx hb dX12_undo_4 (by decide) (fun c19 => ?_) (fun c19 => ?_)
  · have t20 : a__undone.toInt ≠ 0 := lin_ne c19 rfl (by decide)
    have h21 : IV 1 20 a__undone := iv_neL c19 h_a__undone (by decide)
    have ii22 : 1 ≤ a__undone.toInt ∧ a__undone.toInt ≤ 20 := h21
    refine lv_aload_n hx hb dX12_undo_9 rfl (lv_at hl 0 rfl) ?_
    refine lv_dup hx hb dX12_undo_10 rfl ?_
    refine va_get (D := D) (ci := 12) (v := .int a__undone) (C := RX12) (T := TX12) (N := 37) hx hb hT i_X12 hown hK hP 2 rfl rfl 25 (by decide) (hT _ q_205) (fun _ h9 => h9) rfl dX12_undo_11 ?_
    refine lv_iconst (v := 1) hx hb dX12_undo_14 (by decide) ?_
    refine lv_isub hx hb dX12_undo_15 ?_
    refine lv_topi (fun v23 ev23 => ?_)
    have hv23 : IV 0 19 v23 := iv_sub ev23 h21 (iv_c (a := 1) (b := 1) (by decide)) (by decide) (by decide)
    have ii24 : 0 ≤ v23.toInt ∧ v23.toInt ≤ 19 := hv23
    have dv23 : v23.toInt = a__undone.toInt + (-1) := iv_subE ev23 h21 (iv_c (a := 1) (b := 1) (by decide)) (by decide) (by decide) (by decide)
    have lv23 : v23.toInt = a__undone.toInt - 1 := lin_sub ev23 h21 (iv_c (a := 1) (b := 1) (by decide)) rfl (by decide) (by decide) (by decide)
    refine va_put (D := D) (ci := 12) (v := .int v23) (ty := .int) (C := RX12) (T := TX12) (N := 37) hx hb hT i_X12 tyX12 tyX12_ok nmX12 hown hK hP hD hS 2 rfl rfl 25 (by decide) (hT _ q_205) (fun _ h9 => h9) rfl (by decide +kernel) rfl rfl (Nat.le_of_ble_eq_true rfl) dX12_undo_16 (fun H locs hP hD hS => ?_)
    have hP : va_P D classes [(a_said, .inl (cs 0, 123, .inl a_said_c)), (a_wasSaid, .inl (cs 0, 1720, .inl a_wasSaid_c)), (a, .inr (12, [.ref a_tape, .int a__taped, .int a__rules, .ref a_sign, .ref a_length, .ref a_clause, .ref a_clauses, .ref a_read, .int a__next, .int a__wrong, .int a__number, .int a__text, .int a__made, .int a__deep, .int a__lines, .ref a_open, .int a__opened, .ref a_stack, .int a__top, .ref a_word, .ref a_said, .int a__x, .ref a_worth, .ref a_mate, .ref a_wasSaid, .int v23, .int a__boughtNow, .ref a_wayBy, .ref a_wayThen, .int a__walkMost, .int a__walkGoing, .int a__walkSet, .ref a_kept, .long a__drawX, .ref a_images, .ref a_imageX, .ref a_isMade]))] H := hP
    have hD : va_D A [(a_said, .inl (cs 0, 123, .inl a_said_c)), (a_wasSaid, .inl (cs 0, 1720, .inl a_wasSaid_c)), (a, .inr (12, [.ref a_tape, .int a__taped, .int a__rules, .ref a_sign, .ref a_length, .ref a_clause, .ref a_clauses, .ref a_read, .int a__next, .int a__wrong, .int a__number, .int a__text, .int a__made, .int a__deep, .int a__lines, .ref a_open, .int a__opened, .ref a_stack, .int a__top, .ref a_word, .ref a_said, .int a__x, .ref a_worth, .ref a_mate, .ref a_wasSaid, .int v23, .int a__boughtNow, .ref a_wayBy, .ref a_wayThen, .int a__walkMost, .int a__walkGoing, .int a__walkSet, .ref a_kept, .long a__drawX, .ref a_images, .ref a_imageX, .ref a_isMade]))] := hD
    refine lv_iconst (v := 0) hx hb dX12_undo_19 (by decide) ?_
    refine lv_istore_n (lv' := [(1, .int 0), (0, .ref a)]) hx hb dX12_undo_20 rfl hl (by decide) rfl (fun ls hl => ?_)
    exact K21 _ ((0 : Int32)) a_said_c v23 (Nat.le_refl _) hv23 (iv_c (by decide)) (cpf_0) (kpa_0) (by omega) H locs (hP.sub (ws' := [(a_said, .inl (cs 0, 123, .inl a_said_c)), (a_wasSaid, .inl (cs 0, 1720, .inl a_wasSaid_c)), (a, .inr (12, [.ref a_tape, .int a__taped, .int a__rules, .ref a_sign, .ref a_length, .ref a_clause, .ref a_clauses, .ref a_read, .int a__next, .int a__wrong, .int a__number, .int a__text, .int a__made, .int a__deep, .int a__lines, .ref a_open, .int a__opened, .ref a_stack, .int a__top, .ref a_word, .ref a_said, .int a__x, .ref a_worth, .ref a_mate, .ref a_wasSaid, .int v23, .int a__boughtNow, .ref a_wayBy, .ref a_wayThen, .int a__walkMost, .int a__walkGoing, .int a__walkSet, .ref a_kept, .long a__drawX, .ref a_images, .ref a_imageX, .ref a_isMade]))]) [0, 1, 2] rfl) (hD.sub (ws' := [(a_said, .inl (cs 0, 123, .inl a_said_c)), (a_wasSaid, .inl (cs 0, 1720, .inl a_wasSaid_c)), (a, .inr (12, [.ref a_tape, .int a__taped, .int a__rules, .ref a_sign, .ref a_length, .ref a_clause, .ref a_clauses, .ref a_read, .int a__next, .int a__wrong, .int a__number, .int a__text, .int a__made, .int a__deep, .int a__lines, .ref a_open, .int a__opened, .ref a_stack, .int a__top, .ref a_word, .ref a_said, .int a__x, .ref a_worth, .ref a_mate, .ref a_wasSaid, .int v23, .int a__boughtNow, .ref a_wayBy, .ref a_wayThen, .int a__walkMost, .int a__walkGoing, .int a__walkSet, .ref a_kept, .long a__drawX, .ref a_images, .ref a_imageX, .ref a_isMade]))]) [0, 1, 2] (by decide) rfl) hS ls (lv_sub hl [0, 1] rfl)
  · have t25 : a__undone.toInt = 0 := lin_eqN c19 rfl (by decide)
    have h26 : IV 0 0 a__undone := iv_eq1 c19 h_a__undone (iv_c (a := 0) (b := 0) (by decide)) (by decide) (by decide)
    have ii27 : 0 ≤ a__undone.toInt ∧ a__undone.toInt ≤ 0 := h26
    refine lv_iconst (v := (-1)) hx hb dX12_undo_7 (by decide) ?_
    refine W.widen (k := 0) (n := 0) (Nat.le_of_ble_eq_true rfl) (Nat.le_of_ble_eq_true rfl) ?_
    exact W.iret (v := (-1)) hx hb hr (fun t ht hW => ⟨⟨(-1), (fun k => match k with | 0 => 0 | 1 => a__undone | _ => 0, fun k => match k with | 0 => a_said_c | _ => fun _ => 0), rfl, (Or.inl (⟨rfl, h26, h26, hf0, hf1, hf2, hf3⟩)), by rw [ht]; exact hP.sub [0, 1, 2] rfl, hD.sub [0, 1, 2] (by decide) rfl⟩, hS.F ht⟩) hS.2.2 dX12_undo_8
theorem dX12_goes_0 : decode cX12_goes 0 = .ok (.bipush 70, 2) := by decide +kernel
theorem dX12_goes_2 : decode cX12_goes 2 = .ok (.iconst 4, 1) := by decide +kernel
theorem dX12_goes_3 : decode cX12_goes 3 = .ok (.iload_n 1, 1) := by decide +kernel
theorem dX12_goes_4 : decode cX12_goes 4 = .ok (.imul, 1) := by decide +kernel
theorem dX12_goes_5 : decode cX12_goes 5 = .ok (.iadd, 1) := by decide +kernel
theorem dX12_goes_6 : decode cX12_goes 6 = .ok (.iconst 1, 1) := by decide +kernel
theorem dX12_goes_7 : decode cX12_goes 7 = .ok (.iadd, 1) := by decide +kernel
theorem dX12_goes_8 : decode cX12_goes 8 = .ok (.istore_n 3, 1) := by decide +kernel
theorem dX12_goes_9 : decode cX12_goes 9 = .ok (.aload_n 0, 1) := by decide +kernel
theorem dX12_goes_10 : decode cX12_goes 10 = .ok (.getfield 39, 3) := by decide +kernel
theorem dX12_goes_13 : decode cX12_goes 13 = .ok (.iload_n 3, 1) := by decide +kernel
theorem dX12_goes_14 : decode cX12_goes 14 = .ok (.aload_n 0, 1) := by decide +kernel
theorem dX12_goes_15 : decode cX12_goes 15 = .ok (.getfield 39, 3) := by decide +kernel
theorem dX12_goes_18 : decode cX12_goes 18 = .ok (.iload_n 3, 1) := by decide +kernel
theorem dX12_goes_19 : decode cX12_goes 19 = .ok (.iaload, 1) := by decide +kernel
theorem dX12_goes_20 : decode cX12_goes 20 = .ok (.iload_n 2, 1) := by decide +kernel
theorem dX12_goes_21 : decode cX12_goes 21 = .ok (.iadd, 1) := by decide +kernel
theorem dX12_goes_22 : decode cX12_goes 22 = .ok (.aload_n 0, 1) := by decide +kernel
theorem dX12_goes_23 : decode cX12_goes 23 = .ok (.getfield 39, 3) := by decide +kernel
theorem dX12_goes_26 : decode cX12_goes 26 = .ok (.iconst 0, 1) := by decide +kernel
theorem dX12_goes_27 : decode cX12_goes 27 = .ok (.iaload, 1) := by decide +kernel
theorem dX12_goes_28 : decode cX12_goes 28 = .ok (.iadd, 1) := by decide +kernel
theorem dX12_goes_29 : decode cX12_goes 29 = .ok (.aload_n 0, 1) := by decide +kernel
theorem dX12_goes_30 : decode cX12_goes 30 = .ok (.getfield 39, 3) := by decide +kernel
theorem dX12_goes_33 : decode cX12_goes 33 = .ok (.iconst 0, 1) := by decide +kernel
theorem dX12_goes_34 : decode cX12_goes 34 = .ok (.iaload, 1) := by decide +kernel
theorem dX12_goes_35 : decode cX12_goes 35 = .ok (.irem, 1) := by decide +kernel
theorem dX12_goes_36 : decode cX12_goes 36 = .ok (.iastore, 1) := by decide +kernel
theorem dX12_goes_37 : decode cX12_goes 37 = .ok (.return_, 1) := by decide +kernel
set_option maxHeartbeats 4000000 in
set_option maxRecDepth 100000 in
theorem c_X12_goes (l : Launch) (D : va_G) (cs : Nat → ClassId) (kK kV : Nat → Nat) (a : Nat) (p0 : Int32) (p1 : Int32) (a_said : Nat) (a_said_c : Nat → Int32) (a_tape : Nat) (a__taped : Int32) (a__rules : Int32) (a_sign : Nat) (a_length : Nat) (a_clause : Nat) (a_clauses : Nat) (a_read : Nat) (a__next : Int32) (a__wrong : Int32) (a__number : Int32) (a__text : Int32) (a__made : Int32) (a__deep : Int32) (a__lines : Int32) (a_open : Nat) (a__opened : Int32) (a_stack : Nat) (a__top : Int32) (a_word : Nat) (a__x : Int32) (a_worth : Nat) (a_mate : Nat) (a_wasSaid : Nat) (a__undone : Int32) (a__boughtNow : Int32) (a_wayBy : Nat) (a_wayThen : Nat) (a__walkMost : Int32) (a__walkGoing : Int32) (a__walkSet : Int32) (a_kept : Nat) (a__drawX : Int64) (a_images : Nat) (a_imageX : Nat) (a_isMade : Nat) (h_p0 : IV 0 3 p0) (h_p1 : IV (-1) 1 p1) (h_a__taped : IV 0 400 a__taped) (h_a__rules : IV 0 6 a__rules) (h_a__next : IV 0 400 a__next) (h_a__text : IV 0 6 a__text) (h_a__made : IV 0 60 a__made) (h_a__lines : IV 0 40 a__lines) (h_a__opened : IV 0 400 a__opened) (h_a__top : IV 0 64 a__top) (h_a__x : IV 0 2147483647 a__x) (h_a__undone : IV 0 20 a__undone) (hf0 : BS a_said_c 200) (hf1 : TR a_said_c) (hf2 : p0.toInt < (a_said_c 2).toInt) (sz : Nat) : Met l yX12_goes (hz_w yX12_goes cX12_goes 4 none) ({ frames := 0, cells := 0, slots := 0, locals := 0 }) (va_Pc [.ref a, .int p0, .int p1] (hz_C D cs kK kV sz [(a_said, .inl (cs 0, 123, .inl a_said_c)), (a, .inr (12, [.ref a_tape, .int a__taped, .int a__rules, .ref a_sign, .ref a_length, .ref a_clause, .ref a_clauses, .ref a_read, .int a__next, .int a__wrong, .int a__number, .int a__text, .int a__made, .int a__deep, .int a__lines, .ref a_open, .int a__opened, .ref a_stack, .int a__top, .ref a_word, .ref a_said, .int a__x, .ref a_worth, .ref a_mate, .ref a_wasSaid, .int a__undone, .int a__boughtNow, .ref a_wayBy, .ref a_wayThen, .int a__walkMost, .int a__walkGoing, .int a__walkSet, .ref a_kept, .long a__drawX, .ref a_images, .ref a_imageX, .ref a_isMade]))])) (va_Qv (fun (u : (Nat → Int32) × (Nat → Nat → Int32)) => ((BS (u.2 0) 200) ∧ (TR (u.2 0)) ∧ (((u.2 0) 3).toInt = (a_said_c 3).toInt) ∧ (((u.2 0) 0).toInt = (a_said_c 0).toInt) ∧ (((u.2 0) 1).toInt = (a_said_c 1).toInt) ∧ (((u.2 0) 2).toInt = (a_said_c 2).toInt))) (fun u t => va_P D classes [(a_said, .inl (cs 0, 123, .inl (u.2 0))), (a, .inr (12, [.ref a_tape, .int a__taped, .int a__rules, .ref a_sign, .ref a_length, .ref a_clause, .ref a_clauses, .ref a_read, .int a__next, .int a__wrong, .int a__number, .int a__text, .int a__made, .int a__deep, .int a__lines, .ref a_open, .int a__opened, .ref a_stack, .int a__top, .ref a_word, .ref a_said, .int a__x, .ref a_worth, .ref a_mate, .ref a_wasSaid, .int a__undone, .int a__boughtNow, .ref a_wayBy, .ref a_wayThen, .int a__walkMost, .int a__walkGoing, .int a__walkSet, .ref a_kept, .long a__drawX, .ref a_images, .ref a_imageX, .ref a_isMade]))] t.heap ∧ va_D (va_A [(a_said, .inl (cs 0, 123, .inl a_said_c)), (a, .inr (12, [.ref a_tape, .int a__taped, .int a__rules, .ref a_sign, .ref a_length, .ref a_clause, .ref a_clauses, .ref a_read, .int a__next, .int a__wrong, .int a__number, .int a__text, .int a__made, .int a__deep, .int a__lines, .ref a_open, .int a__opened, .ref a_stack, .int a__top, .ref a_word, .ref a_said, .int a__x, .ref a_worth, .ref a_mate, .ref a_wasSaid, .int a__undone, .int a__boughtNow, .ref a_wayBy, .ref a_wayThen, .int a__walkMost, .int a__walkGoing, .int a__walkSet, .ref a_kept, .long a__drawX, .ref a_images, .ref a_imageX, .ref a_isMade]))] sz) [(a_said, .inl (cs 0, 123, .inl (u.2 0))), (a, .inr (12, [.ref a_tape, .int a__taped, .int a__rules, .ref a_sign, .ref a_length, .ref a_clause, .ref a_clauses, .ref a_read, .int a__next, .int a__wrong, .int a__number, .int a__text, .int a__made, .int a__deep, .int a__lines, .ref a_open, .int a__opened, .ref a_stack, .int a__top, .ref a_word, .ref a_said, .int a__x, .ref a_worth, .ref a_mate, .ref a_wasSaid, .int a__undone, .int a__boughtNow, .ref a_wayBy, .ref a_wayThen, .int a__walkMost, .int a__walkGoing, .int a__walkSet, .ref a_kept, .long a__drawX, .ref a_images, .ref a_imageX, .ref a_isMade]))]) (va_A [(a_said, .inl (cs 0, 123, .inl a_said_c)), (a, .inr (12, [.ref a_tape, .int a__taped, .int a__rules, .ref a_sign, .ref a_length, .ref a_clause, .ref a_clauses, .ref a_read, .int a__next, .int a__wrong, .int a__number, .int a__text, .int a__made, .int a__deep, .int a__lines, .ref a_open, .int a__opened, .ref a_stack, .int a__top, .ref a_word, .ref a_said, .int a__x, .ref a_worth, .ref a_mate, .ref a_wasSaid, .int a__undone, .int a__boughtNow, .ref a_wayBy, .ref a_wayThen, .int a__walkMost, .int a__walkGoing, .int a__walkSet, .ref a_kept, .long a__drawX, .ref a_images, .ref a_imageX, .ref a_isMade]))] sz)) 0 0 (va_A [(a_said, .inl (cs 0, 123, .inl a_said_c)), (a, .inr (12, [.ref a_tape, .int a__taped, .int a__rules, .ref a_sign, .ref a_length, .ref a_clause, .ref a_clauses, .ref a_read, .int a__next, .int a__wrong, .int a__number, .int a__text, .int a__made, .int a__deep, .int a__lines, .ref a_open, .int a__opened, .ref a_stack, .int a__top, .ref a_word, .ref a_said, .int a__x, .ref a_worth, .ref a_mate, .ref a_wasSaid, .int a__undone, .int a__boughtNow, .ref a_wayBy, .ref a_wayThen, .int a__walkMost, .int a__walkGoing, .int a__walkSet, .ref a_kept, .long a__drawX, .ref a_images, .ref a_imageX, .ref a_isMade]))] sz) := by
  refine Met.ofW (cc := cX12_goes) (maxL := 4) (ret := none) (by decide) rfl ?_
  intro p e s m args below meth c s₁ B hml hv
  obtain ⟨rfl, hsz, hP, hD0, hE⟩ := hv
  have hx := B.exec
  have hb := B.bytes
  have hr := B.returns
  have hT : ∀ w ∈ TB, w.before _ s = true := fun w h => atoms_spec (ws := hz_w yX12_goes cX12_goes 4 none) B.pre w (List.mem_cons_of_mem _ h)
  have hown : s.vm.findClass RX12 = some m.cls := findClass_of_methodNamed B.named
  have hlocks := B.notSynchronized
  clear B
  subst hsz
  have hD := hD0.self (sz := s.heap.size)
  generalize hAe : va_A [(a_said, .inl (cs 0, 123, .inl a_said_c)), (a, .inr (12, [.ref a_tape, .int a__taped, .int a__rules, .ref a_sign, .ref a_length, .ref a_clause, .ref a_clauses, .ref a_read, .int a__next, .int a__wrong, .int a__number, .int a__text, .int a__made, .int a__deep, .int a__lines, .ref a_open, .int a__opened, .ref a_stack, .int a__top, .ref a_word, .ref a_said, .int a__x, .ref a_worth, .ref a_mate, .ref a_wasSaid, .int a__undone, .int a__boughtNow, .ref a_wayBy, .ref a_wayThen, .int a__walkMost, .int a__walkGoing, .int a__walkSet, .ref a_kept, .long a__drawX, .ref a_images, .ref a_imageX, .ref a_isMade]))] s.heap.size = A at hD hE ⊢
  have hA : ∀ q : Nat, s.heap.size ≤ q → A q := fun q h => by rw [← hAe]; exact Or.inr h
  clear hAe hD0
  have hS : va_S A s.heap s.heap [] := va_S.rf
  have hK := hE.1
  have hl := lv_entry ([.ref a, .int p0, .int p1]) (n := 4) (Nat.le_of_ble_eq_true rfl)
  rw [lg_entry_eq]
  generalize (lg_sl ([.ref a, .int p0, .int p1]) ++ List.replicate (4 - (lg_sl ([.ref a, .int p0, .int p1])).length) Slot.unset).toArray = ls at hl ⊢
  have hl : lv_has ls 4 [(0, .ref a), (1, .int p0), (2, .int p1)] := hl
  obtain ⟨H, eH⟩ : ∃ z, z = s.heap := ⟨_, rfl⟩
  have hP : va_P D classes [(a_said, .inl (cs 0, 123, .inl a_said_c)), (a, .inr (12, [.ref a_tape, .int a__taped, .int a__rules, .ref a_sign, .ref a_length, .ref a_clause, .ref a_clauses, .ref a_read, .int a__next, .int a__wrong, .int a__number, .int a__text, .int a__made, .int a__deep, .int a__lines, .ref a_open, .int a__opened, .ref a_stack, .int a__top, .ref a_word, .ref a_said, .int a__x, .ref a_worth, .ref a_mate, .ref a_wasSaid, .int a__undone, .int a__boughtNow, .ref a_wayBy, .ref a_wayThen, .int a__walkMost, .int a__walkGoing, .int a__walkSet, .ref a_kept, .long a__drawX, .ref a_images, .ref a_imageX, .ref a_isMade]))] H := by rw [eH]; exact hP
  have hS : va_S A s.heap H [] := by rw [eH]; exact hS
  rw [← eH]
  clear eH
  obtain ⟨locs, el⟩ : ∃ z : List Loc, z = [] := ⟨_, rfl⟩
  rw [← el] at hS ⊢
  clear el
  have z0 : (0 : Int32).toInt = 0 := by decide
  have z1 : (1 : Int32).toInt = 1 := by decide
  have zm1 : (-1 : Int32).toInt = -1 := by decide
  have i_a__lines : 0 ≤ a__lines.toInt ∧ a__lines.toInt ≤ 40 := h_a__lines
  have i_a__made : 0 ≤ a__made.toInt ∧ a__made.toInt ≤ 60 := h_a__made
  have i_a__next : 0 ≤ a__next.toInt ∧ a__next.toInt ≤ 400 := h_a__next
  have i_a__opened : 0 ≤ a__opened.toInt ∧ a__opened.toInt ≤ 400 := h_a__opened
  have i_a__rules : 0 ≤ a__rules.toInt ∧ a__rules.toInt ≤ 6 := h_a__rules
  have i_a__taped : 0 ≤ a__taped.toInt ∧ a__taped.toInt ≤ 400 := h_a__taped
  have i_a__text : 0 ≤ a__text.toInt ∧ a__text.toInt ≤ 6 := h_a__text
  have i_a__top : 0 ≤ a__top.toInt ∧ a__top.toInt ≤ 64 := h_a__top
  have i_a__undone : 0 ≤ a__undone.toInt ∧ a__undone.toInt ≤ 20 := h_a__undone
  have i_a__x : 0 ≤ a__x.toInt ∧ a__x.toInt ≤ 2147483647 := h_a__x
  have i_p0 : 0 ≤ p0.toInt ∧ p0.toInt ≤ 3 := h_p0
  have i_p1 : (-1) ≤ p1.toInt ∧ p1.toInt ≤ 1 := h_p1
  refine lv_bipush (v := 70) hx hb dX12_goes_0 (by decide) ?_
  refine lv_iconst (v := 4) hx hb dX12_goes_2 (by decide) ?_
  refine lv_iload_n hx hb dX12_goes_3 rfl (lv_at hl 1 rfl) ?_
  refine lv_imul hx hb dX12_goes_4 ?_
  refine lv_topi (fun v1 ev1 => ?_)
  have hv1 : IV 0 12 v1 := iv_mul ev1 (iv_c (a := 4) (b := 4) (by decide)) h_p0 (by decide) (by decide) (by decide) (by decide)
  have ii2 : 0 ≤ v1.toInt ∧ v1.toInt ≤ 12 := hv1
  have lv1 : v1.toInt = 4 * p0.toInt := lin_mul ev1 (iv_c (a := 4) (b := 4) (by decide)) h_p0 (by decide) rfl (by decide) (by decide) (by decide) (by decide)
  refine lv_iadd hx hb dX12_goes_5 ?_
  refine lv_topi (fun v3 ev3 => ?_)
  have hv3 : IV 70 82 v3 := iv_add ev3 (iv_c (a := 70) (b := 70) (by decide)) hv1 (by decide) (by decide)
  have ii4 : 70 ≤ v3.toInt ∧ v3.toInt ≤ 82 := hv3
  have lv3 : v3.toInt = 70 + v1.toInt := lin_add ev3 (iv_c (a := 70) (b := 70) (by decide)) hv1 (by decide) rfl (by decide) (by decide)
  refine lv_iconst (v := 1) hx hb dX12_goes_6 (by decide) ?_
  refine lv_iadd hx hb dX12_goes_7 ?_
  refine lv_topi (fun v5 ev5 => ?_)
  have hv5 : IV 71 83 v5 := iv_add ev5 hv3 (iv_c (a := 1) (b := 1) (by decide)) (by decide) (by decide)
  have ii6 : 71 ≤ v5.toInt ∧ v5.toInt ≤ 83 := hv5
  have dv5 : v5.toInt = v3.toInt + 1 := iv_addE ev5 hv3 (iv_c (a := 1) (b := 1) (by decide)) (by decide) (by decide) (by decide)
  have lv5 : v5.toInt = v3.toInt + 1 := lin_add ev5 hv3 (iv_c (a := 1) (b := 1) (by decide)) rfl (by decide) (by decide) (by decide)
  refine lv_istore_n (lv' := [(3, .int v5), (0, .ref a), (1, .int p0), (2, .int p1)]) hx hb dX12_goes_8 rfl hl (by decide) rfl (fun ls hl => ?_)
  refine lv_aload_n hx hb dX12_goes_9 rfl (lv_at hl 1 rfl) ?_
  refine va_get (D := D) (ci := 12) (v := .ref a_said) (C := RX12) (T := TX12) (N := 37) hx hb hT i_X12 hown hK hP 1 rfl rfl 20 (by decide) (hT _ q_185) (fun _ h9 => h9) rfl dX12_goes_10 ?_
  refine lv_iload_n hx hb dX12_goes_13 rfl (lv_at hl 0 rfl) ?_
  refine lv_aload_n hx hb dX12_goes_14 rfl (lv_at hl 1 rfl) ?_
  refine va_get (D := D) (ci := 12) (v := .ref a_said) (C := RX12) (T := TX12) (N := 37) hx hb hT i_X12 hown hK hP 1 rfl rfl 20 (by decide) (hT _ q_185) (fun _ h9 => h9) rfl dX12_goes_15 ?_
  refine lv_iload_n hx hb dX12_goes_18 rfl (lv_at hl 0 rfl) ?_
  refine va_iald hx hb hK hP 0 0 rfl rfl (iv_v hv5 (by decide) (by decide)) dX12_goes_19 ?_
  refine lv_topi (fun v7 ev7 => ?_)
  have lv7 : v7.toInt = (a_said_c (Int32.toNatClampNeg v5)).toInt := by rw [ev7]
  have h8 : IV 0 7 v7 := (by have q := hf0.2.2.2.2.2 p0.toInt.toNat (by omega) (by omega); have q0 := bs_i0 hf0; unfold IV at q0; rw [(show v7 = a_said_c (71 + 4 * p0.toInt.toNat) from (by rw [ev7]; show a_said_c (v5.toInt.toNat) = _; congr 1; omega))]; exact ⟨by omega, by omega⟩)
  have ii9 : 0 ≤ v7.toInt ∧ v7.toInt ≤ 7 := h8
  refine lv_iload_n hx hb dX12_goes_20 rfl (lv_at hl 3 rfl) ?_
  refine lv_iadd hx hb dX12_goes_21 ?_
  refine lv_topi (fun v10 ev10 => ?_)
  have hv10 : IV (-1) 8 v10 := iv_add ev10 h8 h_p1 (by decide) (by decide)
  have ii11 : (-1) ≤ v10.toInt ∧ v10.toInt ≤ 8 := hv10
  have lv10 : v10.toInt = v7.toInt + p1.toInt := lin_add ev10 h8 h_p1 rfl rfl (by decide) (by decide)
  refine lv_aload_n hx hb dX12_goes_22 rfl (lv_at hl 1 rfl) ?_
  refine va_get (D := D) (ci := 12) (v := .ref a_said) (C := RX12) (T := TX12) (N := 37) hx hb hT i_X12 hown hK hP 1 rfl rfl 20 (by decide) (hT _ q_185) (fun _ h9 => h9) rfl dX12_goes_23 ?_
  refine lv_iconst (v := 0) hx hb dX12_goes_26 (by decide) ?_
  refine va_iald hx hb hK hP 0 0 rfl rfl (iv_vc (by decide)) dX12_goes_27 ?_
  refine lv_topi (fun v12 ev12 => ?_)
  have h13 : IV 0 8 v12 := (by rw [ev12]; exact bs_i0 hf0)
  have ii14 : 0 ≤ v12.toInt ∧ v12.toInt ≤ 8 := h13
  have lv12 : v12.toInt = (a_said_c 0).toInt := by rw [ev12]; rfl
  refine lv_iadd hx hb dX12_goes_28 ?_
  refine lv_topi (fun v15 ev15 => ?_)
  have hv15 : IV (-1) 16 v15 := iv_add ev15 hv10 h13 (by decide) (by decide)
  have ii16 : (-1) ≤ v15.toInt ∧ v15.toInt ≤ 16 := hv15
  have lv15 : v15.toInt = v10.toInt + v12.toInt := lin_add ev15 hv10 h13 rfl rfl (by decide) (by decide)
  have q9 := bs_b hf0 (by omega)
  refine lv_aload_n hx hb dX12_goes_29 rfl (lv_at hl 1 rfl) ?_
  refine va_get (D := D) (ci := 12) (v := .ref a_said) (C := RX12) (T := TX12) (N := 37) hx hb hT i_X12 hown hK hP 1 rfl rfl 20 (by decide) (hT _ q_185) (fun _ h9 => h9) rfl dX12_goes_30 ?_
  refine lv_iconst (v := 0) hx hb dX12_goes_33 (by decide) ?_
  refine va_iald hx hb hK hP 0 0 rfl rfl (iv_vc (by decide)) dX12_goes_34 ?_
  refine hz_ev v12 ev12.symm ?_
  have h17 : IV 2 8 v12 := ⟨by omega, by omega⟩
  have ii18 : 2 ≤ v12.toInt ∧ v12.toInt ≤ 8 := h17
  have h19 : IV 0 20 v15 := ⟨by omega, by omega⟩
  have ii20 : 0 ≤ v15.toInt ∧ v15.toInt ≤ 20 := h19
  refine lv_irem hx hb dX12_goes_35 (iv_ne0 h17 (by decide)) ?_
  refine lv_topi (fun v21 ev21 => ?_)
  have hv21 : IV 0 7 v21 := iv_remP ev21 h19 h17 (by decide) (by decide)
  have ii22 : 0 ≤ v21.toInt ∧ v21.toInt ≤ 7 := hv21
  have lv21 : v21.toInt < v12.toInt := lin_rem ev21 h19 h17 rfl rfl (by decide) (by decide)
  refine va_iast hx hb hK hP hD hS 0 0 rfl rfl (iv_v hv5 (by decide) (by decide)) dX12_goes_36 (fun H locs hP hD hS => ?_)
  have hP : va_P D classes [(a_said, .inl (cs 0, 123, .inl (upd a_said_c (Int32.toNatClampNeg v5) v21))), (a, .inr (12, [.ref a_tape, .int a__taped, .int a__rules, .ref a_sign, .ref a_length, .ref a_clause, .ref a_clauses, .ref a_read, .int a__next, .int a__wrong, .int a__number, .int a__text, .int a__made, .int a__deep, .int a__lines, .ref a_open, .int a__opened, .ref a_stack, .int a__top, .ref a_word, .ref a_said, .int a__x, .ref a_worth, .ref a_mate, .ref a_wasSaid, .int a__undone, .int a__boughtNow, .ref a_wayBy, .ref a_wayThen, .int a__walkMost, .int a__walkGoing, .int a__walkSet, .ref a_kept, .long a__drawX, .ref a_images, .ref a_imageX, .ref a_isMade]))] H := hP
  have hD : va_D A [(a_said, .inl (cs 0, 123, .inl (upd a_said_c (Int32.toNatClampNeg v5) v21))), (a, .inr (12, [.ref a_tape, .int a__taped, .int a__rules, .ref a_sign, .ref a_length, .ref a_clause, .ref a_clauses, .ref a_read, .int a__next, .int a__wrong, .int a__number, .int a__text, .int a__made, .int a__deep, .int a__lines, .ref a_open, .int a__opened, .ref a_stack, .int a__top, .ref a_word, .ref a_said, .int a__x, .ref a_worth, .ref a_mate, .ref a_wasSaid, .int a__undone, .int a__boughtNow, .ref a_wayBy, .ref a_wayThen, .int a__walkMost, .int a__walkGoing, .int a__walkSet, .ref a_kept, .long a__drawX, .ref a_images, .ref a_imageX, .ref a_isMade]))] := hD
  obtain ⟨f23, uf23⟩ : ∃ z, z = upd a_said_c (Int32.toNatClampNeg v5) v21 := ⟨_, rfl⟩
  rw [← uf23] at hP hD
  have wf23 : (f23 (Int32.toNatClampNeg v5)).toInt = v21.toInt := lin_us uf23 rfl
  have kk24 : (f23 0).toInt = (a_said_c 0).toInt := congrArg Int32.toInt (by rw [uf23, pk_un (show 0 ≠ Int32.toNatClampNeg v5 from by (have q : Int32.toNatClampNeg v5 = v5.toInt.toNat := rfl); omega)])
  have kk25 : (f23 1).toInt = (a_said_c 1).toInt := congrArg Int32.toInt (by rw [uf23, pk_un (show 1 ≠ Int32.toNatClampNeg v5 from by (have q : Int32.toNatClampNeg v5 = v5.toInt.toNat := rfl); omega)])
  have kk26 : (f23 2).toInt = (a_said_c 2).toInt := congrArg Int32.toInt (by rw [uf23, pk_un (show 2 ≠ Int32.toNatClampNeg v5 from by (have q : Int32.toNatClampNeg v5 = v5.toInt.toNat := rfl); omega)])
  have kk27 : (f23 3).toInt = (a_said_c 3).toInt := congrArg Int32.toInt (by rw [uf23, pk_un (show 3 ≠ Int32.toNatClampNeg v5 from by (have q : Int32.toNatClampNeg v5 = v5.toInt.toNat := rfl); omega)])
  have fb28 : BS f23 200 := (bs_sp (b := p0.toInt.toNat) hf0 uf23 (show v5.toInt.toNat = _ by omega) (Or.inr ⟨by omega, by omega⟩))
  have fb29 : TR f23 := tr_upd hf1 uf23 (show Int32.toNatClampNeg v5 < 86 from by (have q : Int32.toNatClampNeg v5 = v5.toInt.toNat := rfl); omega)
  refine W.widen (k := 0) (n := 0) (Nat.le_of_ble_eq_true rfl) (Nat.le_of_ble_eq_true rfl) ?_
  have g30 : (f23 3).toInt = (a_said_c 3).toInt := (by omega)
  have g31 : (f23 0).toInt = (a_said_c 0).toInt := (by omega)
  have g32 : (f23 1).toInt = (a_said_c 1).toInt := (by omega)
  have g33 : (f23 2).toInt = (a_said_c 2).toInt := (by omega)
  exact W.vret hx hb hr (fun t ht hW => ⟨⟨(fun k => match k with | 0 => 0 | _ => 0, fun k => match k with | 0 => f23 | _ => fun _ => 0), rfl, (⟨fb28, fb29, g30, g31, g32, g33⟩), by rw [ht]; exact hP.sub [0, 1] rfl, hD.sub [0, 1] (by decide) rfl⟩, hS.F ht⟩) hS.2.2 dX12_goes_37
theorem dX12_hourComes_0 : decode cX12_hourComes 0 = .ok (.aload_n 0, 1) := by decide +kernel
theorem dX12_hourComes_1 : decode cX12_hourComes 1 = .ok (.getfield 39, 3) := by decide +kernel
theorem dX12_hourComes_4 : decode cX12_hourComes 4 = .ok (.iconst 3, 1) := by decide +kernel
theorem dX12_hourComes_5 : decode cX12_hourComes 5 = .ok (.dup2, 1) := by decide +kernel
theorem dX12_hourComes_6 : decode cX12_hourComes 6 = .ok (.iaload, 1) := by decide +kernel
theorem dX12_hourComes_7 : decode cX12_hourComes 7 = .ok (.iconst 1, 1) := by decide +kernel
theorem dX12_hourComes_8 : decode cX12_hourComes 8 = .ok (.iadd, 1) := by decide +kernel
theorem dX12_hourComes_9 : decode cX12_hourComes 9 = .ok (.iastore, 1) := by decide +kernel
theorem dX12_hourComes_10 : decode cX12_hourComes 10 = .ok (.aload_n 0, 1) := by decide +kernel
theorem dX12_hourComes_11 : decode cX12_hourComes 11 = .ok (.invokevirtual 277, 3) := by decide +kernel
theorem dX12_hourComes_14 : decode cX12_hourComes 14 = .ok (.return_, 1) := by decide +kernel
set_option maxHeartbeats 4000000 in
set_option maxRecDepth 100000 in
theorem c_X12_hourComes (l : Launch) (D : va_G) (cs : Nat → ClassId) (kK kV : Nat → Nat) (a : Nat) (a_said : Nat) (a_said_c : Nat → Int32) (a_tape : Nat) (a__taped : Int32) (a__rules : Int32) (a_sign : Nat) (a_length : Nat) (a_clause : Nat) (a_clauses : Nat) (a_read : Nat) (a__next : Int32) (a__wrong : Int32) (a__number : Int32) (a__text : Int32) (a__made : Int32) (a__deep : Int32) (a__lines : Int32) (a_open : Nat) (a__opened : Int32) (a_stack : Nat) (a__top : Int32) (a_word : Nat) (a__x : Int32) (a_worth : Nat) (a_mate : Nat) (a_wasSaid : Nat) (a__undone : Int32) (a__boughtNow : Int32) (a_wayBy : Nat) (a_wayThen : Nat) (a__walkMost : Int32) (a__walkGoing : Int32) (a__walkSet : Int32) (a_kept : Nat) (a__drawX : Int64) (a_images : Nat) (a_imageX : Nat) (a_isMade : Nat) (h_a__taped : IV 0 400 a__taped) (h_a__rules : IV 0 6 a__rules) (h_a__next : IV 0 400 a__next) (h_a__text : IV 0 6 a__text) (h_a__made : IV 0 60 a__made) (h_a__lines : IV 0 40 a__lines) (h_a__opened : IV 0 400 a__opened) (h_a__top : IV 0 64 a__top) (h_a__x : IV 0 2147483647 a__x) (h_a__undone : IV 0 20 a__undone) (hf0 : BS a_said_c 200) (hf1 : TR a_said_c) (hf2 : (a_said_c 3).toInt ≤ 199) (sz : Nat) : Met l yX12_hourComes (hz_w yX12_hourComes cX12_hourComes 1 none) ({ frames := 3, cells := 0, slots := 0, locals := 66 }) (va_Pc [.ref a] (hz_C D cs kK kV sz [(a_said, .inl (cs 0, 123, .inl a_said_c)), (a, .inr (12, [.ref a_tape, .int a__taped, .int a__rules, .ref a_sign, .ref a_length, .ref a_clause, .ref a_clauses, .ref a_read, .int a__next, .int a__wrong, .int a__number, .int a__text, .int a__made, .int a__deep, .int a__lines, .ref a_open, .int a__opened, .ref a_stack, .int a__top, .ref a_word, .ref a_said, .int a__x, .ref a_worth, .ref a_mate, .ref a_wasSaid, .int a__undone, .int a__boughtNow, .ref a_wayBy, .ref a_wayThen, .int a__walkMost, .int a__walkGoing, .int a__walkSet, .ref a_kept, .long a__drawX, .ref a_images, .ref a_imageX, .ref a_isMade]))])) (va_Qv (fun (u : (Nat → Int32) × (Nat → Nat → Int32)) => ((BS (u.2 0) 200) ∧ (TR (u.2 0)) ∧ (((u.2 0) 3).toInt = (a_said_c 3).toInt + 1))) (fun u t => va_P D classes [(a_said, .inl (cs 0, 123, .inl (u.2 0))), (a, .inr (12, [.ref a_tape, .int a__taped, .int a__rules, .ref a_sign, .ref a_length, .ref a_clause, .ref a_clauses, .ref a_read, .int a__next, .int a__wrong, .int a__number, .int a__text, .int a__made, .int a__deep, .int a__lines, .ref a_open, .int a__opened, .ref a_stack, .int a__top, .ref a_word, .ref a_said, .int a__x, .ref a_worth, .ref a_mate, .ref a_wasSaid, .int a__undone, .int a__boughtNow, .ref a_wayBy, .ref a_wayThen, .int a__walkMost, .int a__walkGoing, .int a__walkSet, .ref a_kept, .long a__drawX, .ref a_images, .ref a_imageX, .ref a_isMade]))] t.heap ∧ va_D (va_A [(a_said, .inl (cs 0, 123, .inl a_said_c)), (a, .inr (12, [.ref a_tape, .int a__taped, .int a__rules, .ref a_sign, .ref a_length, .ref a_clause, .ref a_clauses, .ref a_read, .int a__next, .int a__wrong, .int a__number, .int a__text, .int a__made, .int a__deep, .int a__lines, .ref a_open, .int a__opened, .ref a_stack, .int a__top, .ref a_word, .ref a_said, .int a__x, .ref a_worth, .ref a_mate, .ref a_wasSaid, .int a__undone, .int a__boughtNow, .ref a_wayBy, .ref a_wayThen, .int a__walkMost, .int a__walkGoing, .int a__walkSet, .ref a_kept, .long a__drawX, .ref a_images, .ref a_imageX, .ref a_isMade]))] sz) [(a_said, .inl (cs 0, 123, .inl (u.2 0))), (a, .inr (12, [.ref a_tape, .int a__taped, .int a__rules, .ref a_sign, .ref a_length, .ref a_clause, .ref a_clauses, .ref a_read, .int a__next, .int a__wrong, .int a__number, .int a__text, .int a__made, .int a__deep, .int a__lines, .ref a_open, .int a__opened, .ref a_stack, .int a__top, .ref a_word, .ref a_said, .int a__x, .ref a_worth, .ref a_mate, .ref a_wasSaid, .int a__undone, .int a__boughtNow, .ref a_wayBy, .ref a_wayThen, .int a__walkMost, .int a__walkGoing, .int a__walkSet, .ref a_kept, .long a__drawX, .ref a_images, .ref a_imageX, .ref a_isMade]))]) (va_A [(a_said, .inl (cs 0, 123, .inl a_said_c)), (a, .inr (12, [.ref a_tape, .int a__taped, .int a__rules, .ref a_sign, .ref a_length, .ref a_clause, .ref a_clauses, .ref a_read, .int a__next, .int a__wrong, .int a__number, .int a__text, .int a__made, .int a__deep, .int a__lines, .ref a_open, .int a__opened, .ref a_stack, .int a__top, .ref a_word, .ref a_said, .int a__x, .ref a_worth, .ref a_mate, .ref a_wasSaid, .int a__undone, .int a__boughtNow, .ref a_wayBy, .ref a_wayThen, .int a__walkMost, .int a__walkGoing, .int a__walkSet, .ref a_kept, .long a__drawX, .ref a_images, .ref a_imageX, .ref a_isMade]))] sz)) 0 0 (va_A [(a_said, .inl (cs 0, 123, .inl a_said_c)), (a, .inr (12, [.ref a_tape, .int a__taped, .int a__rules, .ref a_sign, .ref a_length, .ref a_clause, .ref a_clauses, .ref a_read, .int a__next, .int a__wrong, .int a__number, .int a__text, .int a__made, .int a__deep, .int a__lines, .ref a_open, .int a__opened, .ref a_stack, .int a__top, .ref a_word, .ref a_said, .int a__x, .ref a_worth, .ref a_mate, .ref a_wasSaid, .int a__undone, .int a__boughtNow, .ref a_wayBy, .ref a_wayThen, .int a__walkMost, .int a__walkGoing, .int a__walkSet, .ref a_kept, .long a__drawX, .ref a_images, .ref a_imageX, .ref a_isMade]))] sz) := by
  refine Met.ofW (cc := cX12_hourComes) (maxL := 1) (ret := none) (by decide) rfl ?_
  intro p e s m args below meth c s₁ B hml hv
  obtain ⟨rfl, hsz, hP, hD0, hE⟩ := hv
  have hx := B.exec
  have hb := B.bytes
  have hr := B.returns
  have hT : ∀ w ∈ TB, w.before _ s = true := fun w h => atoms_spec (ws := hz_w yX12_hourComes cX12_hourComes 1 none) B.pre w (List.mem_cons_of_mem _ h)
  have hown : s.vm.findClass RX12 = some m.cls := findClass_of_methodNamed B.named
  have hlocks := B.notSynchronized
  clear B
  subst hsz
  have hD := hD0.self (sz := s.heap.size)
  generalize hAe : va_A [(a_said, .inl (cs 0, 123, .inl a_said_c)), (a, .inr (12, [.ref a_tape, .int a__taped, .int a__rules, .ref a_sign, .ref a_length, .ref a_clause, .ref a_clauses, .ref a_read, .int a__next, .int a__wrong, .int a__number, .int a__text, .int a__made, .int a__deep, .int a__lines, .ref a_open, .int a__opened, .ref a_stack, .int a__top, .ref a_word, .ref a_said, .int a__x, .ref a_worth, .ref a_mate, .ref a_wasSaid, .int a__undone, .int a__boughtNow, .ref a_wayBy, .ref a_wayThen, .int a__walkMost, .int a__walkGoing, .int a__walkSet, .ref a_kept, .long a__drawX, .ref a_images, .ref a_imageX, .ref a_isMade]))] s.heap.size = A at hD hE ⊢
  have hA : ∀ q : Nat, s.heap.size ≤ q → A q := fun q h => by rw [← hAe]; exact Or.inr h
  clear hAe hD0
  have hS : va_S A s.heap s.heap [] := va_S.rf
  have hK := hE.1
  have hl := lv_entry ([.ref a]) (n := 1) (Nat.le_of_ble_eq_true rfl)
  rw [lg_entry_eq]
  generalize (lg_sl ([.ref a]) ++ List.replicate (1 - (lg_sl ([.ref a])).length) Slot.unset).toArray = ls at hl ⊢
  have hl : lv_has ls 1 [(0, .ref a)] := hl
  obtain ⟨H, eH⟩ : ∃ z, z = s.heap := ⟨_, rfl⟩
  have hP : va_P D classes [(a_said, .inl (cs 0, 123, .inl a_said_c)), (a, .inr (12, [.ref a_tape, .int a__taped, .int a__rules, .ref a_sign, .ref a_length, .ref a_clause, .ref a_clauses, .ref a_read, .int a__next, .int a__wrong, .int a__number, .int a__text, .int a__made, .int a__deep, .int a__lines, .ref a_open, .int a__opened, .ref a_stack, .int a__top, .ref a_word, .ref a_said, .int a__x, .ref a_worth, .ref a_mate, .ref a_wasSaid, .int a__undone, .int a__boughtNow, .ref a_wayBy, .ref a_wayThen, .int a__walkMost, .int a__walkGoing, .int a__walkSet, .ref a_kept, .long a__drawX, .ref a_images, .ref a_imageX, .ref a_isMade]))] H := by rw [eH]; exact hP
  have hS : va_S A s.heap H [] := by rw [eH]; exact hS
  rw [← eH]
  clear eH
  obtain ⟨locs, el⟩ : ∃ z : List Loc, z = [] := ⟨_, rfl⟩
  rw [← el] at hS ⊢
  clear el
  have z0 : (0 : Int32).toInt = 0 := by decide
  have z1 : (1 : Int32).toInt = 1 := by decide
  have zm1 : (-1 : Int32).toInt = -1 := by decide
  have i_a__lines : 0 ≤ a__lines.toInt ∧ a__lines.toInt ≤ 40 := h_a__lines
  have i_a__made : 0 ≤ a__made.toInt ∧ a__made.toInt ≤ 60 := h_a__made
  have i_a__next : 0 ≤ a__next.toInt ∧ a__next.toInt ≤ 400 := h_a__next
  have i_a__opened : 0 ≤ a__opened.toInt ∧ a__opened.toInt ≤ 400 := h_a__opened
  have i_a__rules : 0 ≤ a__rules.toInt ∧ a__rules.toInt ≤ 6 := h_a__rules
  have i_a__taped : 0 ≤ a__taped.toInt ∧ a__taped.toInt ≤ 400 := h_a__taped
  have i_a__text : 0 ≤ a__text.toInt ∧ a__text.toInt ≤ 6 := h_a__text
  have i_a__top : 0 ≤ a__top.toInt ∧ a__top.toInt ≤ 64 := h_a__top
  have i_a__undone : 0 ≤ a__undone.toInt ∧ a__undone.toInt ≤ 20 := h_a__undone
  have i_a__x : 0 ≤ a__x.toInt ∧ a__x.toInt ≤ 2147483647 := h_a__x
  refine lv_aload_n hx hb dX12_hourComes_0 rfl (lv_at hl 0 rfl) ?_
  refine va_get (D := D) (ci := 12) (v := .ref a_said) (C := RX12) (T := TX12) (N := 37) hx hb hT i_X12 hown hK hP 1 rfl rfl 20 (by decide) (hT _ q_185) (fun _ h9 => h9) rfl dX12_hourComes_1 ?_
  refine lv_iconst (v := 3) hx hb dX12_hourComes_4 (by decide) ?_
  refine lv_dup2_11 hx hb dX12_hourComes_5 rfl rfl ?_
  refine va_iald hx hb hK hP 0 0 rfl rfl (iv_vc (by decide)) dX12_hourComes_6 ?_
  refine lv_topi (fun v1 ev1 => ?_)
  have h2 : IV 0 200 v1 := (by rw [ev1]; exact bs_i3 hf0)
  have ii3 : 0 ≤ v1.toInt ∧ v1.toInt ≤ 200 := h2
  have lv1 : v1.toInt = (a_said_c 3).toInt := by rw [ev1]; rfl
  refine lv_iconst (v := 1) hx hb dX12_hourComes_7 (by decide) ?_
  refine lv_iadd hx hb dX12_hourComes_8 ?_
  refine lv_topi (fun v4 ev4 => ?_)
  have hv4 : IV 1 201 v4 := iv_add ev4 h2 (iv_c (a := 1) (b := 1) (by decide)) (by decide) (by decide)
  have ii5 : 1 ≤ v4.toInt ∧ v4.toInt ≤ 201 := hv4
  have dv4 : v4.toInt = v1.toInt + 1 := iv_addE ev4 h2 (iv_c (a := 1) (b := 1) (by decide)) (by decide) (by decide) (by decide)
  have lv4 : v4.toInt = v1.toInt + 1 := lin_add ev4 h2 (iv_c (a := 1) (b := 1) (by decide)) rfl (by decide) (by decide) (by decide)
  refine va_iast hx hb hK hP hD hS 0 0 rfl rfl (iv_vc (by decide)) dX12_hourComes_9 (fun H locs hP hD hS => ?_)
  have hP : va_P D classes [(a_said, .inl (cs 0, 123, .inl (upd a_said_c (Int32.toNatClampNeg (3 : Int32)) v4))), (a, .inr (12, [.ref a_tape, .int a__taped, .int a__rules, .ref a_sign, .ref a_length, .ref a_clause, .ref a_clauses, .ref a_read, .int a__next, .int a__wrong, .int a__number, .int a__text, .int a__made, .int a__deep, .int a__lines, .ref a_open, .int a__opened, .ref a_stack, .int a__top, .ref a_word, .ref a_said, .int a__x, .ref a_worth, .ref a_mate, .ref a_wasSaid, .int a__undone, .int a__boughtNow, .ref a_wayBy, .ref a_wayThen, .int a__walkMost, .int a__walkGoing, .int a__walkSet, .ref a_kept, .long a__drawX, .ref a_images, .ref a_imageX, .ref a_isMade]))] H := hP
  have hD : va_D A [(a_said, .inl (cs 0, 123, .inl (upd a_said_c (Int32.toNatClampNeg (3 : Int32)) v4))), (a, .inr (12, [.ref a_tape, .int a__taped, .int a__rules, .ref a_sign, .ref a_length, .ref a_clause, .ref a_clauses, .ref a_read, .int a__next, .int a__wrong, .int a__number, .int a__text, .int a__made, .int a__deep, .int a__lines, .ref a_open, .int a__opened, .ref a_stack, .int a__top, .ref a_word, .ref a_said, .int a__x, .ref a_worth, .ref a_mate, .ref a_wasSaid, .int a__undone, .int a__boughtNow, .ref a_wayBy, .ref a_wayThen, .int a__walkMost, .int a__walkGoing, .int a__walkSet, .ref a_kept, .long a__drawX, .ref a_images, .ref a_imageX, .ref a_isMade]))] := hD
  obtain ⟨f6, uf6⟩ : ∃ z, z = upd a_said_c (Int32.toNatClampNeg (3 : Int32)) v4 := ⟨_, rfl⟩
  rw [← uf6] at hP hD
  have uf6 : f6 = upd a_said_c 3 v4 := uf6
  have wf6 : (f6 3).toInt = v4.toInt := lin_us uf6 rfl
  have kk7 : (f6 0).toInt = (a_said_c 0).toInt := congrArg Int32.toInt (by rw [uf6, pk_un (by decide)])
  have kk8 : (f6 1).toInt = (a_said_c 1).toInt := congrArg Int32.toInt (by rw [uf6, pk_un (by decide)])
  have kk9 : (f6 2).toInt = (a_said_c 2).toInt := congrArg Int32.toInt (by rw [uf6, pk_un (by decide)])
  have fb10 : BS f6 200 := (bs_3 hf0 uf6 ⟨by omega, by omega⟩)
  have fb11 : TR f6 := tr_upd hf1 uf6 (by decide)
  refine lv_aload_n hx hb dX12_hourComes_10 rfl (lv_at hl 0 rfl) ?_
  have hFc := va_free (wc := [(a_said, .inl (cs 0, 123, .inl f6)), (a, .inr (12, [.ref a_tape, .int a__taped, .int a__rules, .ref a_sign, .ref a_length, .ref a_clause, .ref a_clauses, .ref a_read, .int a__next, .int a__wrong, .int a__number, .int a__text, .int a__made, .int a__deep, .int a__lines, .ref a_open, .int a__opened, .ref a_stack, .int a__top, .ref a_word, .ref a_said, .int a__x, .ref a_worth, .ref a_mate, .ref a_wasSaid, .int a__undone, .int a__boughtNow, .ref a_wayBy, .ref a_wayThen, .int a__walkMost, .int a__walkGoing, .int a__walkSet, .ref a_kept, .long a__drawX, .ref a_images, .ref a_imageX, .ref a_isMade]))]) hD hS hA [0,1] rfl
  refine va_callv (va_runV (As := []) (rest := []) ⟨hx, hb, hml, hown, hT⟩ (c_X12_allSee l D cs kK kV a a_said f6 a_tape a__taped a__rules a_sign a_length a_clause a_clauses a_read a__next a__wrong a__number a__text a__made a__deep a__lines a_open a__opened a_stack a__top a_word a__x a_worth a_mate a_wasSaid a__undone a__boughtNow a_wayBy a_wayThen a__walkMost a__walkGoing a__walkSet a_kept a__drawX a_images a_imageX a_isMade h_a__taped h_a__rules h_a__next h_a__text h_a__made h_a__lines h_a__opened h_a__top h_a__x h_a__undone fb10 fb11 H.size) (cwV 0 hT (hz_gV q_1081 q_1082 q_1083 q_701 q_1084) rfl rfl rfl (by decide +kernel) ⟨(Nat.le_of_ble_eq_true rfl), (Nat.le_of_ble_eq_true rfl)⟩) ⟨hz_C.blind, va_recv hK hP (ci := 12) (q0 := 1) rfl rfl, hz_C.mk (hP.sub (ws' := [(a_said, .inl (cs 0, 123, .inl f6)), (a, .inr (12, [.ref a_tape, .int a__taped, .int a__rules, .ref a_sign, .ref a_length, .ref a_clause, .ref a_clauses, .ref a_read, .int a__next, .int a__wrong, .int a__number, .int a__text, .int a__made, .int a__deep, .int a__lines, .ref a_open, .int a__opened, .ref a_stack, .int a__top, .ref a_word, .ref a_said, .int a__x, .ref a_worth, .ref a_mate, .ref a_wasSaid, .int a__undone, .int a__boughtNow, .ref a_wayBy, .ref a_wayThen, .int a__walkMost, .int a__walkGoing, .int a__walkSet, .ref a_kept, .long a__drawX, .ref a_images, .ref a_imageX, .ref a_isMade]))]) [0,1] rfl) (hD.sub (ws' := [(a_said, .inl (cs 0, 123, .inl f6)), (a, .inr (12, [.ref a_tape, .int a__taped, .int a__rules, .ref a_sign, .ref a_length, .ref a_clause, .ref a_clauses, .ref a_read, .int a__next, .int a__wrong, .int a__number, .int a__text, .int a__made, .int a__deep, .int a__lines, .ref a_open, .int a__opened, .ref a_stack, .int a__top, .ref a_word, .ref a_said, .int a__x, .ref a_worth, .ref a_mate, .ref a_wasSaid, .int a__undone, .int a__boughtNow, .ref a_wayBy, .ref a_wayThen, .int a__walkMost, .int a__walkGoing, .int a__walkSet, .ref a_kept, .long a__drawX, .ref a_images, .ref a_imageX, .ref a_isMade]))]) [0,1] (by decide) rfl) hE hS hFc⟩ rfl rfl hl.1 rfl (lv_room (Nat.le_of_ble_eq_true rfl)) dX12_hourComes_11 ⟨(Nat.le_of_ble_eq_true rfl), (Nat.le_of_ble_eq_true rfl)⟩) hS (fun q _ h => hFc q h) hFc (fun o13 t H1 locs ht hvm hw hB hz1 hk1 hS => ?_)
  obtain ⟨hP1, hD1⟩ := hB
  rw [ht] at hP1
  obtain ⟨hP, hD⟩ := va_join (wr := []) (w1 := [(a_said, .inl (cs 0, 123, .inl (o13.2 0))), (a, .inr (12, [.ref a_tape, .int a__taped, .int a__rules, .ref a_sign, .ref a_length, .ref a_clause, .ref a_clauses, .ref a_read, .int a__next, .int a__wrong, .int a__number, .int a__text, .int a__made, .int a__deep, .int a__lines, .ref a_open, .int a__opened, .ref a_stack, .int a__top, .ref a_word, .ref a_said, .int a__x, .ref a_worth, .ref a_mate, .ref a_wasSaid, .int a__undone, .int a__boughtNow, .ref a_wayBy, .ref a_wayThen, .int a__walkMost, .int a__walkGoing, .int a__walkSet, .ref a_kept, .long a__drawX, .ref a_images, .ref a_imageX, .ref a_isMade]))]) hP hD [0, 1] [] rfl rfl (by decide) (by decide) hk1 hFc hP1 hD1
  generalize H1 = H at hP hS ⊢
  have hP : va_P D classes [(a_said, .inl (cs 0, 123, .inl (o13.2 0))), (a, .inr (12, [.ref a_tape, .int a__taped, .int a__rules, .ref a_sign, .ref a_length, .ref a_clause, .ref a_clauses, .ref a_read, .int a__next, .int a__wrong, .int a__number, .int a__text, .int a__made, .int a__deep, .int a__lines, .ref a_open, .int a__opened, .ref a_stack, .int a__top, .ref a_word, .ref a_said, .int a__x, .ref a_worth, .ref a_mate, .ref a_wasSaid, .int a__undone, .int a__boughtNow, .ref a_wayBy, .ref a_wayThen, .int a__walkMost, .int a__walkGoing, .int a__walkSet, .ref a_kept, .long a__drawX, .ref a_images, .ref a_imageX, .ref a_isMade]))] H := hP
  have hD : va_D A [(a_said, .inl (cs 0, 123, .inl (o13.2 0))), (a, .inr (12, [.ref a_tape, .int a__taped, .int a__rules, .ref a_sign, .ref a_length, .ref a_clause, .ref a_clauses, .ref a_read, .int a__next, .int a__wrong, .int a__number, .int a__text, .int a__made, .int a__deep, .int a__lines, .ref a_open, .int a__opened, .ref a_stack, .int a__top, .ref a_word, .ref a_said, .int a__x, .ref a_worth, .ref a_mate, .ref a_wasSaid, .int a__undone, .int a__boughtNow, .ref a_wayBy, .ref a_wayThen, .int a__walkMost, .int a__walkGoing, .int a__walkSet, .ref a_kept, .long a__drawX, .ref a_images, .ref a_imageX, .ref a_isMade]))] := hD
  clear hk1 hFc hP1 hD1 hz1
  rcases hw with ⟨x14, x15, x16⟩
  refine W.widen (k := 0) (n := 0) (Nat.le_of_ble_eq_true rfl) (Nat.le_of_ble_eq_true rfl) ?_
  have g17 : ((o13.2 0) 3).toInt = (a_said_c 3).toInt + 1 := (by omega)
  exact W.vret hx hb hr (fun t ht hW => ⟨⟨(fun k => match k with | 0 => 0 | _ => 0, fun k => match k with | 0 => o13.2 0 | _ => fun _ => 0), rfl, (⟨x14, x15, g17⟩), by rw [ht]; exact hP.sub [0, 1] rfl, hD.sub [0, 1] (by decide) rfl⟩, hS.F ht⟩) hS.2.2 dX12_hourComes_14
