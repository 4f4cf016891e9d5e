theorem dX12_isTried_0 : decode cX12_isTried 0 = .ok (.iconst 0, 1) := by decide +kernel
theorem dX12_isTried_1 : decode cX12_isTried 1 = .ok (.istore_n 2, 1) := by decide +kernel
theorem dX12_isTried_2 : decode cX12_isTried 2 = .ok (.iload_n 2, 1) := by decide +kernel
theorem dX12_isTried_3 : decode cX12_isTried 3 = .ok (.aload_n 0, 1) := by decide +kernel
theorem dX12_isTried_4 : decode cX12_isTried 4 = .ok (.getfield 39, 3) := by decide +kernel
theorem dX12_isTried_7 : decode cX12_isTried 7 = .ok (.bipush 122, 2) := by decide +kernel
theorem dX12_isTried_9 : decode cX12_isTried 9 = .ok (.iaload, 1) := by decide +kernel
theorem dX12_isTried_10 : decode cX12_isTried 10 = .ok (.if_icmp .ge 100, 3) := by decide +kernel
theorem dX12_isTried_13 : decode cX12_isTried 13 = .ok (.aload_n 0, 1) := by decide +kernel
theorem dX12_isTried_14 : decode cX12_isTried 14 = .ok (.getfield 39, 3) := by decide +kernel
theorem dX12_isTried_17 : decode cX12_isTried 17 = .ok (.bipush 86, 2) := by decide +kernel
theorem dX12_isTried_19 : decode cX12_isTried 19 = .ok (.iconst 3, 1) := by decide +kernel
theorem dX12_isTried_20 : decode cX12_isTried 20 = .ok (.iload_n 2, 1) := by decide +kernel
theorem dX12_isTried_21 : decode cX12_isTried 21 = .ok (.imul, 1) := by decide +kernel
theorem dX12_isTried_22 : decode cX12_isTried 22 = .ok (.iadd, 1) := by decide +kernel
theorem dX12_isTried_23 : decode cX12_isTried 23 = .ok (.iaload, 1) := by decide +kernel
theorem dX12_isTried_24 : decode cX12_isTried 24 = .ok (.istore_n 3, 1) := by decide +kernel
theorem dX12_isTried_25 : decode cX12_isTried 25 = .ok (.aload_n 0, 1) := by decide +kernel
theorem dX12_isTried_26 : decode cX12_isTried 26 = .ok (.getfield 39, 3) := by decide +kernel
theorem dX12_isTried_29 : decode cX12_isTried 29 = .ok (.bipush 86, 2) := by decide +kernel
theorem dX12_isTried_31 : decode cX12_isTried 31 = .ok (.iconst 3, 1) := by decide +kernel
theorem dX12_isTried_32 : decode cX12_isTried 32 = .ok (.iload_n 2, 1) := by decide +kernel
theorem dX12_isTried_33 : decode cX12_isTried 33 = .ok (.imul, 1) := by decide +kernel
theorem dX12_isTried_34 : decode cX12_isTried 34 = .ok (.iadd, 1) := by decide +kernel
theorem dX12_isTried_35 : decode cX12_isTried 35 = .ok (.iconst 1, 1) := by decide +kernel
theorem dX12_isTried_36 : decode cX12_isTried 36 = .ok (.iadd, 1) := by decide +kernel
theorem dX12_isTried_37 : decode cX12_isTried 37 = .ok (.iaload, 1) := by decide +kernel
theorem dX12_isTried_38 : decode cX12_isTried 38 = .ok (.istore 4, 2) := by decide +kernel
theorem dX12_isTried_40 : decode cX12_isTried 40 = .ok (.iload_n 1, 1) := by decide +kernel
theorem dX12_isTried_41 : decode cX12_isTried 41 = .ok (.iload_n 3, 1) := by decide +kernel
theorem dX12_isTried_42 : decode cX12_isTried 42 = .ok (.invokestatic 215, 3) := by decide +kernel
theorem dX12_isTried_45 : decode cX12_isTried 45 = .ok (.ifCond .ne 23, 3) := by decide +kernel
theorem dX12_isTried_48 : decode cX12_isTried 48 = .ok (.iload_n 1, 1) := by decide +kernel
theorem dX12_isTried_49 : decode cX12_isTried 49 = .ok (.iload 4, 2) := by decide +kernel
theorem dX12_isTried_51 : decode cX12_isTried 51 = .ok (.invokestatic 215, 3) := by decide +kernel
theorem dX12_isTried_54 : decode cX12_isTried 54 = .ok (.ifCond .ne 14, 3) := by decide +kernel
theorem dX12_isTried_57 : decode cX12_isTried 57 = .ok (.aload_n 0, 1) := by decide +kernel
theorem dX12_isTried_58 : decode cX12_isTried 58 = .ok (.iload_n 3, 1) := by decide +kernel
theorem dX12_isTried_59 : decode cX12_isTried 59 = .ok (.iload 4, 2) := by decide +kernel
theorem dX12_isTried_61 : decode cX12_isTried 61 = .ok (.invokevirtual 311, 3) := by decide +kernel
theorem dX12_isTried_64 : decode cX12_isTried 64 = .ok (.iconst 2, 1) := by decide +kernel
theorem dX12_isTried_65 : decode cX12_isTried 65 = .ok (.if_icmp .ne 7, 3) := by decide +kernel
theorem dX12_isTried_68 : decode cX12_isTried 68 = .ok (.iconst 1, 1) := by decide +kernel
theorem dX12_isTried_69 : decode cX12_isTried 69 = .ok (.goto 4, 3) := by decide +kernel
theorem dX12_isTried_72 : decode cX12_isTried 72 = .ok (.iconst 0, 1) := by decide +kernel
theorem dX12_isTried_73 : decode cX12_isTried 73 = .ok (.istore 5, 2) := by decide +kernel
theorem dX12_isTried_75 : decode cX12_isTried 75 = .ok (.iload 5, 2) := by decide +kernel
theorem dX12_isTried_77 : decode cX12_isTried 77 = .ok (.aload_n 0, 1) := by decide +kernel
theorem dX12_isTried_78 : decode cX12_isTried 78 = .ok (.getfield 39, 3) := by decide +kernel
theorem dX12_isTried_81 : decode cX12_isTried 81 = .ok (.bipush 86, 2) := by decide +kernel
theorem dX12_isTried_83 : decode cX12_isTried 83 = .ok (.iconst 3, 1) := by decide +kernel
theorem dX12_isTried_84 : decode cX12_isTried 84 = .ok (.iload_n 2, 1) := by decide +kernel
theorem dX12_isTried_85 : decode cX12_isTried 85 = .ok (.imul, 1) := by decide +kernel
theorem dX12_isTried_86 : decode cX12_isTried 86 = .ok (.iadd, 1) := by decide +kernel
theorem dX12_isTried_87 : decode cX12_isTried 87 = .ok (.iconst 2, 1) := by decide +kernel
theorem dX12_isTried_88 : decode cX12_isTried 88 = .ok (.iadd, 1) := by decide +kernel
theorem dX12_isTried_89 : decode cX12_isTried 89 = .ok (.iaload, 1) := by decide +kernel
theorem dX12_isTried_90 : decode cX12_isTried 90 = .ok (.iconst 1, 1) := by decide +kernel
theorem dX12_isTried_91 : decode cX12_isTried 91 = .ok (.if_icmp .ne 7, 3) := by decide +kernel
theorem dX12_isTried_94 : decode cX12_isTried 94 = .ok (.iconst 1, 1) := by decide +kernel
theorem dX12_isTried_95 : decode cX12_isTried 95 = .ok (.goto 4, 3) := by decide +kernel
theorem dX12_isTried_98 : decode cX12_isTried 98 = .ok (.iconst 0, 1) := by decide +kernel
theorem dX12_isTried_99 : decode cX12_isTried 99 = .ok (.if_icmp .eq 5, 3) := by decide +kernel
theorem dX12_isTried_102 : decode cX12_isTried 102 = .ok (.iconst 0, 1) := by decide +kernel
theorem dX12_isTried_103 : decode cX12_isTried 103 = .ok (.ireturn, 1) := by decide +kernel
theorem dX12_isTried_104 : decode cX12_isTried 104 = .ok (.iinc 2 1, 3) := by decide +kernel
theorem dX12_isTried_107 : decode cX12_isTried 107 = .ok (.goto (-105), 3) := by decide +kernel
theorem dX12_isTried_110 : decode cX12_isTried 110 = .ok (.iconst 1, 1) := by decide +kernel
theorem dX12_isTried_111 : decode cX12_isTried 111 = .ok (.ireturn, 1) := by decide +kernel
set_option maxHeartbeats 4000000 in
set_option maxRecDepth 100000 in
theorem c_X12_isTried (l : Launch) (D : va_G) (cs : Nat → ClassId) (kK kV : Nat → Nat) (a : Nat) (p0 : Int32) (a_said : Nat) (a_said_c : Nat → Int32) (a_tape : Nat) (a__taped : Int32) (a__rules : Int32) (a_sign : Nat) (a_length : Nat) (a_clause : Nat) (a_clauses : Nat) (a_read : Nat) (a__next : Int32) (a__wrong : Int32) (a__number : Int32) (a__text : Int32) (a__made : Int32) (a__deep : Int32) (a__lines : Int32) (a_open : Nat) (a__opened : Int32) (a_stack : Nat) (a__top : Int32) (a_word : Nat) (a__x : Int32) (a_worth : Nat) (a_mate : Nat) (a_wasSaid : Nat) (a__undone : Int32) (a__boughtNow : Int32) (a_wayBy : Nat) (a_wayThen : Nat) (a__walkMost : Int32) (a__walkGoing : Int32) (a__walkSet : Int32) (a_kept : Nat) (a__drawX : Int64) (a_images : Nat) (a_imageX : Nat) (a_isMade : Nat) (h_a__taped : IV 0 400 a__taped) (h_a__rules : IV 0 6 a__rules) (h_a__next : IV 0 400 a__next) (h_a__text : IV 0 6 a__text) (h_a__made : IV 0 60 a__made) (h_a__lines : IV 0 40 a__lines) (h_a__opened : IV 0 400 a__opened) (h_a__top : IV 0 64 a__top) (h_a__x : IV 0 2147483647 a__x) (h_a__undone : IV 0 20 a__undone) (hf0 : BS a_said_c 200) (hf1 : TR a_said_c) : Met l yX12_isTried (hz_w yX12_isTried cX12_isTried 6 (some .boolean)) ({ frames := 2, cells := 0, slots := 0, locals := 45 }) (va_Pc [.ref a, .int p0] (hz_P D cs kK kV [(a_said, .inl (cs 0, 123, .inl a_said_c)), (a, .inr (12, [.ref a_tape, .int a__taped, .int a__rules, .ref a_sign, .ref a_length, .ref a_clause, .ref a_clauses, .ref a_read, .int a__next, .int a__wrong, .int a__number, .int a__text, .int a__made, .int a__deep, .int a__lines, .ref a_open, .int a__opened, .ref a_stack, .int a__top, .ref a_word, .ref a_said, .int a__x, .ref a_worth, .ref a_mate, .ref a_wasSaid, .int a__undone, .int a__boughtNow, .ref a_wayBy, .ref a_wayThen, .int a__walkMost, .int a__walkGoing, .int a__walkSet, .ref a_kept, .long a__drawX, .ref a_images, .ref a_imageX, .ref a_isMade]))])) (va_Qi (fun (r : Int32) (_ : Unit) => (r = 0) ∨ (r = 1)) (fun _ t => True) (fun _ => False)) 0 0 (fun _ => False) := by
  refine Met.ofW (cc := cX12_isTried) (maxL := 6) (ret := (some .boolean)) (by decide) rfl ?_
  intro p e s m args below meth c s₁ B hml hv
  obtain ⟨rfl, hP, hE⟩ := hv
  have hx := B.exec
  have hb := B.bytes
  have hr := B.returns
  have hT : ∀ w ∈ TB, w.before _ s = true := fun w h => atoms_spec (ws := hz_w yX12_isTried cX12_isTried 6 (some .boolean)) B.pre w (List.mem_cons_of_mem _ h)
  have hown : s.vm.findClass RX12 = some m.cls := findClass_of_methodNamed B.named
  have hlocks := B.notSynchronized
  clear B
  have hS : va_S (fun _ => False) s.heap s.heap [] := va_S.rf
  have hK := hE.1
  have hl := lv_entry ([.ref a, .int p0]) (n := 6) (Nat.le_of_ble_eq_true rfl)
  rw [lg_entry_eq]
  generalize (lg_sl ([.ref a, .int p0]) ++ List.replicate (6 - (lg_sl ([.ref a, .int p0])).length) Slot.unset).toArray = ls at hl ⊢
  have hl : lv_has ls 6 [(0, .ref a), (1, .int p0)] := hl
  obtain ⟨H, eH⟩ : ∃ z, z = s.heap := ⟨_, rfl⟩
  have hP : va_P D classes [(a_said, .inl (cs 0, 123, .inl a_said_c)), (a, .inr (12, [.ref a_tape, .int a__taped, .int a__rules, .ref a_sign, .ref a_length, .ref a_clause, .ref a_clauses, .ref a_read, .int a__next, .int a__wrong, .int a__number, .int a__text, .int a__made, .int a__deep, .int a__lines, .ref a_open, .int a__opened, .ref a_stack, .int a__top, .ref a_word, .ref a_said, .int a__x, .ref a_worth, .ref a_mate, .ref a_wasSaid, .int a__undone, .int a__boughtNow, .ref a_wayBy, .ref a_wayThen, .int a__walkMost, .int a__walkGoing, .int a__walkSet, .ref a_kept, .long a__drawX, .ref a_images, .ref a_imageX, .ref a_isMade]))] H := by rw [eH]; exact hP
  have hS : va_S (fun _ => False) s.heap H [] := by rw [eH]; exact hS
  rw [← eH]
  clear eH
  obtain ⟨locs, el⟩ : ∃ z : List Loc, z = [] := ⟨_, rfl⟩
  rw [← el] at hS ⊢
  clear el
  have z0 : (0 : Int32).toInt = 0 := by decide
  have z1 : (1 : Int32).toInt = 1 := by decide
  have zm1 : (-1 : Int32).toInt = -1 := by decide
  have i_a__lines : 0 ≤ a__lines.toInt ∧ a__lines.toInt ≤ 40 := h_a__lines
  have i_a__made : 0 ≤ a__made.toInt ∧ a__made.toInt ≤ 60 := h_a__made
  have i_a__next : 0 ≤ a__next.toInt ∧ a__next.toInt ≤ 400 := h_a__next
  have i_a__opened : 0 ≤ a__opened.toInt ∧ a__opened.toInt ≤ 400 := h_a__opened
  have i_a__rules : 0 ≤ a__rules.toInt ∧ a__rules.toInt ≤ 6 := h_a__rules
  have i_a__taped : 0 ≤ a__taped.toInt ∧ a__taped.toInt ≤ 400 := h_a__taped
  have i_a__text : 0 ≤ a__text.toInt ∧ a__text.toInt ≤ 6 := h_a__text
  have i_a__top : 0 ≤ a__top.toInt ∧ a__top.toInt ≤ 64 := h_a__top
  have i_a__undone : 0 ≤ a__undone.toInt ∧ a__undone.toInt ≤ 20 := h_a__undone
  have i_a__x : 0 ≤ a__x.toInt ∧ a__x.toInt ≤ 2147483647 := h_a__x
  have K2 : ∀ (n : Nat) (k2_L_2 : Int32), (13 - k2_L_2.toInt).toNat ≤ n → IV 0 12 k2_L_2 → ∀ (H : Heap) (locs : List Loc), va_P D classes [(a_said, .inl (cs 0, 123, .inl a_said_c)), (a, .inr (12, [.ref a_tape, .int a__taped, .int a__rules, .ref a_sign, .ref a_length, .ref a_clause, .ref a_clauses, .ref a_read, .int a__next, .int a__wrong, .int a__number, .int a__text, .int a__made, .int a__deep, .int a__lines, .ref a_open, .int a__opened, .ref a_stack, .int a__top, .ref a_word, .ref a_said, .int a__x, .ref a_worth, .ref a_mate, .ref a_wasSaid, .int a__undone, .int a__boughtNow, .ref a_wayBy, .ref a_wayThen, .int a__walkMost, .int a__walkGoing, .int a__walkSet, .ref a_kept, .long a__drawX, .ref a_images, .ref a_imageX, .ref a_isMade]))] H → va_S (fun _ => False) s.heap H locs → ∀ ls : Array Slot, lv_has ls 6 [(2, .int k2_L_2), (0, .ref a), (1, .int p0)] → W p l e (headSpec (hz_w yX12_isTried cX12_isTried 6 (some .boolean)) ({ frames := 2, cells := 0, slots := 0, locals := 45 })).room s m [.ref a, .int p0].toArray below meth c H locs 0 0 (MQ below (va_Qi (fun (r : Int32) (_ : Unit) => (r = 0) ∨ (r = 1)) (fun _ t => True) (fun _ => False)) [.ref a, .int p0].toArray s 0 0 (fun _ => False)) (F0 m 2 ls []) := by
    intro n
    induction n with
    | zero =>
      intro k2_L_2 hn q2_10 H locs hP hS ls hl
      have i_a__lines : 0 ≤ a__lines.toInt ∧ a__lines.toInt ≤ 40 := h_a__lines
      have i_a__made : 0 ≤ a__made.toInt ∧ a__made.toInt ≤ 60 := h_a__made
      have i_a__next : 0 ≤ a__next.toInt ∧ a__next.toInt ≤ 400 := h_a__next
      have i_a__opened : 0 ≤ a__opened.toInt ∧ a__opened.toInt ≤ 400 := h_a__opened
      have i_a__rules : 0 ≤ a__rules.toInt ∧ a__rules.toInt ≤ 6 := h_a__rules
      have i_a__taped : 0 ≤ a__taped.toInt ∧ a__taped.toInt ≤ 400 := h_a__taped
      have i_a__text : 0 ≤ a__text.toInt ∧ a__text.toInt ≤ 6 := h_a__text
      have i_a__top : 0 ≤ a__top.toInt ∧ a__top.toInt ≤ 64 := h_a__top
      have i_a__undone : 0 ≤ a__undone.toInt ∧ a__undone.toInt ≤ 20 := h_a__undone
      have i_a__x : 0 ≤ a__x.toInt ∧ a__x.toInt ≤ 2147483647 := h_a__x
      have i_k2_L_2 : 0 ≤ k2_L_2.toInt ∧ k2_L_2.toInt ≤ 12 := q2_10
      exact absurd hn (by omega)
    | succ n ih2 =>
      intro k2_L_2 hn q2_10 H locs hP hS ls hl
      have i_a__lines : 0 ≤ a__lines.toInt ∧ a__lines.toInt ≤ 40 := h_a__lines
      have i_a__made : 0 ≤ a__made.toInt ∧ a__made.toInt ≤ 60 := h_a__made
      have i_a__next : 0 ≤ a__next.toInt ∧ a__next.toInt ≤ 400 := h_a__next
      have i_a__opened : 0 ≤ a__opened.toInt ∧ a__opened.toInt ≤ 400 := h_a__opened
      have i_a__rules : 0 ≤ a__rules.toInt ∧ a__rules.toInt ≤ 6 := h_a__rules
      have i_a__taped : 0 ≤ a__taped.toInt ∧ a__taped.toInt ≤ 400 := h_a__taped
      have i_a__text : 0 ≤ a__text.toInt ∧ a__text.toInt ≤ 6 := h_a__text
      have i_a__top : 0 ≤ a__top.toInt ∧ a__top.toInt ≤ 64 := h_a__top
      have i_a__undone : 0 ≤ a__undone.toInt ∧ a__undone.toInt ≤ 20 := h_a__undone
      have i_a__x : 0 ≤ a__x.toInt ∧ a__x.toInt ≤ 2147483647 := h_a__x
      have i_k2_L_2 : 0 ≤ k2_L_2.toInt ∧ k2_L_2.toInt ≤ 12 := q2_10
      refine lv_iload_n hx hb dX12_isTried_2 rfl (lv_at hl 0 rfl) ?_
      refine lv_aload_n hx hb dX12_isTried_3 rfl (lv_at hl 1 rfl) ?_
      refine va_get (D := D) (ci := 12) (v := .ref a_said) (C := RX12) (T := TX12) (N := 37) hx hb hT i_X12 hown hK hP 1 rfl rfl 20 (by decide) (hT _ q_185) (fun _ h9 => h9) rfl dX12_isTried_4 ?_
      refine lv_bipush (v := 122) hx hb dX12_isTried_7 (by decide) ?_
      refine va_iald hx hb hK hP 0 0 rfl rfl (iv_vc (by decide)) dX12_isTried_9 ?_
      refine lv_topi (fun v1 ev1 => ?_)
      have lv1 : v1.toInt = (a_said_c 122).toInt := by rw [ev1]; rfl
      have h2 : IV 0 12 v1 := (by rw [ev1]; exact hf1.1)
      have ii3 : 0 ≤ v1.toInt ∧ v1.toInt ≤ 12 := h2
      refine lv_icmp_ge (tgt := 110) hx hb dX12_isTried_10 (by decide) (fun c4 => ?_) (fun c4 => ?_)
      · have t5 : k2_L_2.toInt ≥ v1.toInt := lin_ge c4 rfl rfl
        refine lv_iconst (v := 1) hx hb dX12_isTried_110 (by decide) ?_
        exact W.zret (v := 1) hx hb hr rfl (fun t ht hW => ⟨⟨1, (), rfl, (Or.inr ((rfl))), trivial⟩, hS.F ht⟩) hS.2.2 dX12_isTried_111
      · have t6 : k2_L_2.toInt < v1.toInt := lin_geN c4 rfl rfl
        have h7 : IV 0 11 k2_L_2 := iv_lt1 (Int32.not_le.mp c4) q2_10 h2 (by decide)
        have ii8 : 0 ≤ k2_L_2.toInt ∧ k2_L_2.toInt ≤ 11 := h7
        have h9 : IV 1 12 v1 := iv_lt2 (Int32.not_le.mp c4) q2_10 h2 (by decide)
        have ii10 : 1 ≤ v1.toInt ∧ v1.toInt ≤ 12 := h9
        refine lv_aload_n hx hb dX12_isTried_13 rfl (lv_at hl 1 rfl) ?_
        refine va_get (D := D) (ci := 12) (v := .ref a_said) (C := RX12) (T := TX12) (N := 37) hx hb hT i_X12 hown hK hP 1 rfl rfl 20 (by decide) (hT _ q_185) (fun _ h9 => h9) rfl dX12_isTried_14 ?_
        refine lv_bipush (v := 86) hx hb dX12_isTried_17 (by decide) ?_
        refine lv_iconst (v := 3) hx hb dX12_isTried_19 (by decide) ?_
        refine lv_iload_n hx hb dX12_isTried_20 rfl (lv_at hl 0 rfl) ?_
        refine lv_imul hx hb dX12_isTried_21 ?_
        refine lv_topi (fun v11 ev11 => ?_)
        have hv11 : IV 0 33 v11 := iv_mul ev11 (iv_c (a := 3) (b := 3) (by decide)) h7 (by decide) (by decide) (by decide) (by decide)
        have ii12 : 0 ≤ v11.toInt ∧ v11.toInt ≤ 33 := hv11
        have lv11 : v11.toInt = 3 * k2_L_2.toInt := lin_mul ev11 (iv_c (a := 3) (b := 3) (by decide)) h7 (by decide) rfl (by decide) (by decide) (by decide) (by decide)
        refine lv_iadd hx hb dX12_isTried_22 ?_
        refine lv_topi (fun v13 ev13 => ?_)
        have hv13 : IV 86 119 v13 := iv_add ev13 (iv_c (a := 86) (b := 86) (by decide)) hv11 (by decide) (by decide)
        have ii14 : 86 ≤ v13.toInt ∧ v13.toInt ≤ 119 := hv13
        have lv13 : v13.toInt = 86 + v11.toInt := lin_add ev13 (iv_c (a := 86) (b := 86) (by decide)) hv11 (by decide) rfl (by decide) (by decide)
        refine va_iald hx hb hK hP 0 0 rfl rfl (iv_v hv13 (by decide) (by decide)) dX12_isTried_23 ?_
        refine lv_topi (fun v15 ev15 => ?_)
        have lv15 : v15.toInt = (a_said_c (Int32.toNatClampNeg v13)).toInt := by rw [ev15]
        have h16 : IV 0 11 v15 := (by have q := (hf1.2 k2_L_2.toInt.toNat (by omega)).1; rw [(show v15 = a_said_c (86 + 3 * k2_L_2.toInt.toNat) from (by rw [ev15]; show a_said_c (v13.toInt.toNat) = _; congr 1; omega))]; exact q)
        have ii17 : 0 ≤ v15.toInt ∧ v15.toInt ≤ 11 := h16
        refine lv_istore_n (lv' := [(3, .int v15), (2, .int k2_L_2), (0, .ref a), (1, .int p0)]) hx hb dX12_isTried_24 rfl hl (by decide) rfl (fun ls hl => ?_)
        refine lv_aload_n hx hb dX12_isTried_25 rfl (lv_at hl 2 rfl) ?_
        refine va_get (D := D) (ci := 12) (v := .ref a_said) (C := RX12) (T := TX12) (N := 37) hx hb hT i_X12 hown hK hP 1 rfl rfl 20 (by decide) (hT _ q_185) (fun _ h9 => h9) rfl dX12_isTried_26 ?_
        refine lv_bipush (v := 86) hx hb dX12_isTried_29 (by decide) ?_
        refine lv_iconst (v := 3) hx hb dX12_isTried_31 (by decide) ?_
        refine lv_iload_n hx hb dX12_isTried_32 rfl (lv_at hl 1 rfl) ?_
        refine lv_imul hx hb dX12_isTried_33 ?_
        refine lv_topi (fun v18 ev18 => ?_)
        have hv18 : IV 0 33 v18 := iv_mul ev18 (iv_c (a := 3) (b := 3) (by decide)) h7 (by decide) (by decide) (by decide) (by decide)
        have ii19 : 0 ≤ v18.toInt ∧ v18.toInt ≤ 33 := hv18
        have lv18 : v18.toInt = 3 * k2_L_2.toInt := lin_mul ev18 (iv_c (a := 3) (b := 3) (by decide)) h7 (by decide) rfl (by decide) (by decide) (by decide) (by decide)
        refine lv_iadd hx hb dX12_isTried_34 ?_
        refine lv_topi (fun v20 ev20 => ?_)
        have hv20 : IV 86 119 v20 := iv_add ev20 (iv_c (a := 86) (b := 86) (by decide)) hv18 (by decide) (by decide)
        have ii21 : 86 ≤ v20.toInt ∧ v20.toInt ≤ 119 := hv20
        have lv20 : v20.toInt = 86 + v18.toInt := lin_add ev20 (iv_c (a := 86) (b := 86) (by decide)) hv18 (by decide) rfl (by decide) (by decide)
        refine lv_iconst (v := 1) hx hb dX12_isTried_35 (by decide) ?_
        refine lv_iadd hx hb dX12_isTried_36 ?_
        refine lv_topi (fun v22 ev22 => ?_)
        have hv22 : IV 87 120 v22 := iv_add ev22 hv20 (iv_c (a := 1) (b := 1) (by decide)) (by decide) (by decide)
        have ii23 : 87 ≤ v22.toInt ∧ v22.toInt ≤ 120 := hv22
        have dv22 : v22.toInt = v20.toInt + 1 := iv_addE ev22 hv20 (iv_c (a := 1) (b := 1) (by decide)) (by decide) (by decide) (by decide)
        have lv22 : v22.toInt = v20.toInt + 1 := lin_add ev22 hv20 (iv_c (a := 1) (b := 1) (by decide)) rfl (by decide) (by decide) (by decide)
        refine va_iald hx hb hK hP 0 0 rfl rfl (iv_v hv22 (by decide) (by decide)) dX12_isTried_37 ?_
        refine lv_topi (fun v24 ev24 => ?_)
        have lv24 : v24.toInt = (a_said_c (Int32.toNatClampNeg v22)).toInt := by rw [ev24]
        have h25 : IV 0 11 v24 := (by have q := (hf1.2 k2_L_2.toInt.toNat (by omega)).2; rw [(show v24 = a_said_c (87 + 3 * k2_L_2.toInt.toNat) from (by rw [ev24]; show a_said_c (v22.toInt.toNat) = _; congr 1; omega))]; exact q)
        have ii26 : 0 ≤ v24.toInt ∧ v24.toInt ≤ 11 := h25
        refine lv_istore (lv' := [(4, .int v24), (3, .int v15), (2, .int k2_L_2), (0, .ref a), (1, .int p0)]) hx hb dX12_isTried_38 hl (by decide) rfl (fun ls hl => ?_)
        refine lv_iload_n hx hb dX12_isTried_40 rfl (lv_at hl 4 rfl) ?_
        refine lv_iload_n hx hb dX12_isTried_41 rfl (lv_at hl 1 rfl) ?_
        refine va_calli (va_runS (As := [.int p0, .int v15]) (rest := []) ⟨hx, hb, hml, hown, hT⟩ (c_X12_isOf l D cs kK kV p0 v15) (va_cwS 2 hT (hz_gS q_1034 q_1035 q_701 q_1036) rfl rfl rfl (by decide +kernel) ⟨(Nat.le_of_ble_eq_true rfl), (Nat.le_of_ble_eq_true rfl)⟩) ⟨hz_P.blind, hz_P.mk (hP.sub (ws' := []) [] rfl) hE hS⟩ rfl rfl hl.1 rfl (lv_room (Nat.le_of_ble_eq_true rfl)) dX12_isTried_42 ⟨(Nat.le_of_ble_eq_true rfl), (Nat.le_of_ble_eq_true rfl)⟩) hS (fun _ _ h => h.elim) (fun _ h => h.elim) (fun r27 u t H1 locs ht hvm hw hB hz1 hk1 hS => ?_)
        have hP := hz_keep hP hk1
        clear hk1 hB hz1
        generalize H1 = H at hP hS ⊢
        rcases hw with ⟨rfl, x28⟩ | ⟨rfl, x29⟩
        · refine lv_if_ne (tgt := 68) hx hb dX12_isTried_45 (by decide) (fun z => absurd (by decide) z) (fun _ => ?_)
          refine lv_iload_n hx hb dX12_isTried_48 rfl (lv_at hl 4 rfl) ?_
          refine lv_iload hx hb dX12_isTried_49 (lv_at hl 0 rfl) ?_
          refine va_calli (va_runS (As := [.int p0, .int v24]) (rest := []) ⟨hx, hb, hml, hown, hT⟩ (c_X12_isOf l D cs kK kV p0 v24) (va_cwS 2 hT (hz_gS q_1034 q_1035 q_701 q_1036) rfl rfl rfl (by decide +kernel) ⟨(Nat.le_of_ble_eq_true rfl), (Nat.le_of_ble_eq_true rfl)⟩) ⟨hz_P.blind, hz_P.mk (hP.sub (ws' := []) [] rfl) hE hS⟩ rfl rfl hl.1 rfl (lv_room (Nat.le_of_ble_eq_true rfl)) dX12_isTried_51 ⟨(Nat.le_of_ble_eq_true rfl), (Nat.le_of_ble_eq_true rfl)⟩) hS (fun _ _ h => h.elim) (fun _ h => h.elim) (fun r30 u t H1 locs ht hvm hw hB hz1 hk1 hS => ?_)
          have hP := hz_keep hP hk1
          clear hk1 hB hz1
          generalize H1 = H at hP hS ⊢
          rcases hw with ⟨rfl, x31⟩ | ⟨rfl, x32⟩
          · refine lv_if_ne (tgt := 68) hx hb dX12_isTried_54 (by decide) (fun z => absurd (by decide) z) (fun _ => ?_)
            refine lv_aload_n hx hb dX12_isTried_57 rfl (lv_at hl 3 rfl) ?_
            refine lv_iload_n hx hb dX12_isTried_58 rfl (lv_at hl 1 rfl) ?_
            refine lv_iload hx hb dX12_isTried_59 (lv_at hl 0 rfl) ?_
            refine va_calli (va_runV (As := [.int v15, .int v24]) (rest := []) ⟨hx, hb, hml, hown, hT⟩ (c_X12_fitTold l D cs kK kV a v15 v24 a_tape a__taped a__rules a_sign a_length a_clause a_clauses a_read a__next a__wrong a__number a__text a__made a__deep a__lines a_open a__opened a_stack a__top a_word a_said a__x a_worth a_mate a_wasSaid a__undone a__boughtNow a_wayBy a_wayThen a__walkMost a__walkGoing a__walkSet a_kept a__drawX a_images a_imageX a_isMade a_said_c h16 h25 h_a__taped h_a__rules h_a__next h_a__text h_a__made h_a__lines h_a__opened h_a__top h_a__x h_a__undone) (cwV 2 hT (hz_gV q_1116 q_1117 q_1118 q_701 q_1119) rfl rfl rfl (by decide +kernel) ⟨(Nat.le_of_ble_eq_true rfl), (Nat.le_of_ble_eq_true rfl)⟩) ⟨hz_P.blind, va_recv hK hP (ci := 12) (q0 := 1) rfl rfl, hz_P.mk (hP.sub (ws' := [(a, .inr (12, [.ref a_tape, .int a__taped, .int a__rules, .ref a_sign, .ref a_length, .ref a_clause, .ref a_clauses, .ref a_read, .int a__next, .int a__wrong, .int a__number, .int a__text, .int a__made, .int a__deep, .int a__lines, .ref a_open, .int a__opened, .ref a_stack, .int a__top, .ref a_word, .ref a_said, .int a__x, .ref a_worth, .ref a_mate, .ref a_wasSaid, .int a__undone, .int a__boughtNow, .ref a_wayBy, .ref a_wayThen, .int a__walkMost, .int a__walkGoing, .int a__walkSet, .ref a_kept, .long a__drawX, .ref a_images, .ref a_imageX, .ref a_isMade])), (a_said, .inl (cs 0, 123, .inl a_said_c))]) [1,0] rfl) hE hS⟩ rfl rfl hl.1 rfl (lv_room (Nat.le_of_ble_eq_true rfl)) dX12_isTried_61 ⟨(Nat.le_of_ble_eq_true rfl), (Nat.le_of_ble_eq_true rfl)⟩) hS (fun _ _ h => h.elim) (fun _ h => h.elim) (fun r33 u t H1 locs ht hvm hw hB hz1 hk1 hS => ?_)
            have hP := hz_keep hP hk1
            clear hk1 hB hz1
            generalize H1 = H at hP hS ⊢
            rcases hw with rfl | rfl | rfl
            · refine lv_iconst (v := 2) hx hb dX12_isTried_64 (by decide) ?_
              refine lv_icmp_ne (tgt := 72) hx hb dX12_isTried_65 (by decide) (fun _ => ?_) (fun z => absurd z (by decide))
              refine lv_iconst (v := 0) hx hb dX12_isTried_72 (by decide) ?_
              refine lv_istore (lv' := [(5, .int 0), (4, .int v24), (3, .int v15), (2, .int k2_L_2), (0, .ref a), (1, .int p0)]) hx hb dX12_isTried_73 hl (by decide) rfl (fun ls hl => ?_)
              refine lv_iload hx hb dX12_isTried_75 (lv_at hl 0 rfl) ?_
              refine lv_aload_n hx hb dX12_isTried_77 rfl (lv_at hl 4 rfl) ?_
              refine va_get (D := D) (ci := 12) (v := .ref a_said) (C := RX12) (T := TX12) (N := 37) hx hb hT i_X12 hown hK hP 1 rfl rfl 20 (by decide) (hT _ q_185) (fun _ h9 => h9) rfl dX12_isTried_78 ?_
              refine lv_bipush (v := 86) hx hb dX12_isTried_81 (by decide) ?_
              refine lv_iconst (v := 3) hx hb dX12_isTried_83 (by decide) ?_
              refine lv_iload_n hx hb dX12_isTried_84 rfl (lv_at hl 3 rfl) ?_
              refine lv_imul hx hb dX12_isTried_85 ?_
              refine lv_topi (fun v34 ev34 => ?_)
              have hv34 : IV 0 33 v34 := iv_mul ev34 (iv_c (a := 3) (b := 3) (by decide)) h7 (by decide) (by decide) (by decide) (by decide)
              have ii35 : 0 ≤ v34.toInt ∧ v34.toInt ≤ 33 := hv34
              have lv34 : v34.toInt = 3 * k2_L_2.toInt := lin_mul ev34 (iv_c (a := 3) (b := 3) (by decide)) h7 (by decide) rfl (by decide) (by decide) (by decide) (by decide)
              refine lv_iadd hx hb dX12_isTried_86 ?_
              refine lv_topi (fun v36 ev36 => ?_)
              have hv36 : IV 86 119 v36 := iv_add ev36 (iv_c (a := 86) (b := 86) (by decide)) hv34 (by decide) (by decide)
              have ii37 : 86 ≤ v36.toInt ∧ v36.toInt ≤ 119 := hv36
              have lv36 : v36.toInt = 86 + v34.toInt := lin_add ev36 (iv_c (a := 86) (b := 86) (by decide)) hv34 (by decide) rfl (by decide) (by decide)
              refine lv_iconst (v := 2) hx hb dX12_isTried_87 (by decide) ?_
              refine lv_iadd hx hb dX12_isTried_88 ?_
              refine lv_topi (fun v38 ev38 => ?_)
              have hv38 : IV 88 121 v38 := iv_add ev38 hv36 (iv_c (a := 2) (b := 2) (by decide)) (by decide) (by decide)
              have ii39 : 88 ≤ v38.toInt ∧ v38.toInt ≤ 121 := hv38
              have dv38 : v38.toInt = v36.toInt + 2 := iv_addE ev38 hv36 (iv_c (a := 2) (b := 2) (by decide)) (by decide) (by decide) (by decide)
              have lv38 : v38.toInt = v36.toInt + 2 := lin_add ev38 hv36 (iv_c (a := 2) (b := 2) (by decide)) rfl (by decide) (by decide) (by decide)
              refine va_iald hx hb hK hP 0 0 rfl rfl (iv_v hv38 (by decide) (by decide)) dX12_isTried_89 ?_
              refine lv_topi (fun v40 ev40 => ?_)
              have lv40 : v40.toInt = (a_said_c (Int32.toNatClampNeg v38)).toInt := by rw [ev40]
              refine lv_iconst (v := 1) hx hb dX12_isTried_90 (by decide) ?_
              refine lv_icmp_ne (tgt := 98) hx hb dX12_isTried_91 (by decide) (fun c41 => ?_) (fun c41 => ?_)
              · have t42 : v40.toInt ≠ 1 := lin_ne c41 rfl (by decide)
                refine lv_iconst (v := 0) hx hb dX12_isTried_98 (by decide) ?_
                refine lv_icmp_eq (tgt := 104) hx hb dX12_isTried_99 (by decide) (fun _ => ?_) (fun z => absurd (by decide) z)
                obtain ⟨v43, ev43⟩ : ∃ z : Int32, z = k2_L_2 + 1 := ⟨_, rfl⟩
                have hv43 : IV 1 12 v43 := iv_add ev43 h7 (iv_c (a := 1) (b := 1) (by decide)) (by decide) (by decide)
                have dv43 : v43.toInt = k2_L_2.toInt + 1 := iv_addE ev43 h7 (iv_c (a := 1) (b := 1) (by decide)) (by decide) (by decide) (by decide)
                refine lv_iinc (v := v43) (lv' := [(2, .int v43), (5, .int 0), (4, .int v24), (3, .int v15), (0, .ref a), (1, .int p0)]) hx hb dX12_isTried_104 hl (k := 3) rfl (by rw [ev43]; rfl) (by decide) rfl (fun ls hl => ?_)
                refine lv_goto (tgt := 2) hx hb dX12_isTried_107 (by decide) ?_
                exact ih2 v43 (by have h9 := hn; omega) (iv_w hv43 (by decide) (by decide)) H locs (hP.sub (ws' := [(a_said, .inl (cs 0, 123, .inl a_said_c)), (a, .inr (12, [.ref a_tape, .int a__taped, .int a__rules, .ref a_sign, .ref a_length, .ref a_clause, .ref a_clauses, .ref a_read, .int a__next, .int a__wrong, .int a__number, .int a__text, .int a__made, .int a__deep, .int a__lines, .ref a_open, .int a__opened, .ref a_stack, .int a__top, .ref a_word, .ref a_said, .int a__x, .ref a_worth, .ref a_mate, .ref a_wasSaid, .int a__undone, .int a__boughtNow, .ref a_wayBy, .ref a_wayThen, .int a__walkMost, .int a__walkGoing, .int a__walkSet, .ref a_kept, .long a__drawX, .ref a_images, .ref a_imageX, .ref a_isMade]))]) [0, 1] rfl) hS ls (lv_sub hl [0, 4, 5] rfl)
              · have t44 : v40.toInt = 1 := lin_eqN c41 rfl (by decide)
                have h45 : IV 1 1 v40 := iv_eq1 c41 iv_top (iv_c (a := 1) (b := 1) (by decide)) (by decide) (by decide)
                have ii46 : 1 ≤ v40.toInt ∧ v40.toInt ≤ 1 := h45
                refine lv_iconst (v := 1) hx hb dX12_isTried_94 (by decide) ?_
                refine lv_goto (tgt := 99) hx hb dX12_isTried_95 (by decide) ?_
                refine lv_icmp_eq (tgt := 104) hx hb dX12_isTried_99 (by decide) (fun z => absurd z (by decide)) (fun _ => ?_)
                refine lv_iconst (v := 0) hx hb dX12_isTried_102 (by decide) ?_
                exact W.zret (v := 0) hx hb hr rfl (fun t ht hW => ⟨⟨0, (), rfl, (Or.inl (rfl)), trivial⟩, hS.F ht⟩) hS.2.2 dX12_isTried_103
            · refine lv_iconst (v := 2) hx hb dX12_isTried_64 (by decide) ?_
              refine lv_icmp_ne (tgt := 72) hx hb dX12_isTried_65 (by decide) (fun _ => ?_) (fun z => absurd z (by decide))
              refine lv_iconst (v := 0) hx hb dX12_isTried_72 (by decide) ?_
              refine lv_istore (lv' := [(5, .int 0), (4, .int v24), (3, .int v15), (2, .int k2_L_2), (0, .ref a), (1, .int p0)]) hx hb dX12_isTried_73 hl (by decide) rfl (fun ls hl => ?_)
              refine lv_iload hx hb dX12_isTried_75 (lv_at hl 0 rfl) ?_
              refine lv_aload_n hx hb dX12_isTried_77 rfl (lv_at hl 4 rfl) ?_
              refine va_get (D := D) (ci := 12) (v := .ref a_said) (C := RX12) (T := TX12) (N := 37) hx hb hT i_X12 hown hK hP 1 rfl rfl 20 (by decide) (hT _ q_185) (fun _ h9 => h9) rfl dX12_isTried_78 ?_
              refine lv_bipush (v := 86) hx hb dX12_isTried_81 (by decide) ?_
              refine lv_iconst (v := 3) hx hb dX12_isTried_83 (by decide) ?_
              refine lv_iload_n hx hb dX12_isTried_84 rfl (lv_at hl 3 rfl) ?_
              refine lv_imul hx hb dX12_isTried_85 ?_
              refine lv_topi (fun v47 ev47 => ?_)
              have hv47 : IV 0 33 v47 := iv_mul ev47 (iv_c (a := 3) (b := 3) (by decide)) h7 (by decide) (by decide) (by decide) (by decide)
              have ii48 : 0 ≤ v47.toInt ∧ v47.toInt ≤ 33 := hv47
              have lv47 : v47.toInt = 3 * k2_L_2.toInt := lin_mul ev47 (iv_c (a := 3) (b := 3) (by decide)) h7 (by decide) rfl (by decide) (by decide) (by decide) (by decide)
              refine lv_iadd hx hb dX12_isTried_86 ?_
              refine lv_topi (fun v49 ev49 => ?_)
              have hv49 : IV 86 119 v49 := iv_add ev49 (iv_c (a := 86) (b := 86) (by decide)) hv47 (by decide) (by decide)
              have ii50 : 86 ≤ v49.toInt ∧ v49.toInt ≤ 119 := hv49
              have lv49 : v49.toInt = 86 + v47.toInt := lin_add ev49 (iv_c (a := 86) (b := 86) (by decide)) hv47 (by decide) rfl (by decide) (by decide)
              refine lv_iconst (v := 2) hx hb dX12_isTried_87 (by decide) ?_
              refine lv_iadd hx hb dX12_isTried_88 ?_
              refine lv_topi (fun v51 ev51 => ?_)
              have hv51 : IV 88 121 v51 := iv_add ev51 hv49 (iv_c (a := 2) (b := 2) (by decide)) (by decide) (by decide)
              have ii52 : 88 ≤ v51.toInt ∧ v51.toInt ≤ 121 := hv51
              have dv51 : v51.toInt = v49.toInt + 2 := iv_addE ev51 hv49 (iv_c (a := 2) (b := 2) (by decide)) (by decide) (by decide) (by decide)
              have lv51 : v51.toInt = v49.toInt + 2 := lin_add ev51 hv49 (iv_c (a := 2) (b := 2) (by decide)) rfl (by decide) (by decide) (by decide)
              refine va_iald hx hb hK hP 0 0 rfl rfl (iv_v hv51 (by decide) (by decide)) dX12_isTried_89 ?_
              refine lv_topi (fun v53 ev53 => ?_)
              have lv53 : v53.toInt = (a_said_c (Int32.toNatClampNeg v51)).toInt := by rw [ev53]
              refine lv_iconst (v := 1) hx hb dX12_isTried_90 (by decide) ?_
              refine lv_icmp_ne (tgt := 98) hx hb dX12_isTried_91 (by decide) (fun c54 => ?_) (fun c54 => ?_)
              · have t55 : v53.toInt ≠ 1 := lin_ne c54 rfl (by decide)
                refine lv_iconst (v := 0) hx hb dX12_isTried_98 (by decide) ?_
                refine lv_icmp_eq (tgt := 104) hx hb dX12_isTried_99 (by decide) (fun _ => ?_) (fun z => absurd (by decide) z)
                obtain ⟨v56, ev56⟩ : ∃ z : Int32, z = k2_L_2 + 1 := ⟨_, rfl⟩
                have hv56 : IV 1 12 v56 := iv_add ev56 h7 (iv_c (a := 1) (b := 1) (by decide)) (by decide) (by decide)
                have dv56 : v56.toInt = k2_L_2.toInt + 1 := iv_addE ev56 h7 (iv_c (a := 1) (b := 1) (by decide)) (by decide) (by decide) (by decide)
                refine lv_iinc (v := v56) (lv' := [(2, .int v56), (5, .int 0), (4, .int v24), (3, .int v15), (0, .ref a), (1, .int p0)]) hx hb dX12_isTried_104 hl (k := 3) rfl (by rw [ev56]; rfl) (by decide) rfl (fun ls hl => ?_)
                refine lv_goto (tgt := 2) hx hb dX12_isTried_107 (by decide) ?_
                exact ih2 v56 (by have h9 := hn; omega) (iv_w hv56 (by decide) (by decide)) H locs (hP.sub (ws' := [(a_said, .inl (cs 0, 123, .inl a_said_c)), (a, .inr (12, [.ref a_tape, .int a__taped, .int a__rules, .ref a_sign, .ref a_length, .ref a_clause, .ref a_clauses, .ref a_read, .int a__next, .int a__wrong, .int a__number, .int a__text, .int a__made, .int a__deep, .int a__lines, .ref a_open, .int a__opened, .ref a_stack, .int a__top, .ref a_word, .ref a_said, .int a__x, .ref a_worth, .ref a_mate, .ref a_wasSaid, .int a__undone, .int a__boughtNow, .ref a_wayBy, .ref a_wayThen, .int a__walkMost, .int a__walkGoing, .int a__walkSet, .ref a_kept, .long a__drawX, .ref a_images, .ref a_imageX, .ref a_isMade]))]) [0, 1] rfl) hS ls (lv_sub hl [0, 4, 5] rfl)
              · have t57 : v53.toInt = 1 := lin_eqN c54 rfl (by decide)
                have h58 : IV 1 1 v53 := iv_eq1 c54 iv_top (iv_c (a := 1) (b := 1) (by decide)) (by decide) (by decide)
                have ii59 : 1 ≤ v53.toInt ∧ v53.toInt ≤ 1 := h58
                refine lv_iconst (v := 1) hx hb dX12_isTried_94 (by decide) ?_
                refine lv_goto (tgt := 99) hx hb dX12_isTried_95 (by decide) ?_
                refine lv_icmp_eq (tgt := 104) hx hb dX12_isTried_99 (by decide) (fun z => absurd z (by decide)) (fun _ => ?_)
                refine lv_iconst (v := 0) hx hb dX12_isTried_102 (by decide) ?_
                exact W.zret (v := 0) hx hb hr rfl (fun t ht hW => ⟨⟨0, (), rfl, (Or.inl (rfl)), trivial⟩, hS.F ht⟩) hS.2.2 dX12_isTried_103
            · refine lv_iconst (v := 2) hx hb dX12_isTried_64 (by decide) ?_
              refine lv_icmp_ne (tgt := 72) hx hb dX12_isTried_65 (by decide) (fun z => absurd (by decide) z) (fun _ => ?_)
              refine lv_iconst (v := 1) hx hb dX12_isTried_68 (by decide) ?_
              refine lv_goto (tgt := 73) hx hb dX12_isTried_69 (by decide) ?_
              refine lv_istore (lv' := [(5, .int 1), (4, .int v24), (3, .int v15), (2, .int k2_L_2), (0, .ref a), (1, .int p0)]) hx hb dX12_isTried_73 hl (by decide) rfl (fun ls hl => ?_)
              refine lv_iload hx hb dX12_isTried_75 (lv_at hl 0 rfl) ?_
              refine lv_aload_n hx hb dX12_isTried_77 rfl (lv_at hl 4 rfl) ?_
              refine va_get (D := D) (ci := 12) (v := .ref a_said) (C := RX12) (T := TX12) (N := 37) hx hb hT i_X12 hown hK hP 1 rfl rfl 20 (by decide) (hT _ q_185) (fun _ h9 => h9) rfl dX12_isTried_78 ?_
              refine lv_bipush (v := 86) hx hb dX12_isTried_81 (by decide) ?_
              refine lv_iconst (v := 3) hx hb dX12_isTried_83 (by decide) ?_
              refine lv_iload_n hx hb dX12_isTried_84 rfl (lv_at hl 3 rfl) ?_
              refine lv_imul hx hb dX12_isTried_85 ?_
              refine lv_topi (fun v60 ev60 => ?_)
              have hv60 : IV 0 33 v60 := iv_mul ev60 (iv_c (a := 3) (b := 3) (by decide)) h7 (by decide) (by decide) (by decide) (by decide)
              have ii61 : 0 ≤ v60.toInt ∧ v60.toInt ≤ 33 := hv60
              have lv60 : v60.toInt = 3 * k2_L_2.toInt := lin_mul ev60 (iv_c (a := 3) (b := 3) (by decide)) h7 (by decide) rfl (by decide) (by decide) (by decide) (by decide)
              refine lv_iadd hx hb dX12_isTried_86 ?_
              refine lv_topi (fun v62 ev62 => ?_)
              have hv62 : IV 86 119 v62 := iv_add ev62 (iv_c (a := 86) (b := 86) (by decide)) hv60 (by decide) (by decide)
              have ii63 : 86 ≤ v62.toInt ∧ v62.toInt ≤ 119 := hv62
              have lv62 : v62.toInt = 86 + v60.toInt := lin_add ev62 (iv_c (a := 86) (b := 86) (by decide)) hv60 (by decide) rfl (by decide) (by decide)
              refine lv_iconst (v := 2) hx hb dX12_isTried_87 (by decide) ?_
              refine lv_iadd hx hb dX12_isTried_88 ?_
              refine lv_topi (fun v64 ev64 => ?_)
              have hv64 : IV 88 121 v64 := iv_add ev64 hv62 (iv_c (a := 2) (b := 2) (by decide)) (by decide) (by decide)
              have ii65 : 88 ≤ v64.toInt ∧ v64.toInt ≤ 121 := hv64
              have dv64 : v64.toInt = v62.toInt + 2 := iv_addE ev64 hv62 (iv_c (a := 2) (b := 2) (by decide)) (by decide) (by decide) (by decide)
              have lv64 : v64.toInt = v62.toInt + 2 := lin_add ev64 hv62 (iv_c (a := 2) (b := 2) (by decide)) rfl (by decide) (by decide) (by decide)
              refine va_iald hx hb hK hP 0 0 rfl rfl (iv_v hv64 (by decide) (by decide)) dX12_isTried_89 ?_
              refine lv_topi (fun v66 ev66 => ?_)
              have lv66 : v66.toInt = (a_said_c (Int32.toNatClampNeg v64)).toInt := by rw [ev66]
              refine lv_iconst (v := 1) hx hb dX12_isTried_90 (by decide) ?_
              refine lv_icmp_ne (tgt := 98) hx hb dX12_isTried_91 (by decide) (fun c67 => ?_) (fun c67 => ?_)
              · have t68 : v66.toInt ≠ 1 := lin_ne c67 rfl (by decide)
                refine lv_iconst (v := 0) hx hb dX12_isTried_98 (by decide) ?_
                refine lv_icmp_eq (tgt := 104) hx hb dX12_isTried_99 (by decide) (fun z => absurd z (by decide)) (fun _ => ?_)
                refine lv_iconst (v := 0) hx hb dX12_isTried_102 (by decide) ?_
                exact W.zret (v := 0) hx hb hr rfl (fun t ht hW => ⟨⟨0, (), rfl, (Or.inl (rfl)), trivial⟩, hS.F ht⟩) hS.2.2 dX12_isTried_103
              · have t69 : v66.toInt = 1 := lin_eqN c67 rfl (by decide)
                have h70 : IV 1 1 v66 := iv_eq1 c67 iv_top (iv_c (a := 1) (b := 1) (by decide)) (by decide) (by decide)
                have ii71 : 1 ≤ v66.toInt ∧ v66.toInt ≤ 1 := h70
                refine lv_iconst (v := 1) hx hb dX12_isTried_94 (by decide) ?_
                refine lv_goto (tgt := 99) hx hb dX12_isTried_95 (by decide) ?_
                refine lv_icmp_eq (tgt := 104) hx hb dX12_isTried_99 (by decide) (fun _ => ?_) (fun z => absurd (by decide) z)
                obtain ⟨v72, ev72⟩ : ∃ z : Int32, z = k2_L_2 + 1 := ⟨_, rfl⟩
                have hv72 : IV 1 12 v72 := iv_add ev72 h7 (iv_c (a := 1) (b := 1) (by decide)) (by decide) (by decide)
                have dv72 : v72.toInt = k2_L_2.toInt + 1 := iv_addE ev72 h7 (iv_c (a := 1) (b := 1) (by decide)) (by decide) (by decide) (by decide)
                refine lv_iinc (v := v72) (lv' := [(2, .int v72), (5, .int 1), (4, .int v24), (3, .int v15), (0, .ref a), (1, .int p0)]) hx hb dX12_isTried_104 hl (k := 3) rfl (by rw [ev72]; rfl) (by decide) rfl (fun ls hl => ?_)
                refine lv_goto (tgt := 2) hx hb dX12_isTried_107 (by decide) ?_
                exact ih2 v72 (by have h9 := hn; omega) (iv_w hv72 (by decide) (by decide)) H locs (hP.sub (ws' := [(a_said, .inl (cs 0, 123, .inl a_said_c)), (a, .inr (12, [.ref a_tape, .int a__taped, .int a__rules, .ref a_sign, .ref a_length, .ref a_clause, .ref a_clauses, .ref a_read, .int a__next, .int a__wrong, .int a__number, .int a__text, .int a__made, .int a__deep, .int a__lines, .ref a_open, .int a__opened, .ref a_stack, .int a__top, .ref a_word, .ref a_said, .int a__x, .ref a_worth, .ref a_mate, .ref a_wasSaid, .int a__undone, .int a__boughtNow, .ref a_wayBy, .ref a_wayThen, .int a__walkMost, .int a__walkGoing, .int a__walkSet, .ref a_kept, .long a__drawX, .ref a_images, .ref a_imageX, .ref a_isMade]))]) [0, 1] rfl) hS ls (lv_sub hl [0, 4, 5] rfl)
          · refine lv_if_ne (tgt := 68) hx hb dX12_isTried_54 (by decide) (fun _ => ?_) (fun z => absurd z (by decide))
            refine lv_iconst (v := 1) hx hb dX12_isTried_68 (by decide) ?_
            refine lv_goto (tgt := 73) hx hb dX12_isTried_69 (by decide) ?_
            refine lv_istore (lv' := [(5, .int 1), (4, .int v24), (3, .int v15), (2, .int k2_L_2), (0, .ref a), (1, .int p0)]) hx hb dX12_isTried_73 hl (by decide) rfl (fun ls hl => ?_)
            refine lv_iload hx hb dX12_isTried_75 (lv_at hl 0 rfl) ?_
            refine lv_aload_n hx hb dX12_isTried_77 rfl (lv_at hl 4 rfl) ?_
            refine va_get (D := D) (ci := 12) (v := .ref a_said) (C := RX12) (T := TX12) (N := 37) hx hb hT i_X12 hown hK hP 1 rfl rfl 20 (by decide) (hT _ q_185) (fun _ h9 => h9) rfl dX12_isTried_78 ?_
            refine lv_bipush (v := 86) hx hb dX12_isTried_81 (by decide) ?_
            refine lv_iconst (v := 3) hx hb dX12_isTried_83 (by decide) ?_
            refine lv_iload_n hx hb dX12_isTried_84 rfl (lv_at hl 3 rfl) ?_
            refine lv_imul hx hb dX12_isTried_85 ?_
            refine lv_topi (fun v73 ev73 => ?_)
            have hv73 : IV 0 33 v73 := iv_mul ev73 (iv_c (a := 3) (b := 3) (by decide)) h7 (by decide) (by decide) (by decide) (by decide)
            have ii74 : 0 ≤ v73.toInt ∧ v73.toInt ≤ 33 := hv73
            have lv73 : v73.toInt = 3 * k2_L_2.toInt := lin_mul ev73 (iv_c (a := 3) (b := 3) (by decide)) h7 (by decide) rfl (by decide) (by decide) (by decide) (by decide)
            refine lv_iadd hx hb dX12_isTried_86 ?_
            refine lv_topi (fun v75 ev75 => ?_)
            have hv75 : IV 86 119 v75 := iv_add ev75 (iv_c (a := 86) (b := 86) (by decide)) hv73 (by decide) (by decide)
            have ii76 : 86 ≤ v75.toInt ∧ v75.toInt ≤ 119 := hv75
            have lv75 : v75.toInt = 86 + v73.toInt := lin_add ev75 (iv_c (a := 86) (b := 86) (by decide)) hv73 (by decide) rfl (by decide) (by decide)
            refine lv_iconst (v := 2) hx hb dX12_isTried_87 (by decide) ?_
            refine lv_iadd hx hb dX12_isTried_88 ?_
            refine lv_topi (fun v77 ev77 => ?_)
            have hv77 : IV 88 121 v77 := iv_add ev77 hv75 (iv_c (a := 2) (b := 2) (by decide)) (by decide) (by decide)
            have ii78 : 88 ≤ v77.toInt ∧ v77.toInt ≤ 121 := hv77
            have dv77 : v77.toInt = v75.toInt + 2 := iv_addE ev77 hv75 (iv_c (a := 2) (b := 2) (by decide)) (by decide) (by decide) (by decide)
            have lv77 : v77.toInt = v75.toInt + 2 := lin_add ev77 hv75 (iv_c (a := 2) (b := 2) (by decide)) rfl (by decide) (by decide) (by decide)
            refine va_iald hx hb hK hP 0 0 rfl rfl (iv_v hv77 (by decide) (by decide)) dX12_isTried_89 ?_
            refine lv_topi (fun v79 ev79 => ?_)
            have lv79 : v79.toInt = (a_said_c (Int32.toNatClampNeg v77)).toInt := by rw [ev79]
            refine lv_iconst (v := 1) hx hb dX12_isTried_90 (by decide) ?_
            refine lv_icmp_ne (tgt := 98) hx hb dX12_isTried_91 (by decide) (fun c80 => ?_) (fun c80 => ?_)
            · have t81 : v79.toInt ≠ 1 := lin_ne c80 rfl (by decide)
              refine lv_iconst (v := 0) hx hb dX12_isTried_98 (by decide) ?_
              refine lv_icmp_eq (tgt := 104) hx hb dX12_isTried_99 (by decide) (fun z => absurd z (by decide)) (fun _ => ?_)
              refine lv_iconst (v := 0) hx hb dX12_isTried_102 (by decide) ?_
              exact W.zret (v := 0) hx hb hr rfl (fun t ht hW => ⟨⟨0, (), rfl, (Or.inl (rfl)), trivial⟩, hS.F ht⟩) hS.2.2 dX12_isTried_103
            · have t82 : v79.toInt = 1 := lin_eqN c80 rfl (by decide)
              have h83 : IV 1 1 v79 := iv_eq1 c80 iv_top (iv_c (a := 1) (b := 1) (by decide)) (by decide) (by decide)
              have ii84 : 1 ≤ v79.toInt ∧ v79.toInt ≤ 1 := h83
              refine lv_iconst (v := 1) hx hb dX12_isTried_94 (by decide) ?_
              refine lv_goto (tgt := 99) hx hb dX12_isTried_95 (by decide) ?_
              refine lv_icmp_eq (tgt := 104) hx hb dX12_isTried_99 (by decide) (fun _ => ?_) (fun z => absurd (by decide) z)
              obtain ⟨v85, ev85⟩ : ∃ z : Int32, z = k2_L_2 + 1 := ⟨_, rfl⟩
              have hv85 : IV 1 12 v85 := iv_add ev85 h7 (iv_c (a := 1) (b := 1) (by decide)) (by decide) (by decide)
              have dv85 : v85.toInt = k2_L_2.toInt + 1 := iv_addE ev85 h7 (iv_c (a := 1) (b := 1) (by decide)) (by decide) (by decide) (by decide)
              refine lv_iinc (v := v85) (lv' := [(2, .int v85), (5, .int 1), (4, .int v24), (3, .int v15), (0, .ref a), (1, .int p0)]) hx hb dX12_isTried_104 hl (k := 3) rfl (by rw [ev85]; rfl) (by decide) rfl (fun ls hl => ?_)
              refine lv_goto (tgt := 2) hx hb dX12_isTried_107 (by decide) ?_
              exact ih2 v85 (by have h9 := hn; omega) (iv_w hv85 (by decide) (by decide)) H locs (hP.sub (ws' := [(a_said, .inl (cs 0, 123, .inl a_said_c)), (a, .inr (12, [.ref a_tape, .int a__taped, .int a__rules, .ref a_sign, .ref a_length, .ref a_clause, .ref a_clauses, .ref a_read, .int a__next, .int a__wrong, .int a__number, .int a__text, .int a__made, .int a__deep, .int a__lines, .ref a_open, .int a__opened, .ref a_stack, .int a__top, .ref a_word, .ref a_said, .int a__x, .ref a_worth, .ref a_mate, .ref a_wasSaid, .int a__undone, .int a__boughtNow, .ref a_wayBy, .ref a_wayThen, .int a__walkMost, .int a__walkGoing, .int a__walkSet, .ref a_kept, .long a__drawX, .ref a_images, .ref a_imageX, .ref a_isMade]))]) [0, 1] rfl) hS ls (lv_sub hl [0, 4, 5] rfl)
        · refine lv_if_ne (tgt := 68) hx hb dX12_isTried_45 (by decide) (fun _ => ?_) (fun z => absurd z (by decide))
          refine lv_iconst (v := 1) hx hb dX12_isTried_68 (by decide) ?_
          refine lv_goto (tgt := 73) hx hb dX12_isTried_69 (by decide) ?_
          refine lv_istore (lv' := [(5, .int 1), (4, .int v24), (3, .int v15), (2, .int k2_L_2), (0, .ref a), (1, .int p0)]) hx hb dX12_isTried_73 hl (by decide) rfl (fun ls hl => ?_)
          refine lv_iload hx hb dX12_isTried_75 (lv_at hl 0 rfl) ?_
          refine lv_aload_n hx hb dX12_isTried_77 rfl (lv_at hl 4 rfl) ?_
          refine va_get (D := D) (ci := 12) (v := .ref a_said) (C := RX12) (T := TX12) (N := 37) hx hb hT i_X12 hown hK hP 1 rfl rfl 20 (by decide) (hT _ q_185) (fun _ h9 => h9) rfl dX12_isTried_78 ?_
          refine lv_bipush (v := 86) hx hb dX12_isTried_81 (by decide) ?_
          refine lv_iconst (v := 3) hx hb dX12_isTried_83 (by decide) ?_
          refine lv_iload_n hx hb dX12_isTried_84 rfl (lv_at hl 3 rfl) ?_
          refine lv_imul hx hb dX12_isTried_85 ?_
          refine lv_topi (fun v86 ev86 => ?_)
          have hv86 : IV 0 33 v86 := iv_mul ev86 (iv_c (a := 3) (b := 3) (by decide)) h7 (by decide) (by decide) (by decide) (by decide)
          have ii87 : 0 ≤ v86.toInt ∧ v86.toInt ≤ 33 := hv86
          have lv86 : v86.toInt = 3 * k2_L_2.toInt := lin_mul ev86 (iv_c (a := 3) (b := 3) (by decide)) h7 (by decide) rfl (by decide) (by decide) (by decide) (by decide)
          refine lv_iadd hx hb dX12_isTried_86 ?_
          refine lv_topi (fun v88 ev88 => ?_)
          have hv88 : IV 86 119 v88 := iv_add ev88 (iv_c (a := 86) (b := 86) (by decide)) hv86 (by decide) (by decide)
          have ii89 : 86 ≤ v88.toInt ∧ v88.toInt ≤ 119 := hv88
          have lv88 : v88.toInt = 86 + v86.toInt := lin_add ev88 (iv_c (a := 86) (b := 86) (by decide)) hv86 (by decide) rfl (by decide) (by decide)
          refine lv_iconst (v := 2) hx hb dX12_isTried_87 (by decide) ?_
          refine lv_iadd hx hb dX12_isTried_88 ?_
          refine lv_topi (fun v90 ev90 => ?_)
          have hv90 : IV 88 121 v90 := iv_add ev90 hv88 (iv_c (a := 2) (b := 2) (by decide)) (by decide) (by decide)
          have ii91 : 88 ≤ v90.toInt ∧ v90.toInt ≤ 121 := hv90
          have dv90 : v90.toInt = v88.toInt + 2 := iv_addE ev90 hv88 (iv_c (a := 2) (b := 2) (by decide)) (by decide) (by decide) (by decide)
          have lv90 : v90.toInt = v88.toInt + 2 := lin_add ev90 hv88 (iv_c (a := 2) (b := 2) (by decide)) rfl (by decide) (by decide) (by decide)
          refine va_iald hx hb hK hP 0 0 rfl rfl (iv_v hv90 (by decide) (by decide)) dX12_isTried_89 ?_
          refine lv_topi (fun v92 ev92 => ?_)
          have lv92 : v92.toInt = (a_said_c (Int32.toNatClampNeg v90)).toInt := by rw [ev92]
          refine lv_iconst (v := 1) hx hb dX12_isTried_90 (by decide) ?_
          refine lv_icmp_ne (tgt := 98) hx hb dX12_isTried_91 (by decide) (fun c93 => ?_) (fun c93 => ?_)
          · have t94 : v92.toInt ≠ 1 := lin_ne c93 rfl (by decide)
            refine lv_iconst (v := 0) hx hb dX12_isTried_98 (by decide) ?_
            refine lv_icmp_eq (tgt := 104) hx hb dX12_isTried_99 (by decide) (fun z => absurd z (by decide)) (fun _ => ?_)
            refine lv_iconst (v := 0) hx hb dX12_isTried_102 (by decide) ?_
            exact W.zret (v := 0) hx hb hr rfl (fun t ht hW => ⟨⟨0, (), rfl, (Or.inl (rfl)), trivial⟩, hS.F ht⟩) hS.2.2 dX12_isTried_103
          · have t95 : v92.toInt = 1 := lin_eqN c93 rfl (by decide)
            have h96 : IV 1 1 v92 := iv_eq1 c93 iv_top (iv_c (a := 1) (b := 1) (by decide)) (by decide) (by decide)
            have ii97 : 1 ≤ v92.toInt ∧ v92.toInt ≤ 1 := h96
            refine lv_iconst (v := 1) hx hb dX12_isTried_94 (by decide) ?_
            refine lv_goto (tgt := 99) hx hb dX12_isTried_95 (by decide) ?_
            refine lv_icmp_eq (tgt := 104) hx hb dX12_isTried_99 (by decide) (fun _ => ?_) (fun z => absurd (by decide) z)
            obtain ⟨v98, ev98⟩ : ∃ z : Int32, z = k2_L_2 + 1 := ⟨_, rfl⟩
            have hv98 : IV 1 12 v98 := iv_add ev98 h7 (iv_c (a := 1) (b := 1) (by decide)) (by decide) (by decide)
            have dv98 : v98.toInt = k2_L_2.toInt + 1 := iv_addE ev98 h7 (iv_c (a := 1) (b := 1) (by decide)) (by decide) (by decide) (by decide)
            refine lv_iinc (v := v98) (lv' := [(2, .int v98), (5, .int 1), (4, .int v24), (3, .int v15), (0, .ref a), (1, .int p0)]) hx hb dX12_isTried_104 hl (k := 3) rfl (by rw [ev98]; rfl) (by decide) rfl (fun ls hl => ?_)
            refine lv_goto (tgt := 2) hx hb dX12_isTried_107 (by decide) ?_
            exact ih2 v98 (by have h9 := hn; omega) (iv_w hv98 (by decide) (by decide)) H locs (hP.sub (ws' := [(a_said, .inl (cs 0, 123, .inl a_said_c)), (a, .inr (12, [.ref a_tape, .int a__taped, .int a__rules, .ref a_sign, .ref a_length, .ref a_clause, .ref a_clauses, .ref a_read, .int a__next, .int a__wrong, .int a__number, .int a__text, .int a__made, .int a__deep, .int a__lines, .ref a_open, .int a__opened, .ref a_stack, .int a__top, .ref a_word, .ref a_said, .int a__x, .ref a_worth, .ref a_mate, .ref a_wasSaid, .int a__undone, .int a__boughtNow, .ref a_wayBy, .ref a_wayThen, .int a__walkMost, .int a__walkGoing, .int a__walkSet, .ref a_kept, .long a__drawX, .ref a_images, .ref a_imageX, .ref a_isMade]))]) [0, 1] rfl) hS ls (lv_sub hl [0, 4, 5] rfl)
  refine lv_iconst (v := 0) hx hb dX12_isTried_0 (by decide) ?_
  refine lv_istore_n (lv' := [(2, .int 0), (0, .ref a), (1, .int p0)]) hx hb dX12_isTried_1 rfl hl (by decide) rfl (fun ls hl => ?_)
  exact K2 _ ((0 : Int32)) (Nat.le_refl _) (iv_c (by decide)) H locs (hP.sub (ws' := [(a_said, .inl (cs 0, 123, .inl a_said_c)), (a, .inr (12, [.ref a_tape, .int a__taped, .int a__rules, .ref a_sign, .ref a_length, .ref a_clause, .ref a_clauses, .ref a_read, .int a__next, .int a__wrong, .int a__number, .int a__text, .int a__made, .int a__deep, .int a__lines, .ref a_open, .int a__opened, .ref a_stack, .int a__top, .ref a_word, .ref a_said, .int a__x, .ref a_worth, .ref a_mate, .ref a_wasSaid, .int a__undone, .int a__boughtNow, .ref a_wayBy, .ref a_wayThen, .int a__walkMost, .int a__walkGoing, .int a__walkSet, .ref a_kept, .long a__drawX, .ref a_images, .ref a_imageX, .ref a_isMade]))]) [0, 1] rfl) hS ls (lv_sub hl [0, 1, 2] rfl)
theorem dX12_forgers_0 : decode cX12_forgers 0 = .ok (.aload_n 0, 1) := by decide +kernel
theorem dX12_forgers_1 : decode cX12_forgers 1 = .ok (.invokevirtual 329, 3) := by decide +kernel
theorem dX12_forgers_4 : decode cX12_forgers 4 = .ok (.ifCond .eq 13, 3) := by decide +kernel
theorem dX12_forgers_7 : decode cX12_forgers 7 = .ok (.iload_n 1, 1) := by decide +kernel
theorem dX12_forgers_8 : decode cX12_forgers 8 = .ok (.i2l, 1) := by decide +kernel
theorem dX12_forgers_9 : decode cX12_forgers 9 = .ok (.lconst 0, 1) := by decide +kernel
theorem dX12_forgers_10 : decode cX12_forgers 10 = .ok (.lconst 1, 1) := by decide +kernel
theorem dX12_forgers_11 : decode cX12_forgers 11 = .ok (.invokestatic 109, 3) := by decide +kernel
theorem dX12_forgers_14 : decode cX12_forgers 14 = .ok (.ifCond .ne 5, 3) := by decide +kernel
theorem dX12_forgers_17 : decode cX12_forgers 17 = .ok (.iconst (-1), 1) := by decide +kernel
theorem dX12_forgers_18 : decode cX12_forgers 18 = .ok (.ireturn, 1) := by decide +kernel
theorem dX12_forgers_19 : decode cX12_forgers 19 = .ok (.bipush (-2), 2) := by decide +kernel
theorem dX12_forgers_21 : decode cX12_forgers 21 = .ok (.istore_n 2, 1) := by decide +kernel
theorem dX12_forgers_22 : decode cX12_forgers 22 = .ok (.iconst 0, 1) := by decide +kernel
theorem dX12_forgers_23 : decode cX12_forgers 23 = .ok (.istore_n 3, 1) := by decide +kernel
theorem dX12_forgers_24 : decode cX12_forgers 24 = .ok (.iconst 0, 1) := by decide +kernel
theorem dX12_forgers_25 : decode cX12_forgers 25 = .ok (.istore 4, 2) := by decide +kernel
theorem dX12_forgers_27 : decode cX12_forgers 27 = .ok (.iload 4, 2) := by decide +kernel
theorem dX12_forgers_29 : decode cX12_forgers 29 = .ok (.iconst 1, 1) := by decide +kernel
theorem dX12_forgers_30 : decode cX12_forgers 30 = .ok (.aload_n 0, 1) := by decide +kernel
theorem dX12_forgers_31 : decode cX12_forgers 31 = .ok (.getfield 39, 3) := by decide +kernel
theorem dX12_forgers_34 : decode cX12_forgers 34 = .ok (.iconst 1, 1) := by decide +kernel
theorem dX12_forgers_35 : decode cX12_forgers 35 = .ok (.iaload, 1) := by decide +kernel
theorem dX12_forgers_36 : decode cX12_forgers 36 = .ok (.ishl, 1) := by decide +kernel
theorem dX12_forgers_37 : decode cX12_forgers 37 = .ok (.if_icmp .ge 63, 3) := by decide +kernel
theorem dX12_forgers_40 : decode cX12_forgers 40 = .ok (.iload_n 2, 1) := by decide +kernel
theorem dX12_forgers_41 : decode cX12_forgers 41 = .ok (.ifCond .lt 15, 3) := by decide +kernel
theorem dX12_forgers_44 : decode cX12_forgers 44 = .ok (.iload 4, 2) := by decide +kernel
theorem dX12_forgers_46 : decode cX12_forgers 46 = .ok (.invokestatic 374, 3) := by decide +kernel
theorem dX12_forgers_49 : decode cX12_forgers 49 = .ok (.iload_n 2, 1) := by decide +kernel
theorem dX12_forgers_50 : decode cX12_forgers 50 = .ok (.invokestatic 374, 3) := by decide +kernel
theorem dX12_forgers_53 : decode cX12_forgers 53 = .ok (.if_icmp .gt 41, 3) := by decide +kernel
theorem dX12_forgers_56 : decode cX12_forgers 56 = .ok (.aload_n 0, 1) := by decide +kernel
theorem dX12_forgers_57 : decode cX12_forgers 57 = .ok (.iload 4, 2) := by decide +kernel
theorem dX12_forgers_59 : decode cX12_forgers 59 = .ok (.invokevirtual 476, 3) := by decide +kernel
theorem dX12_forgers_62 : decode cX12_forgers 62 = .ok (.ifCond .ne 6, 3) := by decide +kernel
theorem dX12_forgers_65 : decode cX12_forgers 65 = .ok (.goto 29, 3) := by decide +kernel
theorem dX12_forgers_68 : decode cX12_forgers 68 = .ok (.iload_n 2, 1) := by decide +kernel
theorem dX12_forgers_69 : decode cX12_forgers 69 = .ok (.ifCond .lt 15, 3) := by decide +kernel
theorem dX12_forgers_72 : decode cX12_forgers 72 = .ok (.iload 4, 2) := by decide +kernel
theorem dX12_forgers_74 : decode cX12_forgers 74 = .ok (.invokestatic 374, 3) := by decide +kernel
theorem dX12_forgers_77 : decode cX12_forgers 77 = .ok (.iload_n 2, 1) := by decide +kernel
theorem dX12_forgers_78 : decode cX12_forgers 78 = .ok (.invokestatic 374, 3) := by decide +kernel
theorem dX12_forgers_81 : decode cX12_forgers 81 = .ok (.if_icmp .ge 8, 3) := by decide +kernel
theorem dX12_forgers_84 : decode cX12_forgers 84 = .ok (.iload 4, 2) := by decide +kernel
theorem dX12_forgers_86 : decode cX12_forgers 86 = .ok (.istore_n 2, 1) := by decide +kernel
theorem dX12_forgers_87 : decode cX12_forgers 87 = .ok (.iconst 0, 1) := by decide +kernel
theorem dX12_forgers_88 : decode cX12_forgers 88 = .ok (.istore_n 3, 1) := by decide +kernel
theorem dX12_forgers_89 : decode cX12_forgers 89 = .ok (.iload_n 3, 1) := by decide +kernel
theorem dX12_forgers_90 : decode cX12_forgers 90 = .ok (.iload 4, 2) := by decide +kernel
theorem dX12_forgers_92 : decode cX12_forgers 92 = .ok (.ior, 1) := by decide +kernel
theorem dX12_forgers_93 : decode cX12_forgers 93 = .ok (.istore_n 3, 1) := by decide +kernel
theorem dX12_forgers_94 : decode cX12_forgers 94 = .ok (.iinc 4 1, 3) := by decide +kernel
theorem dX12_forgers_97 : decode cX12_forgers 97 = .ok (.goto (-70), 3) := by decide +kernel
theorem dX12_forgers_100 : decode cX12_forgers 100 = .ok (.iload_n 1, 1) := by decide +kernel
theorem dX12_forgers_101 : decode cX12_forgers 101 = .ok (.ifCond .ne 7, 3) := by decide +kernel
theorem dX12_forgers_104 : decode cX12_forgers 104 = .ok (.iload_n 2, 1) := by decide +kernel
theorem dX12_forgers_105 : decode cX12_forgers 105 = .ok (.goto 25, 3) := by decide +kernel
theorem dX12_forgers_108 : decode cX12_forgers 108 = .ok (.iload_n 2, 1) := by decide +kernel
theorem dX12_forgers_109 : decode cX12_forgers 109 = .ok (.ifCond .ge 7, 3) := by decide +kernel
theorem dX12_forgers_112 : decode cX12_forgers 112 = .ok (.iconst 0, 1) := by decide +kernel
theorem dX12_forgers_113 : decode cX12_forgers 113 = .ok (.goto 17, 3) := by decide +kernel
theorem dX12_forgers_116 : decode cX12_forgers 116 = .ok (.iconst 1, 1) := by decide +kernel
theorem dX12_forgers_117 : decode cX12_forgers 117 = .ok (.aload_n 0, 1) := by decide +kernel
theorem dX12_forgers_118 : decode cX12_forgers 118 = .ok (.getfield 39, 3) := by decide +kernel
theorem dX12_forgers_121 : decode cX12_forgers 121 = .ok (.iconst 1, 1) := by decide +kernel
theorem dX12_forgers_122 : decode cX12_forgers 122 = .ok (.iaload, 1) := by decide +kernel
theorem dX12_forgers_123 : decode cX12_forgers 123 = .ok (.ishl, 1) := by decide +kernel
theorem dX12_forgers_124 : decode cX12_forgers 124 = .ok (.iconst 1, 1) := by decide +kernel
theorem dX12_forgers_125 : decode cX12_forgers 125 = .ok (.isub, 1) := by decide +kernel
theorem dX12_forgers_126 : decode cX12_forgers 126 = .ok (.iload_n 3, 1) := by decide +kernel
theorem dX12_forgers_127 : decode cX12_forgers 127 = .ok (.iconst (-1), 1) := by decide +kernel
theorem dX12_forgers_128 : decode cX12_forgers 128 = .ok (.ixor, 1) := by decide +kernel
theorem dX12_forgers_129 : decode cX12_forgers 129 = .ok (.iand, 1) := by decide +kernel
theorem dX12_forgers_130 : decode cX12_forgers 130 = .ok (.ireturn, 1) := by decide +kernel
set_option maxHeartbeats 4000000 in
set_option maxRecDepth 100000 in
theorem c_X12_forgers (l : Launch) (D : va_G) (cs : Nat → ClassId) (kK kV : Nat → Nat) (a : Nat) (p0 : Int32) (a_said : Nat) (a_said_c : Nat → Int32) (a_tape : Nat) (a__taped : Int32) (a__rules : Int32) (a_sign : Nat) (a_length : Nat) (a_clause : Nat) (a_clauses : Nat) (a_read : Nat) (a__next : Int32) (a__wrong : Int32) (a__number : Int32) (a__text : Int32) (a__made : Int32) (a__deep : Int32) (a__lines : Int32) (a_open : Nat) (a__opened : Int32) (a_stack : Nat) (a__top : Int32) (a_word : Nat) (a__x : Int32) (a_worth : Nat) (a_mate : Nat) (a_wasSaid : Nat) (a__undone : Int32) (a__boughtNow : Int32) (a_wayBy : Nat) (a_wayThen : Nat) (a__walkMost : Int32) (a__walkGoing : Int32) (a__walkSet : Int32) (a_kept : Nat) (a__drawX : Int64) (a_images : Nat) (a_imageX : Nat) (a_isMade : Nat) (h_a__taped : IV 0 400 a__taped) (h_a__rules : IV 0 6 a__rules) (h_a__next : IV 0 400 a__next) (h_a__text : IV 0 6 a__text) (h_a__made : IV 0 60 a__made) (h_a__lines : IV 0 40 a__lines) (h_a__opened : IV 0 400 a__opened) (h_a__top : IV 0 64 a__top) (h_a__x : IV 0 2147483647 a__x) (h_a__undone : IV 0 20 a__undone) (hf0 : BS a_said_c 200) (hf1 : TR a_said_c) : Met l yX12_forgers (hz_w yX12_forgers cX12_forgers 5 (some .int)) ({ frames := 3, cells := 0, slots := 0, locals := 70 }) (va_Pc [.ref a, .int p0] (hz_P D cs kK kV [(a_said, .inl (cs 0, 123, .inl a_said_c)), (a, .inr (12, [.ref a_tape, .int a__taped, .int a__rules, .ref a_sign, .ref a_length, .ref a_clause, .ref a_clauses, .ref a_read, .int a__next, .int a__wrong, .int a__number, .int a__text, .int a__made, .int a__deep, .int a__lines, .ref a_open, .int a__opened, .ref a_stack, .int a__top, .ref a_word, .ref a_said, .int a__x, .ref a_worth, .ref a_mate, .ref a_wasSaid, .int a__undone, .int a__boughtNow, .ref a_wayBy, .ref a_wayThen, .int a__walkMost, .int a__walkGoing, .int a__walkSet, .ref a_kept, .long a__drawX, .ref a_images, .ref a_imageX, .ref a_isMade]))])) (va_Qi (fun (r : Int32) (_ : Unit) => (r = (-1)) ∨ (r = 0 ∧ IV 1 1 p0) ∨ (IV (-2) 4095 r ∧ IV 0 1 p0)) (fun _ t => True) (fun _ => False)) 0 0 (fun _ => False) := by
  refine Met.ofW (cc := cX12_forgers) (maxL := 5) (ret := (some .int)) (by decide) rfl ?_
  intro p e s m args below meth c s₁ B hml hv
  obtain ⟨rfl, hP, hE⟩ := hv
  have hx := B.exec
  have hb := B.bytes
  have hr := B.returns
  have hT : ∀ w ∈ TB, w.before _ s = true := fun w h => atoms_spec (ws := hz_w yX12_forgers cX12_forgers 5 (some .int)) B.pre w (List.mem_cons_of_mem _ h)
  have hown : s.vm.findClass RX12 = some m.cls := findClass_of_methodNamed B.named
  have hlocks := B.notSynchronized
  clear B
  have hS : va_S (fun _ => False) s.heap s.heap [] := va_S.rf
  have hK := hE.1
  have hl := lv_entry ([.ref a, .int p0]) (n := 5) (Nat.le_of_ble_eq_true rfl)
  rw [lg_entry_eq]
  generalize (lg_sl ([.ref a, .int p0]) ++ List.replicate (5 - (lg_sl ([.ref a, .int p0])).length) Slot.unset).toArray = ls at hl ⊢
  have hl : lv_has ls 5 [(0, .ref a), (1, .int p0)] := hl
  obtain ⟨H, eH⟩ : ∃ z, z = s.heap := ⟨_, rfl⟩
  have hP : va_P D classes [(a_said, .inl (cs 0, 123, .inl a_said_c)), (a, .inr (12, [.ref a_tape, .int a__taped, .int a__rules, .ref a_sign, .ref a_length, .ref a_clause, .ref a_clauses, .ref a_read, .int a__next, .int a__wrong, .int a__number, .int a__text, .int a__made, .int a__deep, .int a__lines, .ref a_open, .int a__opened, .ref a_stack, .int a__top, .ref a_word, .ref a_said, .int a__x, .ref a_worth, .ref a_mate, .ref a_wasSaid, .int a__undone, .int a__boughtNow, .ref a_wayBy, .ref a_wayThen, .int a__walkMost, .int a__walkGoing, .int a__walkSet, .ref a_kept, .long a__drawX, .ref a_images, .ref a_imageX, .ref a_isMade]))] H := by rw [eH]; exact hP
  have hS : va_S (fun _ => False) s.heap H [] := by rw [eH]; exact hS
  rw [← eH]
  clear eH
  obtain ⟨locs, el⟩ : ∃ z : List Loc, z = [] := ⟨_, rfl⟩
  rw [← el] at hS ⊢
  clear el
  have z0 : (0 : Int32).toInt = 0 := by decide
  have z1 : (1 : Int32).toInt = 1 := by decide
  have zm1 : (-1 : Int32).toInt = -1 := by decide
  have i_a__lines : 0 ≤ a__lines.toInt ∧ a__lines.toInt ≤ 40 := h_a__lines
  have i_a__made : 0 ≤ a__made.toInt ∧ a__made.toInt ≤ 60 := h_a__made
  have i_a__next : 0 ≤ a__next.toInt ∧ a__next.toInt ≤ 400 := h_a__next
  have i_a__opened : 0 ≤ a__opened.toInt ∧ a__opened.toInt ≤ 400 := h_a__opened
  have i_a__rules : 0 ≤ a__rules.toInt ∧ a__rules.toInt ≤ 6 := h_a__rules
  have i_a__taped : 0 ≤ a__taped.toInt ∧ a__taped.toInt ≤ 400 := h_a__taped
  have i_a__text : 0 ≤ a__text.toInt ∧ a__text.toInt ≤ 6 := h_a__text
  have i_a__top : 0 ≤ a__top.toInt ∧ a__top.toInt ≤ 64 := h_a__top
  have i_a__undone : 0 ≤ a__undone.toInt ∧ a__undone.toInt ≤ 20 := h_a__undone
  have i_a__x : 0 ≤ a__x.toInt ∧ a__x.toInt ≤ 2147483647 := h_a__x
  have K27 : ∀ (n : Nat) (k27_L_4 : Int32) (k27_L_3 : Int32) (k27_L_2 : Int32), (4096 - k27_L_4.toInt + 1).toNat ≤ n → IV (-2) 4095 k27_L_2 → IV 0 4095 k27_L_3 → IV 0 4096 k27_L_4 → IV 0 1 p0 → ∀ (H : Heap) (locs : List Loc), va_P D classes [(a_said, .inl (cs 0, 123, .inl a_said_c)), (a, .inr (12, [.ref a_tape, .int a__taped, .int a__rules, .ref a_sign, .ref a_length, .ref a_clause, .ref a_clauses, .ref a_read, .int a__next, .int a__wrong, .int a__number, .int a__text, .int a__made, .int a__deep, .int a__lines, .ref a_open, .int a__opened, .ref a_stack, .int a__top, .ref a_word, .ref a_said, .int a__x, .ref a_worth, .ref a_mate, .ref a_wasSaid, .int a__undone, .int a__boughtNow, .ref a_wayBy, .ref a_wayThen, .int a__walkMost, .int a__walkGoing, .int a__walkSet, .ref a_kept, .long a__drawX, .ref a_images, .ref a_imageX, .ref a_isMade]))] H → va_S (fun _ => False) s.heap H locs → ∀ ls : Array Slot, lv_has ls 5 [(4, .int k27_L_4), (3, .int k27_L_3), (2, .int k27_L_2), (0, .ref a), (1, .int p0)] → W p l e (headSpec (hz_w yX12_forgers cX12_forgers 5 (some .int)) ({ frames := 3, cells := 0, slots := 0, locals := 70 })).room s m [.ref a, .int p0].toArray below meth c H locs 0 0 (MQ below (va_Qi (fun (r : Int32) (_ : Unit) => (r = (-1)) ∨ (r = 0 ∧ IV 1 1 p0) ∨ (IV (-2) 4095 r ∧ IV 0 1 p0)) (fun _ t => True) (fun _ => False)) [.ref a, .int p0].toArray s 0 0 (fun _ => False)) (F0 m 27 ls []) := by
    intro n
    induction n with
    | zero =>
      intro k27_L_4 k27_L_3 k27_L_2 hn q27_10 q27_11 q27_12 q27_13 H locs hP hS ls hl
      exact absurd hn (by unfold IV at q27_12; omega)
    | succ n ih27 =>
      intro k27_L_4 k27_L_3 k27_L_2 hn q27_10 q27_11 q27_12 q27_13 H locs hP hS ls hl
      have i_a__lines : 0 ≤ a__lines.toInt ∧ a__lines.toInt ≤ 40 := h_a__lines
      have i_a__made : 0 ≤ a__made.toInt ∧ a__made.toInt ≤ 60 := h_a__made
      have i_a__next : 0 ≤ a__next.toInt ∧ a__next.toInt ≤ 400 := h_a__next
      have i_a__opened : 0 ≤ a__opened.toInt ∧ a__opened.toInt ≤ 400 := h_a__opened
      have i_a__rules : 0 ≤ a__rules.toInt ∧ a__rules.toInt ≤ 6 := h_a__rules
      have i_a__taped : 0 ≤ a__taped.toInt ∧ a__taped.toInt ≤ 400 := h_a__taped
      have i_a__text : 0 ≤ a__text.toInt ∧ a__text.toInt ≤ 6 := h_a__text
      have i_a__top : 0 ≤ a__top.toInt ∧ a__top.toInt ≤ 64 := h_a__top
      have i_a__undone : 0 ≤ a__undone.toInt ∧ a__undone.toInt ≤ 20 := h_a__undone
      have i_a__x : 0 ≤ a__x.toInt ∧ a__x.toInt ≤ 2147483647 := h_a__x
      have i_k27_L_2 : (-2) ≤ k27_L_2.toInt ∧ k27_L_2.toInt ≤ 4095 := q27_10
      have i_k27_L_3 : 0 ≤ k27_L_3.toInt ∧ k27_L_3.toInt ≤ 4095 := q27_11
      have i_k27_L_4 : 0 ≤ k27_L_4.toInt ∧ k27_L_4.toInt ≤ 4096 := q27_12
      have i_p0 : 0 ≤ p0.toInt ∧ p0.toInt ≤ 1 := q27_13
      refine lv_iload hx hb dX12_forgers_27 (lv_at hl 0 rfl) ?_
      refine lv_iconst (v := 1) hx hb dX12_forgers_29 (by decide) ?_
      refine lv_aload_n hx hb dX12_forgers_30 rfl (lv_at hl 3 rfl) ?_
      refine va_get (D := D) (ci := 12) (v := .ref a_said) (C := RX12) (T := TX12) (N := 37) hx hb hT i_X12 hown hK hP 1 rfl rfl 20 (by decide) (hT _ q_185) (fun _ h9 => h9) rfl dX12_forgers_31 ?_
      refine lv_iconst (v := 1) hx hb dX12_forgers_34 (by decide) ?_
      refine va_iald hx hb hK hP 0 0 rfl rfl (iv_vc (by decide)) dX12_forgers_35 ?_
      refine lv_topi (fun v1 ev1 => ?_)
      have h2 : IV 0 12 v1 := (by rw [ev1]; exact bs_i1 hf0)
      have ii3 : 0 ≤ v1.toInt ∧ v1.toInt ≤ 12 := h2
      have lv1 : v1.toInt = (a_said_c 1).toInt := by rw [ev1]; rfl
      refine lv_ishl hx hb dX12_forgers_36 ?_
      refine lv_topi (fun v4 ev4 => ?_)
      have hv4 : IV 1 4096 v4 := iv_shl1 ev4 h2 (by decide) (by decide) (by decide)
      have ii5 : 1 ≤ v4.toInt ∧ v4.toInt ≤ 4096 := hv4
      refine lv_icmp_ge (tgt := 100) hx hb dX12_forgers_37 (by decide) (fun c6 => ?_) (fun c6 => ?_)
      · have t7 : k27_L_4.toInt ≥ v4.toInt := lin_ge c6 rfl rfl
        have h8 : IV 1 4096 k27_L_4 := iv_le2 c6 hv4 q27_12 (by decide)
        have ii9 : 1 ≤ k27_L_4.toInt ∧ k27_L_4.toInt ≤ 4096 := h8
        refine lv_iload_n hx hb dX12_forgers_100 rfl (lv_at hl 4 rfl) ?_
        refine lv_if_ne (tgt := 108) hx hb dX12_forgers_101 (by decide) (fun c10 => ?_) (fun c10 => ?_)
        · have t11 : p0.toInt ≠ 0 := lin_ne c10 rfl (by decide)
          have h12 : IV 1 1 p0 := iv_neL c10 q27_13 (by decide)
          have ii13 : 1 ≤ p0.toInt ∧ p0.toInt ≤ 1 := h12
          refine lv_iload_n hx hb dX12_forgers_108 rfl (lv_at hl 2 rfl) ?_
          refine lv_if_ge (tgt := 116) hx hb dX12_forgers_109 (by decide) (fun c14 => ?_) (fun c14 => ?_)
          · have t15 : k27_L_2.toInt ≥ 0 := lin_ge c14 rfl (by decide)
            have h16 : IV 0 4095 k27_L_2 := iv_le2 c14 (iv_c (a := 0) (b := 0) (by decide)) q27_10 (by decide)
            have ii17 : 0 ≤ k27_L_2.toInt ∧ k27_L_2.toInt ≤ 4095 := h16
            refine lv_iconst (v := 1) hx hb dX12_forgers_116 (by decide) ?_
            refine lv_aload_n hx hb dX12_forgers_117 rfl (lv_at hl 3 rfl) ?_
            refine va_get (D := D) (ci := 12) (v := .ref a_said) (C := RX12) (T := TX12) (N := 37) hx hb hT i_X12 hown hK hP 1 rfl rfl 20 (by decide) (hT _ q_185) (fun _ h9 => h9) rfl dX12_forgers_118 ?_
            refine lv_iconst (v := 1) hx hb dX12_forgers_121 (by decide) ?_
            refine va_iald hx hb hK hP 0 0 rfl rfl (iv_vc (by decide)) dX12_forgers_122 ?_
            refine hz_ev v1 ev1.symm ?_
            refine lv_ishl hx hb dX12_forgers_123 ?_
            refine lv_topi (fun v18 ev18 => ?_)
            have hv18 : IV 1 4096 v18 := iv_shl1 ev18 h2 (by decide) (by decide) (by decide)
            have ii19 : 1 ≤ v18.toInt ∧ v18.toInt ≤ 4096 := hv18
            refine lv_iconst (v := 1) hx hb dX12_forgers_124 (by decide) ?_
            refine lv_isub hx hb dX12_forgers_125 ?_
            refine lv_topi (fun v20 ev20 => ?_)
            have hv20 : IV 0 4095 v20 := iv_sub ev20 hv18 (iv_c (a := 1) (b := 1) (by decide)) (by decide) (by decide)
            have ii21 : 0 ≤ v20.toInt ∧ v20.toInt ≤ 4095 := hv20
            have dv20 : v20.toInt = v18.toInt + (-1) := iv_subE ev20 hv18 (iv_c (a := 1) (b := 1) (by decide)) (by decide) (by decide) (by decide)
            have lv20 : v20.toInt = v18.toInt - 1 := lin_sub ev20 hv18 (iv_c (a := 1) (b := 1) (by decide)) rfl (by decide) (by decide) (by decide)
            refine lv_iload_n hx hb dX12_forgers_126 rfl (lv_at hl 1 rfl) ?_
            refine lv_iconst (v := (-1)) hx hb dX12_forgers_127 (by decide) ?_
            refine lv_ixor hx hb dX12_forgers_128 ?_
            refine lv_topi (fun v22 ev22 => ?_)
            refine lv_iand hx hb dX12_forgers_129 ?_
            refine lv_topi (fun v23 ev23 => ?_)
            have hv23 : IV 0 4095 v23 := iv_and1 ev23 hv20
            have ii24 : 0 ≤ v23.toInt ∧ v23.toInt ≤ 4095 := hv23
            exact W.iret (v := v23) hx hb hr (fun t ht hW => ⟨⟨v23, (), rfl, (Or.inr (Or.inr ((⟨(iv_w hv23 (by decide) (by decide)), (iv_w h12 (by decide) (by decide))⟩)))), trivial⟩, hS.F ht⟩) hS.2.2 dX12_forgers_130
          · have t25 : k27_L_2.toInt < 0 := lin_geN c14 rfl (by decide)
            have h26 : IV (-2) (-1) k27_L_2 := iv_lt1 (Int32.not_le.mp c14) q27_10 (iv_c (a := 0) (b := 0) (by decide)) (by decide)
            have ii27 : (-2) ≤ k27_L_2.toInt ∧ k27_L_2.toInt ≤ (-1) := h26
            refine lv_iconst (v := 0) hx hb dX12_forgers_112 (by decide) ?_
            refine lv_goto (tgt := 130) hx hb dX12_forgers_113 (by decide) ?_
            exact W.iret (v := 0) hx hb hr (fun t ht hW => ⟨⟨0, (), rfl, (Or.inr (Or.inl (⟨rfl, h12⟩))), trivial⟩, hS.F ht⟩) hS.2.2 dX12_forgers_130
        · have t28 : p0.toInt = 0 := lin_eqN c10 rfl (by decide)
          have h29 : IV 0 0 p0 := iv_eq1 c10 q27_13 (iv_c (a := 0) (b := 0) (by decide)) (by decide) (by decide)
          have ii30 : 0 ≤ p0.toInt ∧ p0.toInt ≤ 0 := h29
          refine lv_iload_n hx hb dX12_forgers_104 rfl (lv_at hl 2 rfl) ?_
          refine lv_goto (tgt := 130) hx hb dX12_forgers_105 (by decide) ?_
          exact W.iret (v := k27_L_2) hx hb hr (fun t ht hW => ⟨⟨k27_L_2, (), rfl, (Or.inr (Or.inr ((⟨q27_10, (iv_w h29 (by decide) (by decide))⟩)))), trivial⟩, hS.F ht⟩) hS.2.2 dX12_forgers_130
      · have t31 : k27_L_4.toInt < v4.toInt := lin_geN c6 rfl rfl
        have h32 : IV 0 4095 k27_L_4 := iv_lt1 (Int32.not_le.mp c6) q27_12 hv4 (by decide)
        have ii33 : 0 ≤ k27_L_4.toInt ∧ k27_L_4.toInt ≤ 4095 := h32
        refine lv_iload_n hx hb dX12_forgers_40 rfl (lv_at hl 2 rfl) ?_
        refine lv_if_lt (tgt := 56) hx hb dX12_forgers_41 (by decide) (fun c34 => ?_) (fun c34 => ?_)
        · have t35 : k27_L_2.toInt < 0 := lin_lt c34 rfl (by decide)
          have h36 : IV (-2) (-1) k27_L_2 := iv_lt1 c34 q27_10 (iv_c (a := 0) (b := 0) (by decide)) (by decide)
          have ii37 : (-2) ≤ k27_L_2.toInt ∧ k27_L_2.toInt ≤ (-1) := h36
          refine lv_aload_n hx hb dX12_forgers_56 rfl (lv_at hl 3 rfl) ?_
          refine lv_iload hx hb dX12_forgers_57 (lv_at hl 0 rfl) ?_
          refine va_calli (va_runV (As := [.int k27_L_4]) (rest := []) ⟨hx, hb, hml, hown, hT⟩ (c_X12_isTried l D cs kK kV a k27_L_4 a_said a_said_c a_tape a__taped a__rules a_sign a_length a_clause a_clauses a_read a__next a__wrong a__number a__text a__made a__deep a__lines a_open a__opened a_stack a__top a_word a__x a_worth a_mate a_wasSaid a__undone a__boughtNow a_wayBy a_wayThen a__walkMost a__walkGoing a__walkSet a_kept a__drawX a_images a_imageX a_isMade h_a__taped h_a__rules h_a__next h_a__text h_a__made h_a__lines h_a__opened h_a__top h_a__x h_a__undone hf0 hf1) (cwV 1 hT (hz_gV q_1297 q_1298 q_1299 q_701 q_1300) rfl rfl rfl (by decide +kernel) ⟨(Nat.le_of_ble_eq_true rfl), (Nat.le_of_ble_eq_true rfl)⟩) ⟨hz_P.blind, va_recv hK hP (ci := 12) (q0 := 1) rfl rfl, hz_P.mk (hP.sub (ws' := [(a_said, .inl (cs 0, 123, .inl a_said_c)), (a, .inr (12, [.ref a_tape, .int a__taped, .int a__rules, .ref a_sign, .ref a_length, .ref a_clause, .ref a_clauses, .ref a_read, .int a__next, .int a__wrong, .int a__number, .int a__text, .int a__made, .int a__deep, .int a__lines, .ref a_open, .int a__opened, .ref a_stack, .int a__top, .ref a_word, .ref a_said, .int a__x, .ref a_worth, .ref a_mate, .ref a_wasSaid, .int a__undone, .int a__boughtNow, .ref a_wayBy, .ref a_wayThen, .int a__walkMost, .int a__walkGoing, .int a__walkSet, .ref a_kept, .long a__drawX, .ref a_images, .ref a_imageX, .ref a_isMade]))]) [0,1] rfl) hE hS⟩ rfl rfl hl.1 rfl (lv_room (Nat.le_of_ble_eq_true rfl)) dX12_forgers_59 ⟨(Nat.le_of_ble_eq_true rfl), (Nat.le_of_ble_eq_true rfl)⟩) hS (fun _ _ h => h.elim) (fun _ h => h.elim) (fun r38 u t H1 locs ht hvm hw hB hz1 hk1 hS => ?_)
          have hP := hz_keep hP hk1
          clear hk1 hB hz1
          generalize H1 = H at hP hS ⊢
          rcases hw with rfl | rfl
          · refine lv_if_ne (tgt := 68) hx hb dX12_forgers_62 (by decide) (fun z => absurd (by decide) z) (fun _ => ?_)
            refine lv_goto (tgt := 94) hx hb dX12_forgers_65 (by decide) ?_
            obtain ⟨v39, ev39⟩ : ∃ z : Int32, z = k27_L_4 + 1 := ⟨_, rfl⟩
            have hv39 : IV 1 4096 v39 := iv_add ev39 h32 (iv_c (a := 1) (b := 1) (by decide)) (by decide) (by decide)
            have dv39 : v39.toInt = k27_L_4.toInt + 1 := iv_addE ev39 h32 (iv_c (a := 1) (b := 1) (by decide)) (by decide) (by decide) (by decide)
            refine lv_iinc (v := v39) (lv' := [(4, .int v39), (3, .int k27_L_3), (2, .int k27_L_2), (0, .ref a), (1, .int p0)]) hx hb dX12_forgers_94 hl (k := 0) rfl (by rw [ev39]; rfl) (by decide) rfl (fun ls hl => ?_)
            refine lv_goto (tgt := 27) hx hb dX12_forgers_97 (by decide) ?_
            exact ih27 v39 k27_L_3 k27_L_2 (by have h9 := h32; unfold IV at h9; have := dv39; omega) (iv_w h36 (by decide) (by decide)) q27_11 (iv_w hv39 (by decide) (by decide)) q27_13 H locs (hP.sub (ws' := [(a_said, .inl (cs 0, 123, .inl a_said_c)), (a, .inr (12, [.ref a_tape, .int a__taped, .int a__rules, .ref a_sign, .ref a_length, .ref a_clause, .ref a_clauses, .ref a_read, .int a__next, .int a__wrong, .int a__number, .int a__text, .int a__made, .int a__deep, .int a__lines, .ref a_open, .int a__opened, .ref a_stack, .int a__top, .ref a_word, .ref a_said, .int a__x, .ref a_worth, .ref a_mate, .ref a_wasSaid, .int a__undone, .int a__boughtNow, .ref a_wayBy, .ref a_wayThen, .int a__walkMost, .int a__walkGoing, .int a__walkSet, .ref a_kept, .long a__drawX, .ref a_images, .ref a_imageX, .ref a_isMade]))]) [0, 1] rfl) hS ls (lv_sub hl [0, 1, 2, 3, 4] rfl)
          · refine lv_if_ne (tgt := 68) hx hb dX12_forgers_62 (by decide) (fun _ => ?_) (fun z => absurd z (by decide))
            refine lv_iload_n hx hb dX12_forgers_68 rfl (lv_at hl 2 rfl) ?_
            refine lv_if_lt (tgt := 84) hx hb dX12_forgers_69 (by decide) (fun _ => ?_) (fun z => absurd (iv_ltT h36 (iv_c (a := 0) (b := 0) (by decide)) (by decide)) z)
            refine lv_iload hx hb dX12_forgers_84 (lv_at hl 0 rfl) ?_
            refine lv_istore_n (lv' := [(2, .int k27_L_4), (4, .int k27_L_4), (3, .int k27_L_3), (0, .ref a), (1, .int p0)]) hx hb dX12_forgers_86 rfl hl (by decide) rfl (fun ls hl => ?_)
            refine lv_iconst (v := 0) hx hb dX12_forgers_87 (by decide) ?_
            refine lv_istore_n (lv' := [(3, .int 0), (2, .int k27_L_4), (4, .int k27_L_4), (0, .ref a), (1, .int p0)]) hx hb dX12_forgers_88 rfl hl (by decide) rfl (fun ls hl => ?_)
            refine lv_iload_n hx hb dX12_forgers_89 rfl (lv_at hl 0 rfl) ?_
            refine lv_iload hx hb dX12_forgers_90 (lv_at hl 2 rfl) ?_
            refine lv_ior hx hb dX12_forgers_92 ?_
            refine lv_topi (fun v40 ev40 => ?_)
            have hv40 : IV 0 4095 v40 := iv_or (k := 12) ev40 (iv_c (a := 0) (b := 0) (by decide)) h32 (by decide) (by decide) (by decide) (by decide) (by decide) (by decide)
            have ii41 : 0 ≤ v40.toInt ∧ v40.toInt ≤ 4095 := hv40
            refine lv_istore_n (lv' := [(3, .int v40), (2, .int k27_L_4), (4, .int k27_L_4), (0, .ref a), (1, .int p0)]) hx hb dX12_forgers_93 rfl hl (by decide) rfl (fun ls hl => ?_)
            obtain ⟨v42, ev42⟩ : ∃ z : Int32, z = k27_L_4 + 1 := ⟨_, rfl⟩
            have hv42 : IV 1 4096 v42 := iv_add ev42 h32 (iv_c (a := 1) (b := 1) (by decide)) (by decide) (by decide)
            have dv42 : v42.toInt = k27_L_4.toInt + 1 := iv_addE ev42 h32 (iv_c (a := 1) (b := 1) (by decide)) (by decide) (by decide) (by decide)
            refine lv_iinc (v := v42) (lv' := [(4, .int v42), (3, .int v40), (2, .int k27_L_4), (0, .ref a), (1, .int p0)]) hx hb dX12_forgers_94 hl (k := 2) rfl (by rw [ev42]; rfl) (by decide) rfl (fun ls hl => ?_)
            refine lv_goto (tgt := 27) hx hb dX12_forgers_97 (by decide) ?_
            exact ih27 v42 v40 k27_L_4 (by have h9 := h32; unfold IV at h9; have := dv42; omega) (iv_w h32 (by decide) (by decide)) hv40 (iv_w hv42 (by decide) (by decide)) q27_13 H locs (hP.sub (ws' := [(a_said, .inl (cs 0, 123, .inl a_said_c)), (a, .inr (12, [.ref a_tape, .int a__taped, .int a__rules, .ref a_sign, .ref a_length, .ref a_clause, .ref a_clauses, .ref a_read, .int a__next, .int a__wrong, .int a__number, .int a__text, .int a__made, .int a__deep, .int a__lines, .ref a_open, .int a__opened, .ref a_stack, .int a__top, .ref a_word, .ref a_said, .int a__x, .ref a_worth, .ref a_mate, .ref a_wasSaid, .int a__undone, .int a__boughtNow, .ref a_wayBy, .ref a_wayThen, .int a__walkMost, .int a__walkGoing, .int a__walkSet, .ref a_kept, .long a__drawX, .ref a_images, .ref a_imageX, .ref a_isMade]))]) [0, 1] rfl) hS ls (lv_sub hl [0, 1, 2, 3, 4] rfl)
        · have t43 : k27_L_2.toInt ≥ 0 := lin_ltN c34 rfl (by decide)
          have h44 : IV 0 4095 k27_L_2 := iv_le2 (Int32.not_lt.mp c34) (iv_c (a := 0) (b := 0) (by decide)) q27_10 (by decide)
          have ii45 : 0 ≤ k27_L_2.toInt ∧ k27_L_2.toInt ≤ 4095 := h44
          refine lv_iload hx hb dX12_forgers_44 (lv_at hl 0 rfl) ?_
          refine va_calli (va_runS (As := [.int k27_L_4]) (rest := []) ⟨hx, hb, hml, hown, hT⟩ (c_X12_bits l D cs kK kV k27_L_4) (va_cwS 1 hT (hz_gS q_1192 q_1193 q_701 q_1194) rfl rfl rfl (by decide +kernel) ⟨(Nat.le_of_ble_eq_true rfl), (Nat.le_of_ble_eq_true rfl)⟩) ⟨hz_P.blind, hz_P.mk (hP.sub (ws' := []) [] rfl) hE hS⟩ rfl rfl hl.1 rfl (lv_room (Nat.le_of_ble_eq_true rfl)) dX12_forgers_46 ⟨(Nat.le_of_ble_eq_true rfl), (Nat.le_of_ble_eq_true rfl)⟩) hS (fun _ _ h => h.elim) (fun _ h => h.elim) (fun r46 u t H1 locs ht hvm hw hB hz1 hk1 hS => ?_)
          have hP := hz_keep hP hk1
          clear hk1 hB hz1
          generalize H1 = H at hP hS ⊢
          refine lv_iload_n hx hb dX12_forgers_49 rfl (lv_at hl 2 rfl) ?_
          refine va_calli (va_runS (As := [.int k27_L_2]) (rest := [.int r46]) ⟨hx, hb, hml, hown, hT⟩ (c_X12_bits l D cs kK kV k27_L_2) (va_cwS 1 hT (hz_gS q_1192 q_1193 q_701 q_1194) rfl rfl rfl (by decide +kernel) ⟨(Nat.le_of_ble_eq_true rfl), (Nat.le_of_ble_eq_true rfl)⟩) ⟨hz_P.blind, hz_P.mk (hP.sub (ws' := []) [] rfl) hE hS⟩ rfl rfl hl.1 rfl (lv_room (Nat.le_of_ble_eq_true rfl)) dX12_forgers_50 ⟨(Nat.le_of_ble_eq_true rfl), (Nat.le_of_ble_eq_true rfl)⟩) hS (fun _ _ h => h.elim) (fun _ h => h.elim) (fun r47 u t H1 locs ht hvm hw hB hz1 hk1 hS => ?_)
          have hP := hz_keep hP hk1
          clear hk1 hB hz1
          generalize H1 = H at hP hS ⊢
          refine lv_icmp_gt (tgt := 94) hx hb dX12_forgers_53 (by decide) (fun c48 => ?_) (fun c48 => ?_)
          · have t49 : r46.toInt > r47.toInt := lin_gt c48 rfl rfl
            have h50 : IV (-2147483648) 2147483646 r47 := iv_lt1 c48 iv_top iv_top (by decide)
            have ii51 : (-2147483648) ≤ r47.toInt ∧ r47.toInt ≤ 2147483646 := h50
            have h52 : IV (-2147483647) 2147483647 r46 := iv_lt2 c48 iv_top iv_top (by decide)
            have ii53 : (-2147483647) ≤ r46.toInt ∧ r46.toInt ≤ 2147483647 := h52
            obtain ⟨v54, ev54⟩ : ∃ z : Int32, z = k27_L_4 + 1 := ⟨_, rfl⟩
            have hv54 : IV 1 4096 v54 := iv_add ev54 h32 (iv_c (a := 1) (b := 1) (by decide)) (by decide) (by decide)
            have dv54 : v54.toInt = k27_L_4.toInt + 1 := iv_addE ev54 h32 (iv_c (a := 1) (b := 1) (by decide)) (by decide) (by decide) (by decide)
            refine lv_iinc (v := v54) (lv' := [(4, .int v54), (3, .int k27_L_3), (2, .int k27_L_2), (0, .ref a), (1, .int p0)]) hx hb dX12_forgers_94 hl (k := 0) rfl (by rw [ev54]; rfl) (by decide) rfl (fun ls hl => ?_)
            refine lv_goto (tgt := 27) hx hb dX12_forgers_97 (by decide) ?_
            exact ih27 v54 k27_L_3 k27_L_2 (by have h9 := h32; unfold IV at h9; have := dv54; omega) (iv_w h44 (by decide) (by decide)) q27_11 (iv_w hv54 (by decide) (by decide)) q27_13 H locs (hP.sub (ws' := [(a_said, .inl (cs 0, 123, .inl a_said_c)), (a, .inr (12, [.ref a_tape, .int a__taped, .int a__rules, .ref a_sign, .ref a_length, .ref a_clause, .ref a_clauses, .ref a_read, .int a__next, .int a__wrong, .int a__number, .int a__text, .int a__made, .int a__deep, .int a__lines, .ref a_open, .int a__opened, .ref a_stack, .int a__top, .ref a_word, .ref a_said, .int a__x, .ref a_worth, .ref a_mate, .ref a_wasSaid, .int a__undone, .int a__boughtNow, .ref a_wayBy, .ref a_wayThen, .int a__walkMost, .int a__walkGoing, .int a__walkSet, .ref a_kept, .long a__drawX, .ref a_images, .ref a_imageX, .ref a_isMade]))]) [0, 1] rfl) hS ls (lv_sub hl [0, 1, 2, 3, 4] rfl)
          · have t55 : r46.toInt ≤ r47.toInt := lin_gtN c48 rfl rfl
            refine lv_aload_n hx hb dX12_forgers_56 rfl (lv_at hl 3 rfl) ?_
            refine lv_iload hx hb dX12_forgers_57 (lv_at hl 0 rfl) ?_
            refine va_calli (va_runV (As := [.int k27_L_4]) (rest := []) ⟨hx, hb, hml, hown, hT⟩ (c_X12_isTried l D cs kK kV a k27_L_4 a_said a_said_c a_tape a__taped a__rules a_sign a_length a_clause a_clauses a_read a__next a__wrong a__number a__text a__made a__deep a__lines a_open a__opened a_stack a__top a_word a__x a_worth a_mate a_wasSaid a__undone a__boughtNow a_wayBy a_wayThen a__walkMost a__walkGoing a__walkSet a_kept a__drawX a_images a_imageX a_isMade h_a__taped h_a__rules h_a__next h_a__text h_a__made h_a__lines h_a__opened h_a__top h_a__x h_a__undone hf0 hf1) (cwV 1 hT (hz_gV q_1297 q_1298 q_1299 q_701 q_1300) rfl rfl rfl (by decide +kernel) ⟨(Nat.le_of_ble_eq_true rfl), (Nat.le_of_ble_eq_true rfl)⟩) ⟨hz_P.blind, va_recv hK hP (ci := 12) (q0 := 1) rfl rfl, hz_P.mk (hP.sub (ws' := [(a_said, .inl (cs 0, 123, .inl a_said_c)), (a, .inr (12, [.ref a_tape, .int a__taped, .int a__rules, .ref a_sign, .ref a_length, .ref a_clause, .ref a_clauses, .ref a_read, .int a__next, .int a__wrong, .int a__number, .int a__text, .int a__made, .int a__deep, .int a__lines, .ref a_open, .int a__opened, .ref a_stack, .int a__top, .ref a_word, .ref a_said, .int a__x, .ref a_worth, .ref a_mate, .ref a_wasSaid, .int a__undone, .int a__boughtNow, .ref a_wayBy, .ref a_wayThen, .int a__walkMost, .int a__walkGoing, .int a__walkSet, .ref a_kept, .long a__drawX, .ref a_images, .ref a_imageX, .ref a_isMade]))]) [0,1] rfl) hE hS⟩ rfl rfl hl.1 rfl (lv_room (Nat.le_of_ble_eq_true rfl)) dX12_forgers_59 ⟨(Nat.le_of_ble_eq_true rfl), (Nat.le_of_ble_eq_true rfl)⟩) hS (fun _ _ h => h.elim) (fun _ h => h.elim) (fun r56 u t H1 locs ht hvm hw hB hz1 hk1 hS => ?_)
            have hP := hz_keep hP hk1
            clear hk1 hB hz1
            generalize H1 = H at hP hS ⊢
            rcases hw with rfl | rfl
            · refine lv_if_ne (tgt := 68) hx hb dX12_forgers_62 (by decide) (fun z => absurd (by decide) z) (fun _ => ?_)
              refine lv_goto (tgt := 94) hx hb dX12_forgers_65 (by decide) ?_
              obtain ⟨v57, ev57⟩ : ∃ z : Int32, z = k27_L_4 + 1 := ⟨_, rfl⟩
              have hv57 : IV 1 4096 v57 := iv_add ev57 h32 (iv_c (a := 1) (b := 1) (by decide)) (by decide) (by decide)
              have dv57 : v57.toInt = k27_L_4.toInt + 1 := iv_addE ev57 h32 (iv_c (a := 1) (b := 1) (by decide)) (by decide) (by decide) (by decide)
              refine lv_iinc (v := v57) (lv' := [(4, .int v57), (3, .int k27_L_3), (2, .int k27_L_2), (0, .ref a), (1, .int p0)]) hx hb dX12_forgers_94 hl (k := 0) rfl (by rw [ev57]; rfl) (by decide) rfl (fun ls hl => ?_)
              refine lv_goto (tgt := 27) hx hb dX12_forgers_97 (by decide) ?_
              exact ih27 v57 k27_L_3 k27_L_2 (by have h9 := h32; unfold IV at h9; have := dv57; omega) (iv_w h44 (by decide) (by decide)) q27_11 (iv_w hv57 (by decide) (by decide)) q27_13 H locs (hP.sub (ws' := [(a_said, .inl (cs 0, 123, .inl a_said_c)), (a, .inr (12, [.ref a_tape, .int a__taped, .int a__rules, .ref a_sign, .ref a_length, .ref a_clause, .ref a_clauses, .ref a_read, .int a__next, .int a__wrong, .int a__number, .int a__text, .int a__made, .int a__deep, .int a__lines, .ref a_open, .int a__opened, .ref a_stack, .int a__top, .ref a_word, .ref a_said, .int a__x, .ref a_worth, .ref a_mate, .ref a_wasSaid, .int a__undone, .int a__boughtNow, .ref a_wayBy, .ref a_wayThen, .int a__walkMost, .int a__walkGoing, .int a__walkSet, .ref a_kept, .long a__drawX, .ref a_images, .ref a_imageX, .ref a_isMade]))]) [0, 1] rfl) hS ls (lv_sub hl [0, 1, 2, 3, 4] rfl)
            · refine lv_if_ne (tgt := 68) hx hb dX12_forgers_62 (by decide) (fun _ => ?_) (fun z => absurd z (by decide))
              refine lv_iload_n hx hb dX12_forgers_68 rfl (lv_at hl 2 rfl) ?_
              refine lv_if_lt (tgt := 84) hx hb dX12_forgers_69 (by decide) (fun z => absurd z (iv_ltF h44 (iv_c (a := 0) (b := 0) (by decide)) (by decide))) (fun _ => ?_)
              refine lv_iload hx hb dX12_forgers_72 (lv_at hl 0 rfl) ?_
              refine va_calli (va_runS (As := [.int k27_L_4]) (rest := []) ⟨hx, hb, hml, hown, hT⟩ (c_X12_bits l D cs kK kV k27_L_4) (va_cwS 1 hT (hz_gS q_1192 q_1193 q_701 q_1194) rfl rfl rfl (by decide +kernel) ⟨(Nat.le_of_ble_eq_true rfl), (Nat.le_of_ble_eq_true rfl)⟩) ⟨hz_P.blind, hz_P.mk (hP.sub (ws' := []) [] rfl) hE hS⟩ rfl rfl hl.1 rfl (lv_room (Nat.le_of_ble_eq_true rfl)) dX12_forgers_74 ⟨(Nat.le_of_ble_eq_true rfl), (Nat.le_of_ble_eq_true rfl)⟩) hS (fun _ _ h => h.elim) (fun _ h => h.elim) (fun r58 u t H1 locs ht hvm hw hB hz1 hk1 hS => ?_)
              have hP := hz_keep hP hk1
              clear hk1 hB hz1
              generalize H1 = H at hP hS ⊢
              refine lv_iload_n hx hb dX12_forgers_77 rfl (lv_at hl 2 rfl) ?_
              refine va_calli (va_runS (As := [.int k27_L_2]) (rest := [.int r58]) ⟨hx, hb, hml, hown, hT⟩ (c_X12_bits l D cs kK kV k27_L_2) (va_cwS 1 hT (hz_gS q_1192 q_1193 q_701 q_1194) rfl rfl rfl (by decide +kernel) ⟨(Nat.le_of_ble_eq_true rfl), (Nat.le_of_ble_eq_true rfl)⟩) ⟨hz_P.blind, hz_P.mk (hP.sub (ws' := []) [] rfl) hE hS⟩ rfl rfl hl.1 rfl (lv_room (Nat.le_of_ble_eq_true rfl)) dX12_forgers_78 ⟨(Nat.le_of_ble_eq_true rfl), (Nat.le_of_ble_eq_true rfl)⟩) hS (fun _ _ h => h.elim) (fun _ h => h.elim) (fun r59 u t H1 locs ht hvm hw hB hz1 hk1 hS => ?_)
              have hP := hz_keep hP hk1
              clear hk1 hB hz1
              generalize H1 = H at hP hS ⊢
              refine lv_icmp_ge (tgt := 89) hx hb dX12_forgers_81 (by decide) (fun c60 => ?_) (fun c60 => ?_)
              · have t61 : r58.toInt ≥ r59.toInt := lin_ge c60 rfl rfl
                refine lv_iload_n hx hb dX12_forgers_89 rfl (lv_at hl 1 rfl) ?_
                refine lv_iload hx hb dX12_forgers_90 (lv_at hl 0 rfl) ?_
                refine lv_ior hx hb dX12_forgers_92 ?_
                refine lv_topi (fun v62 ev62 => ?_)
                have hv62 : IV 0 4095 v62 := iv_or (k := 12) ev62 q27_11 h32 (by decide) (by decide) (by decide) (by decide) (by decide) (by decide)
                have ii63 : 0 ≤ v62.toInt ∧ v62.toInt ≤ 4095 := hv62
                refine lv_istore_n (lv' := [(3, .int v62), (4, .int k27_L_4), (2, .int k27_L_2), (0, .ref a), (1, .int p0)]) hx hb dX12_forgers_93 rfl hl (by decide) rfl (fun ls hl => ?_)
                obtain ⟨v64, ev64⟩ : ∃ z : Int32, z = k27_L_4 + 1 := ⟨_, rfl⟩
                have hv64 : IV 1 4096 v64 := iv_add ev64 h32 (iv_c (a := 1) (b := 1) (by decide)) (by decide) (by decide)
                have dv64 : v64.toInt = k27_L_4.toInt + 1 := iv_addE ev64 h32 (iv_c (a := 1) (b := 1) (by decide)) (by decide) (by decide) (by decide)
                refine lv_iinc (v := v64) (lv' := [(4, .int v64), (3, .int v62), (2, .int k27_L_2), (0, .ref a), (1, .int p0)]) hx hb dX12_forgers_94 hl (k := 1) rfl (by rw [ev64]; rfl) (by decide) rfl (fun ls hl => ?_)
                refine lv_goto (tgt := 27) hx hb dX12_forgers_97 (by decide) ?_
                exact ih27 v64 v62 k27_L_2 (by have h9 := h32; unfold IV at h9; have := dv64; omega) (iv_w h44 (by decide) (by decide)) hv62 (iv_w hv64 (by decide) (by decide)) q27_13 H locs (hP.sub (ws' := [(a_said, .inl (cs 0, 123, .inl a_said_c)), (a, .inr (12, [.ref a_tape, .int a__taped, .int a__rules, .ref a_sign, .ref a_length, .ref a_clause, .ref a_clauses, .ref a_read, .int a__next, .int a__wrong, .int a__number, .int a__text, .int a__made, .int a__deep, .int a__lines, .ref a_open, .int a__opened, .ref a_stack, .int a__top, .ref a_word, .ref a_said, .int a__x, .ref a_worth, .ref a_mate, .ref a_wasSaid, .int a__undone, .int a__boughtNow, .ref a_wayBy, .ref a_wayThen, .int a__walkMost, .int a__walkGoing, .int a__walkSet, .ref a_kept, .long a__drawX, .ref a_images, .ref a_imageX, .ref a_isMade]))]) [0, 1] rfl) hS ls (lv_sub hl [0, 1, 2, 3, 4] rfl)
              · have t65 : r58.toInt < r59.toInt := lin_geN c60 rfl rfl
                have h66 : IV (-2147483648) 2147483646 r58 := iv_lt1 (Int32.not_le.mp c60) iv_top iv_top (by decide)
                have ii67 : (-2147483648) ≤ r58.toInt ∧ r58.toInt ≤ 2147483646 := h66
                have h68 : IV (-2147483647) 2147483647 r59 := iv_lt2 (Int32.not_le.mp c60) iv_top iv_top (by decide)
                have ii69 : (-2147483647) ≤ r59.toInt ∧ r59.toInt ≤ 2147483647 := h68
                refine lv_iload hx hb dX12_forgers_84 (lv_at hl 0 rfl) ?_
                refine lv_istore_n (lv' := [(2, .int k27_L_4), (4, .int k27_L_4), (3, .int k27_L_3), (0, .ref a), (1, .int p0)]) hx hb dX12_forgers_86 rfl hl (by decide) rfl (fun ls hl => ?_)
                refine lv_iconst (v := 0) hx hb dX12_forgers_87 (by decide) ?_
                refine lv_istore_n (lv' := [(3, .int 0), (2, .int k27_L_4), (4, .int k27_L_4), (0, .ref a), (1, .int p0)]) hx hb dX12_forgers_88 rfl hl (by decide) rfl (fun ls hl => ?_)
                refine lv_iload_n hx hb dX12_forgers_89 rfl (lv_at hl 0 rfl) ?_
                refine lv_iload hx hb dX12_forgers_90 (lv_at hl 2 rfl) ?_
                refine lv_ior hx hb dX12_forgers_92 ?_
                refine lv_topi (fun v70 ev70 => ?_)
                have hv70 : IV 0 4095 v70 := iv_or (k := 12) ev70 (iv_c (a := 0) (b := 0) (by decide)) h32 (by decide) (by decide) (by decide) (by decide) (by decide) (by decide)
                have ii71 : 0 ≤ v70.toInt ∧ v70.toInt ≤ 4095 := hv70
                refine lv_istore_n (lv' := [(3, .int v70), (2, .int k27_L_4), (4, .int k27_L_4), (0, .ref a), (1, .int p0)]) hx hb dX12_forgers_93 rfl hl (by decide) rfl (fun ls hl => ?_)
                obtain ⟨v72, ev72⟩ : ∃ z : Int32, z = k27_L_4 + 1 := ⟨_, rfl⟩
                have hv72 : IV 1 4096 v72 := iv_add ev72 h32 (iv_c (a := 1) (b := 1) (by decide)) (by decide) (by decide)
                have dv72 : v72.toInt = k27_L_4.toInt + 1 := iv_addE ev72 h32 (iv_c (a := 1) (b := 1) (by decide)) (by decide) (by decide) (by decide)
                refine lv_iinc (v := v72) (lv' := [(4, .int v72), (3, .int v70), (2, .int k27_L_4), (0, .ref a), (1, .int p0)]) hx hb dX12_forgers_94 hl (k := 2) rfl (by rw [ev72]; rfl) (by decide) rfl (fun ls hl => ?_)
                refine lv_goto (tgt := 27) hx hb dX12_forgers_97 (by decide) ?_
                exact ih27 v72 v70 k27_L_4 (by have h9 := h32; unfold IV at h9; have := dv72; omega) (iv_w h32 (by decide) (by decide)) hv70 (iv_w hv72 (by decide) (by decide)) q27_13 H locs (hP.sub (ws' := [(a_said, .inl (cs 0, 123, .inl a_said_c)), (a, .inr (12, [.ref a_tape, .int a__taped, .int a__rules, .ref a_sign, .ref a_length, .ref a_clause, .ref a_clauses, .ref a_read, .int a__next, .int a__wrong, .int a__number, .int a__text, .int a__made, .int a__deep, .int a__lines, .ref a_open, .int a__opened, .ref a_stack, .int a__top, .ref a_word, .ref a_said, .int a__x, .ref a_worth, .ref a_mate, .ref a_wasSaid, .int a__undone, .int a__boughtNow, .ref a_wayBy, .ref a_wayThen, .int a__walkMost, .int a__walkGoing, .int a__walkSet, .ref a_kept, .long a__drawX, .ref a_images, .ref a_imageX, .ref a_isMade]))]) [0, 1] rfl) hS ls (lv_sub hl [0, 1, 2, 3, 4] rfl)
  refine lv_aload_n hx hb dX12_forgers_0 rfl (lv_at hl 0 rfl) ?_
  refine va_calli (va_runV (As := []) (rest := []) ⟨hx, hb, hml, hown, hT⟩ (c_X12_isFair l D cs kK kV a a_said a_said_c a_tape a__taped a__rules a_sign a_length a_clause a_clauses a_read a__next a__wrong a__number a__text a__made a__deep a__lines a_open a__opened a_stack a__top a_word a__x a_worth a_mate a_wasSaid a__undone a__boughtNow a_wayBy a_wayThen a__walkMost a__walkGoing a__walkSet a_kept a__drawX a_images a_imageX a_isMade h_a__taped h_a__rules h_a__next h_a__text h_a__made h_a__lines h_a__opened h_a__top h_a__x h_a__undone hf0) (cwV 0 hT (hz_gV q_1140 q_1141 q_1142 q_701 q_1143) rfl rfl rfl (by decide +kernel) ⟨(Nat.le_of_ble_eq_true rfl), (Nat.le_of_ble_eq_true rfl)⟩) ⟨hz_P.blind, va_recv hK hP (ci := 12) (q0 := 1) rfl rfl, hz_P.mk (hP.sub (ws' := [(a_said, .inl (cs 0, 123, .inl a_said_c)), (a, .inr (12, [.ref a_tape, .int a__taped, .int a__rules, .ref a_sign, .ref a_length, .ref a_clause, .ref a_clauses, .ref a_read, .int a__next, .int a__wrong, .int a__number, .int a__text, .int a__made, .int a__deep, .int a__lines, .ref a_open, .int a__opened, .ref a_stack, .int a__top, .ref a_word, .ref a_said, .int a__x, .ref a_worth, .ref a_mate, .ref a_wasSaid, .int a__undone, .int a__boughtNow, .ref a_wayBy, .ref a_wayThen, .int a__walkMost, .int a__walkGoing, .int a__walkSet, .ref a_kept, .long a__drawX, .ref a_images, .ref a_imageX, .ref a_isMade]))]) [0,1] rfl) hE hS⟩ rfl rfl hl.1 rfl (lv_room (Nat.le_of_ble_eq_true rfl)) dX12_forgers_1 ⟨(Nat.le_of_ble_eq_true rfl), (Nat.le_of_ble_eq_true rfl)⟩) hS (fun _ _ h => h.elim) (fun _ h => h.elim) (fun r73 u t H1 locs ht hvm hw hB hz1 hk1 hS => ?_)
  have hP := hz_keep hP hk1
  clear hk1 hB hz1
  generalize H1 = H at hP hS ⊢
  rcases hw with ⟨rfl, x74⟩ | ⟨rfl, x75⟩
  · refine lv_if_eq (tgt := 17) hx hb dX12_forgers_4 (by decide) (fun _ => ?_) (fun z => absurd (by decide) z)
    refine lv_iconst (v := (-1)) hx hb dX12_forgers_17 (by decide) ?_
    exact W.iret (v := (-1)) hx hb hr (fun t ht hW => ⟨⟨(-1), (), rfl, (Or.inl (rfl)), trivial⟩, hS.F ht⟩) hS.2.2 dX12_forgers_18
  · refine lv_if_eq (tgt := 17) hx hb dX12_forgers_4 (by decide) (fun z => absurd z (by decide)) (fun _ => ?_)
    refine lv_iload_n hx hb dX12_forgers_7 rfl (lv_at hl 1 rfl) ?_
    refine lv_i2l (v := p0.toInt64) hx hb dX12_forgers_8 rfl ?_
    refine lv_lconst (v := 0) hx hb dX12_forgers_9 (by decide) ?_
    refine lv_lconst (v := 1) hx hb dX12_forgers_10 (by decide) ?_
    refine va_calli (va_runS (As := [.long p0.toInt64, .long 0, .long 1]) (rest := []) ⟨hx, hb, hml, hown, hT⟩ (c_X12_in l D cs kK kV p0.toInt64 0 1) (va_cwS 3 hT (hz_gS q_964 q_965 q_701 q_966) rfl rfl rfl (by decide +kernel) ⟨(Nat.le_of_ble_eq_true rfl), (Nat.le_of_ble_eq_true rfl)⟩) ⟨hz_P.blind, hz_P.mk (hP.sub (ws' := []) [] rfl) hE hS⟩ rfl rfl hl.1 rfl (lv_room (Nat.le_of_ble_eq_true rfl)) dX12_forgers_11 ⟨(Nat.le_of_ble_eq_true rfl), (Nat.le_of_ble_eq_true rfl)⟩) hS (fun _ _ h => h.elim) (fun _ h => h.elim) (fun r76 u t H1 locs ht hvm hw hB hz1 hk1 hS => ?_)
    have hP := hz_keep hP hk1
    clear hk1 hB hz1
    generalize H1 = H at hP hS ⊢
    rcases hw with ⟨rfl, x77⟩ | ⟨rfl, x78, x79⟩
    · have t80 : ¬ (0 ≤ p0.toInt ∧ p0.toInt ≤ 1) := fun z => x77 ⟨l64_clI z.1 (by decide), l64_lcI z.2 (by decide)⟩
      refine lv_if_ne (tgt := 19) hx hb dX12_forgers_14 (by decide) (fun z => absurd (by decide) z) (fun _ => ?_)
      refine lv_iconst (v := (-1)) hx hb dX12_forgers_17 (by decide) ?_
      exact W.iret (v := (-1)) hx hb hr (fun t ht hW => ⟨⟨(-1), (), rfl, (Or.inl (rfl)), trivial⟩, hS.F ht⟩) hS.2.2 dX12_forgers_18
    · have h81 : IV 0 2147483647 p0 := ⟨l64_cle x78 (by decide), iv_top.2⟩
      have ii82 : 0 ≤ p0.toInt ∧ p0.toInt ≤ 2147483647 := h81
      have h83 : IV 0 1 p0 := ⟨(h81).1, l64_lec x79 (by decide)⟩
      have ii84 : 0 ≤ p0.toInt ∧ p0.toInt ≤ 1 := h83
      refine lv_if_ne (tgt := 19) hx hb dX12_forgers_14 (by decide) (fun _ => ?_) (fun z => absurd z (by decide))
      refine lv_bipush (v := (-2)) hx hb dX12_forgers_19 (by decide) ?_
      refine lv_istore_n (lv' := [(2, .int (-2)), (0, .ref a), (1, .int p0)]) hx hb dX12_forgers_21 rfl hl (by decide) rfl (fun ls hl => ?_)
      refine lv_iconst (v := 0) hx hb dX12_forgers_22 (by decide) ?_
      refine lv_istore_n (lv' := [(3, .int 0), (2, .int (-2)), (0, .ref a), (1, .int p0)]) hx hb dX12_forgers_23 rfl hl (by decide) rfl (fun ls hl => ?_)
      refine lv_iconst (v := 0) hx hb dX12_forgers_24 (by decide) ?_
      refine lv_istore (lv' := [(4, .int 0), (3, .int 0), (2, .int (-2)), (0, .ref a), (1, .int p0)]) hx hb dX12_forgers_25 hl (by decide) rfl (fun ls hl => ?_)
      exact K27 _ ((0 : Int32)) ((0 : Int32)) (((-2) : Int32)) (Nat.le_refl _) (iv_c (by decide)) (iv_c (by decide)) (iv_c (by decide)) h83 H locs (hP.sub (ws' := [(a_said, .inl (cs 0, 123, .inl a_said_c)), (a, .inr (12, [.ref a_tape, .int a__taped, .int a__rules, .ref a_sign, .ref a_length, .ref a_clause, .ref a_clauses, .ref a_read, .int a__next, .int a__wrong, .int a__number, .int a__text, .int a__made, .int a__deep, .int a__lines, .ref a_open, .int a__opened, .ref a_stack, .int a__top, .ref a_word, .ref a_said, .int a__x, .ref a_worth, .ref a_mate, .ref a_wasSaid, .int a__undone, .int a__boughtNow, .ref a_wayBy, .ref a_wayThen, .int a__walkMost, .int a__walkGoing, .int a__walkSet, .ref a_kept, .long a__drawX, .ref a_images, .ref a_imageX, .ref a_isMade]))]) [0, 1] rfl) hS ls (lv_sub hl [0, 1, 2, 3, 4] rfl)
theorem dX12_seed_0 : decode cX12_seed 0 = .ok (.iload_n 1, 1) := by decide +kernel
theorem dX12_seed_1 : decode cX12_seed 1 = .ok (.ifCond .ge 5, 3) := by decide +kernel
theorem dX12_seed_4 : decode cX12_seed 4 = .ok (.iconst (-1), 1) := by decide +kernel
theorem dX12_seed_5 : decode cX12_seed 5 = .ok (.ireturn, 1) := by decide +kernel
theorem dX12_seed_6 : decode cX12_seed 6 = .ok (.aload_n 0, 1) := by decide +kernel
theorem dX12_seed_7 : decode cX12_seed 7 = .ok (.getfield 479, 3) := by decide +kernel
theorem dX12_seed_10 : decode cX12_seed 10 = .ok (.istore_n 2, 1) := by decide +kernel
theorem dX12_seed_11 : decode cX12_seed 11 = .ok (.aload_n 0, 1) := by decide +kernel
theorem dX12_seed_12 : decode cX12_seed 12 = .ok (.iload_n 1, 1) := by decide +kernel
theorem dX12_seed_13 : decode cX12_seed 13 = .ok (.putfield 479, 3) := by decide +kernel
theorem dX12_seed_16 : decode cX12_seed 16 = .ok (.iload_n 2, 1) := by decide +kernel
theorem dX12_seed_17 : decode cX12_seed 17 = .ok (.ireturn, 1) := by decide +kernel
set_option maxHeartbeats 4000000 in
set_option maxRecDepth 100000 in
theorem c_X12_seed (l : Launch) (D : va_G) (cs : Nat → ClassId) (kK kV : Nat → Nat) (a : Nat) (p0 : Int32) (a_tape : Nat) (a__taped : Int32) (a__rules : Int32) (a_sign : Nat) (a_length : Nat) (a_clause : Nat) (a_clauses : Nat) (a_read : Nat) (a__next : Int32) (a__wrong : Int32) (a__number : Int32) (a__text : Int32) (a__made : Int32) (a__deep : Int32) (a__lines : Int32) (a_open : Nat) (a__opened : Int32) (a_stack : Nat) (a__top : Int32) (a_word : Nat) (a_said : Nat) (a__x : Int32) (a_worth : Nat) (a_mate : Nat) (a_wasSaid : Nat) (a__undone : Int32) (a__boughtNow : Int32) (a_wayBy : Nat) (a_wayThen : Nat) (a__walkMost : Int32) (a__walkGoing : Int32) (a__walkSet : Int32) (a_kept : Nat) (a__drawX : Int64) (a_images : Nat) (a_imageX : Nat) (a_isMade : Nat) (h_a__taped : IV 0 400 a__taped) (h_a__rules : IV 0 6 a__rules) (h_a__next : IV 0 400 a__next) (h_a__text : IV 0 6 a__text) (h_a__made : IV 0 60 a__made) (h_a__lines : IV 0 40 a__lines) (h_a__opened : IV 0 400 a__opened) (h_a__top : IV 0 64 a__top) (h_a__x : IV 0 2147483647 a__x) (h_a__undone : IV 0 20 a__undone) (sz : Nat) : Met l yX12_seed (hz_w yX12_seed cX12_seed 3 (some .int)) ({ frames := 0, cells := 0, slots := 0, locals := 0 }) (va_Pc [.ref a, .int p0] (hz_C D cs kK kV sz [(a, .inr (12, [.ref a_tape, .int a__taped, .int a__rules, .ref a_sign, .ref a_length, .ref a_clause, .ref a_clauses, .ref a_read, .int a__next, .int a__wrong, .int a__number, .int a__text, .int a__made, .int a__deep, .int a__lines, .ref a_open, .int a__opened, .ref a_stack, .int a__top, .ref a_word, .ref a_said, .int a__x, .ref a_worth, .ref a_mate, .ref a_wasSaid, .int a__undone, .int a__boughtNow, .ref a_wayBy, .ref a_wayThen, .int a__walkMost, .int a__walkGoing, .int a__walkSet, .ref a_kept, .long a__drawX, .ref a_images, .ref a_imageX, .ref a_isMade]))])) (va_Qi (fun (r : Int32) (u : (Nat → Int32) × (Nat → Nat → Int32)) => (r = (-1) ∧ IV (-2147483648) (-1) p0 ∧ IV 0 2147483647 (u.1 1) ∧ ((u.1 1) = a__x) ∧ (p0.toInt < 0)) ∨ (IV 0 2147483647 r ∧ IV 0 2147483647 p0 ∧ IV 0 2147483647 (u.1 1) ∧ (r = a__x) ∧ ((u.1 1) = p0) ∧ (0 ≤ p0.toInt))) (fun u t => va_P D classes [(a, .inr (12, [.ref a_tape, .int a__taped, .int a__rules, .ref a_sign, .ref a_length, .ref a_clause, .ref a_clauses, .ref a_read, .int a__next, .int a__wrong, .int a__number, .int a__text, .int a__made, .int a__deep, .int a__lines, .ref a_open, .int a__opened, .ref a_stack, .int a__top, .ref a_word, .ref a_said, .int (u.1 1), .ref a_worth, .ref a_mate, .ref a_wasSaid, .int a__undone, .int a__boughtNow, .ref a_wayBy, .ref a_wayThen, .int a__walkMost, .int a__walkGoing, .int a__walkSet, .ref a_kept, .long a__drawX, .ref a_images, .ref a_imageX, .ref a_isMade]))] t.heap ∧ va_D (va_A [(a, .inr (12, [.ref a_tape, .int a__taped, .int a__rules, .ref a_sign, .ref a_length, .ref a_clause, .ref a_clauses, .ref a_read, .int a__next, .int a__wrong, .int a__number, .int a__text, .int a__made, .int a__deep, .int a__lines, .ref a_open, .int a__opened, .ref a_stack, .int a__top, .ref a_word, .ref a_said, .int a__x, .ref a_worth, .ref a_mate, .ref a_wasSaid, .int a__undone, .int a__boughtNow, .ref a_wayBy, .ref a_wayThen, .int a__walkMost, .int a__walkGoing, .int a__walkSet, .ref a_kept, .long a__drawX, .ref a_images, .ref a_imageX, .ref a_isMade]))] sz) [(a, .inr (12, [.ref a_tape, .int a__taped, .int a__rules, .ref a_sign, .ref a_length, .ref a_clause, .ref a_clauses, .ref a_read, .int a__next, .int a__wrong, .int a__number, .int a__text, .int a__made, .int a__deep, .int a__lines, .ref a_open, .int a__opened, .ref a_stack, .int a__top, .ref a_word, .ref a_said, .int (u.1 1), .ref a_worth, .ref a_mate, .ref a_wasSaid, .int a__undone, .int a__boughtNow, .ref a_wayBy, .ref a_wayThen, .int a__walkMost, .int a__walkGoing, .int a__walkSet, .ref a_kept, .long a__drawX, .ref a_images, .ref a_imageX, .ref a_isMade]))]) (va_A [(a, .inr (12, [.ref a_tape, .int a__taped, .int a__rules, .ref a_sign, .ref a_length, .ref a_clause, .ref a_clauses, .ref a_read, .int a__next, .int a__wrong, .int a__number, .int a__text, .int a__made, .int a__deep, .int a__lines, .ref a_open, .int a__opened, .ref a_stack, .int a__top, .ref a_word, .ref a_said, .int a__x, .ref a_worth, .ref a_mate, .ref a_wasSaid, .int a__undone, .int a__boughtNow, .ref a_wayBy, .ref a_wayThen, .int a__walkMost, .int a__walkGoing, .int a__walkSet, .ref a_kept, .long a__drawX, .ref a_images, .ref a_imageX, .ref a_isMade]))] sz)) 0 0 (va_A [(a, .inr (12, [.ref a_tape, .int a__taped, .int a__rules, .ref a_sign, .ref a_length, .ref a_clause, .ref a_clauses, .ref a_read, .int a__next, .int a__wrong, .int a__number, .int a__text, .int a__made, .int a__deep, .int a__lines, .ref a_open, .int a__opened, .ref a_stack, .int a__top, .ref a_word, .ref a_said, .int a__x, .ref a_worth, .ref a_mate, .ref a_wasSaid, .int a__undone, .int a__boughtNow, .ref a_wayBy, .ref a_wayThen, .int a__walkMost, .int a__walkGoing, .int a__walkSet, .ref a_kept, .long a__drawX, .ref a_images, .ref a_imageX, .ref a_isMade]))] sz) := by
  refine Met.ofW (cc := cX12_seed) (maxL := 3) (ret := (some .int)) (by decide) rfl ?_
  intro p e s m args below meth c s₁ B hml hv
  obtain ⟨rfl, hsz, hP, hD0, hE⟩ := hv
  have hx := B.exec
  have hb := B.bytes
  have hr := B.returns
  have hT : ∀ w ∈ TB, w.before _ s = true := fun w h => atoms_spec (ws := hz_w yX12_seed cX12_seed 3 (some .int)) B.pre w (List.mem_cons_of_mem _ h)
  have hown : s.vm.findClass RX12 = some m.cls := findClass_of_methodNamed B.named
  have hlocks := B.notSynchronized
  clear B
  subst hsz
  have hD := hD0.self (sz := s.heap.size)
  generalize hAe : va_A [(a, .inr (12, [.ref a_tape, .int a__taped, .int a__rules, .ref a_sign, .ref a_length, .ref a_clause, .ref a_clauses, .ref a_read, .int a__next, .int a__wrong, .int a__number, .int a__text, .int a__made, .int a__deep, .int a__lines, .ref a_open, .int a__opened, .ref a_stack, .int a__top, .ref a_word, .ref a_said, .int a__x, .ref a_worth, .ref a_mate, .ref a_wasSaid, .int a__undone, .int a__boughtNow, .ref a_wayBy, .ref a_wayThen, .int a__walkMost, .int a__walkGoing, .int a__walkSet, .ref a_kept, .long a__drawX, .ref a_images, .ref a_imageX, .ref a_isMade]))] s.heap.size = A at hD hE ⊢
  have hA : ∀ q : Nat, s.heap.size ≤ q → A q := fun q h => by rw [← hAe]; exact Or.inr h
  clear hAe hD0
  have hS : va_S A s.heap s.heap [] := va_S.rf
  have hK := hE.1
  have hl := lv_entry ([.ref a, .int p0]) (n := 3) (Nat.le_of_ble_eq_true rfl)
  rw [lg_entry_eq]
  generalize (lg_sl ([.ref a, .int p0]) ++ List.replicate (3 - (lg_sl ([.ref a, .int p0])).length) Slot.unset).toArray = ls at hl ⊢
  have hl : lv_has ls 3 [(0, .ref a), (1, .int p0)] := hl
  obtain ⟨H, eH⟩ : ∃ z, z = s.heap := ⟨_, rfl⟩
  have hP : va_P D classes [(a, .inr (12, [.ref a_tape, .int a__taped, .int a__rules, .ref a_sign, .ref a_length, .ref a_clause, .ref a_clauses, .ref a_read, .int a__next, .int a__wrong, .int a__number, .int a__text, .int a__made, .int a__deep, .int a__lines, .ref a_open, .int a__opened, .ref a_stack, .int a__top, .ref a_word, .ref a_said, .int a__x, .ref a_worth, .ref a_mate, .ref a_wasSaid, .int a__undone, .int a__boughtNow, .ref a_wayBy, .ref a_wayThen, .int a__walkMost, .int a__walkGoing, .int a__walkSet, .ref a_kept, .long a__drawX, .ref a_images, .ref a_imageX, .ref a_isMade]))] H := by rw [eH]; exact hP
  have hS : va_S A s.heap H [] := by rw [eH]; exact hS
  rw [← eH]
  clear eH
  obtain ⟨locs, el⟩ : ∃ z : List Loc, z = [] := ⟨_, rfl⟩
  rw [← el] at hS ⊢
  clear el
  have z0 : (0 : Int32).toInt = 0 := by decide
  have z1 : (1 : Int32).toInt = 1 := by decide
  have zm1 : (-1 : Int32).toInt = -1 := by decide
  have i_a__lines : 0 ≤ a__lines.toInt ∧ a__lines.toInt ≤ 40 := h_a__lines
  have i_a__made : 0 ≤ a__made.toInt ∧ a__made.toInt ≤ 60 := h_a__made
  have i_a__next : 0 ≤ a__next.toInt ∧ a__next.toInt ≤ 400 := h_a__next
  have i_a__opened : 0 ≤ a__opened.toInt ∧ a__opened.toInt ≤ 400 := h_a__opened
  have i_a__rules : 0 ≤ a__rules.toInt ∧ a__rules.toInt ≤ 6 := h_a__rules
  have i_a__taped : 0 ≤ a__taped.toInt ∧ a__taped.toInt ≤ 400 := h_a__taped
  have i_a__text : 0 ≤ a__text.toInt ∧ a__text.toInt ≤ 6 := h_a__text
  have i_a__top : 0 ≤ a__top.toInt ∧ a__top.toInt ≤ 64 := h_a__top
  have i_a__undone : 0 ≤ a__undone.toInt ∧ a__undone.toInt ≤ 20 := h_a__undone
  have i_a__x : 0 ≤ a__x.toInt ∧ a__x.toInt ≤ 2147483647 := h_a__x
  refine lv_iload_n hx hb dX12_seed_0 rfl (lv_at hl 1 rfl) ?_
  refine lv_if_ge (tgt := 6) hx hb dX12_seed_1 (by decide) (fun c1 => ?_) (fun c1 => ?_)
  · have t2 : p0.toInt ≥ 0 := lin_ge c1 rfl (by decide)
    have h3 : IV 0 2147483647 p0 := iv_le2 c1 (iv_c (a := 0) (b := 0) (by decide)) iv_top (by decide)
    have ii4 : 0 ≤ p0.toInt ∧ p0.toInt ≤ 2147483647 := h3
    refine lv_aload_n hx hb dX12_seed_6 rfl (lv_at hl 0 rfl) ?_
    refine va_get (D := D) (ci := 12) (v := .int a__x) (C := RX12) (T := TX12) (N := 37) hx hb hT i_X12 hown hK hP 0 rfl rfl 21 (by decide) (hT _ q_211) (fun _ h9 => h9) rfl dX12_seed_7 ?_
    refine lv_istore_n (lv' := [(2, .int a__x), (0, .ref a), (1, .int p0)]) hx hb dX12_seed_10 rfl hl (by decide) rfl (fun ls hl => ?_)
    refine lv_aload_n hx hb dX12_seed_11 rfl (lv_at hl 1 rfl) ?_
    refine lv_iload_n hx hb dX12_seed_12 rfl (lv_at hl 2 rfl) ?_
    refine va_put (D := D) (ci := 12) (v := .int p0) (ty := .int) (C := RX12) (T := TX12) (N := 37) hx hb hT i_X12 tyX12 tyX12_ok nmX12 hown hK hP hD hS 0 rfl rfl 21 (by decide) (hT _ q_211) (fun _ h9 => h9) rfl (by decide +kernel) rfl rfl (Nat.le_of_ble_eq_true rfl) dX12_seed_13 (fun H locs hP hD hS => ?_)
    have hP : va_P D classes [(a, .inr (12, [.ref a_tape, .int a__taped, .int a__rules, .ref a_sign, .ref a_length, .ref a_clause, .ref a_clauses, .ref a_read, .int a__next, .int a__wrong, .int a__number, .int a__text, .int a__made, .int a__deep, .int a__lines, .ref a_open, .int a__opened, .ref a_stack, .int a__top, .ref a_word, .ref a_said, .int p0, .ref a_worth, .ref a_mate, .ref a_wasSaid, .int a__undone, .int a__boughtNow, .ref a_wayBy, .ref a_wayThen, .int a__walkMost, .int a__walkGoing, .int a__walkSet, .ref a_kept, .long a__drawX, .ref a_images, .ref a_imageX, .ref a_isMade]))] H := hP
    have hD : va_D A [(a, .inr (12, [.ref a_tape, .int a__taped, .int a__rules, .ref a_sign, .ref a_length, .ref a_clause, .ref a_clauses, .ref a_read, .int a__next, .int a__wrong, .int a__number, .int a__text, .int a__made, .int a__deep, .int a__lines, .ref a_open, .int a__opened, .ref a_stack, .int a__top, .ref a_word, .ref a_said, .int p0, .ref a_worth, .ref a_mate, .ref a_wasSaid, .int a__undone, .int a__boughtNow, .ref a_wayBy, .ref a_wayThen, .int a__walkMost, .int a__walkGoing, .int a__walkSet, .ref a_kept, .long a__drawX, .ref a_images, .ref a_imageX, .ref a_isMade]))] := hD
    refine lv_iload_n hx hb dX12_seed_16 rfl (lv_at hl 0 rfl) ?_
    refine W.widen (k := 0) (n := 0) (Nat.le_of_ble_eq_true rfl) (Nat.le_of_ble_eq_true rfl) ?_
    have g5 : a__x = a__x := (rfl)
    have g6 : p0 = p0 := (rfl)
    have g7 : 0 ≤ p0.toInt := (by omega)
    exact W.iret (v := a__x) hx hb hr (fun t ht hW => ⟨⟨a__x, (fun k => match k with | 0 => 0 | 1 => p0 | _ => 0, fun _ _ => 0), rfl, (Or.inr ((⟨h_a__x, h3, h3, g5, g6, g7⟩))), by rw [ht]; exact hP.sub [0] rfl, hD.sub [0] (by decide) rfl⟩, hS.F ht⟩) hS.2.2 dX12_seed_17
  · have t8 : p0.toInt < 0 := lin_geN c1 rfl (by decide)
    have h9 : IV (-2147483648) (-1) p0 := iv_lt1 (Int32.not_le.mp c1) iv_top (iv_c (a := 0) (b := 0) (by decide)) (by decide)
    have ii10 : (-2147483648) ≤ p0.toInt ∧ p0.toInt ≤ (-1) := h9
    refine lv_iconst (v := (-1)) hx hb dX12_seed_4 (by decide) ?_
    refine W.widen (k := 0) (n := 0) (Nat.le_of_ble_eq_true rfl) (Nat.le_of_ble_eq_true rfl) ?_
    have g11 : a__x = a__x := (rfl)
    have g12 : p0.toInt < 0 := (by omega)
    exact W.iret (v := (-1)) hx hb hr (fun t ht hW => ⟨⟨(-1), (fun k => match k with | 0 => 0 | 1 => a__x | _ => 0, fun _ _ => 0), rfl, (Or.inl (⟨rfl, h9, h_a__x, g11, g12⟩)), by rw [ht]; exact hP.sub [0] rfl, hD.sub [0] (by decide) rfl⟩, hS.F ht⟩) hS.2.2 dX12_seed_5
theorem dX12_draw_0 : decode cX12_draw 0 = .ok (.aload_n 0, 1) := by decide +kernel
theorem dX12_draw_1 : decode cX12_draw 1 = .ok (.aload_n 0, 1) := by decide +kernel
theorem dX12_draw_2 : decode cX12_draw 2 = .ok (.getfield 482, 3) := by decide +kernel
theorem dX12_draw_5 : decode cX12_draw 5 = .ok (.ldc2_w 486, 3) := by decide +kernel
theorem dX12_draw_8 : decode cX12_draw 8 = .ok (.lmul, 1) := by decide +kernel
theorem dX12_draw_9 : decode cX12_draw 9 = .ok (.ldc2_w 488, 3) := by decide +kernel
theorem dX12_draw_12 : decode cX12_draw 12 = .ok (.ladd, 1) := by decide +kernel
theorem dX12_draw_13 : decode cX12_draw 13 = .ok (.ldc2_w 490, 3) := by decide +kernel
theorem dX12_draw_16 : decode cX12_draw 16 = .ok (.lrem, 1) := by decide +kernel
theorem dX12_draw_17 : decode cX12_draw 17 = .ok (.putfield 482, 3) := by decide +kernel
theorem dX12_draw_20 : decode cX12_draw 20 = .ok (.aload_n 0, 1) := by decide +kernel
theorem dX12_draw_21 : decode cX12_draw 21 = .ok (.getfield 482, 3) := by decide +kernel
theorem dX12_draw_24 : decode cX12_draw 24 = .ok (.ldc2_w 492, 3) := by decide +kernel
theorem dX12_draw_27 : decode cX12_draw 27 = .ok (.ldiv, 1) := by decide +kernel
theorem dX12_draw_28 : decode cX12_draw 28 = .ok (.iload_n 1, 1) := by decide +kernel
theorem dX12_draw_29 : decode cX12_draw 29 = .ok (.i2l, 1) := by decide +kernel
theorem dX12_draw_30 : decode cX12_draw 30 = .ok (.lrem, 1) := by decide +kernel
theorem dX12_draw_31 : decode cX12_draw 31 = .ok (.l2i, 1) := by decide +kernel
theorem dX12_draw_32 : decode cX12_draw 32 = .ok (.ireturn, 1) := by decide +kernel
set_option maxHeartbeats 4000000 in
set_option maxRecDepth 100000 in
theorem c_X12_draw (l : Launch) (D : va_G) (cs : Nat → ClassId) (kK kV : Nat → Nat) (a : Nat) (p0 : Int32) (a_tape : Nat) (a__taped : Int32) (a__rules : Int32) (a_sign : Nat) (a_length : Nat) (a_clause : Nat) (a_clauses : Nat) (a_read : Nat) (a__next : Int32) (a__wrong : Int32) (a__number : Int32) (a__text : Int32) (a__made : Int32) (a__deep : Int32) (a__lines : Int32) (a_open : Nat) (a__opened : Int32) (a_stack : Nat) (a__top : Int32) (a_word : Nat) (a_said : Nat) (a__x : Int32) (a_worth : Nat) (a_mate : Nat) (a_wasSaid : Nat) (a__undone : Int32) (a__boughtNow : Int32) (a_wayBy : Nat) (a_wayThen : Nat) (a__walkMost : Int32) (a__walkGoing : Int32) (a__walkSet : Int32) (a_kept : Nat) (a__drawX : Int64) (a_images : Nat) (a_imageX : Nat) (a_isMade : Nat) (h_p0 : IV 1 100 p0) (h_a__taped : IV 0 400 a__taped) (h_a__rules : IV 0 6 a__rules) (h_a__next : IV 0 400 a__next) (h_a__text : IV 0 6 a__text) (h_a__made : IV 0 60 a__made) (h_a__lines : IV 0 40 a__lines) (h_a__opened : IV 0 400 a__opened) (h_a__top : IV 0 64 a__top) (h_a__x : IV 0 2147483647 a__x) (h_a__undone : IV 0 20 a__undone) (hf0 : 0 ≤ a__drawX.toInt ∧ a__drawX.toInt < 2147483648) (sz : Nat) : Met l yX12_draw (hz_w yX12_draw cX12_draw 2 (some .int)) ({ frames := 0, cells := 0, slots := 0, locals := 0 }) (va_Pc [.ref a, .int p0] (hz_C D cs kK kV sz [(a, .inr (12, [.ref a_tape, .int a__taped, .int a__rules, .ref a_sign, .ref a_length, .ref a_clause, .ref a_clauses, .ref a_read, .int a__next, .int a__wrong, .int a__number, .int a__text, .int a__made, .int a__deep, .int a__lines, .ref a_open, .int a__opened, .ref a_stack, .int a__top, .ref a_word, .ref a_said, .int a__x, .ref a_worth, .ref a_mate, .ref a_wasSaid, .int a__undone, .int a__boughtNow, .ref a_wayBy, .ref a_wayThen, .int a__walkMost, .int a__walkGoing, .int a__walkSet, .ref a_kept, .long a__drawX, .ref a_images, .ref a_imageX, .ref a_isMade]))])) (va_Qi (fun (r : Int32) (u : (Nat → Int32) × (Nat → Nat → Int32)) => ((0 ≤ r.toInt ∧ r.toInt < p0.toInt))) (fun u t => ∃ (o_a_33 : Int64), (0 ≤ o_a_33.toInt ∧ o_a_33.toInt < 2147483648) ∧ va_P D classes [(a, .inr (12, [.ref a_tape, .int a__taped, .int a__rules, .ref a_sign, .ref a_length, .ref a_clause, .ref a_clauses, .ref a_read, .int a__next, .int a__wrong, .int a__number, .int a__text, .int a__made, .int a__deep, .int a__lines, .ref a_open, .int a__opened, .ref a_stack, .int a__top, .ref a_word, .ref a_said, .int a__x, .ref a_worth, .ref a_mate, .ref a_wasSaid, .int a__undone, .int a__boughtNow, .ref a_wayBy, .ref a_wayThen, .int a__walkMost, .int a__walkGoing, .int a__walkSet, .ref a_kept, .long o_a_33, .ref a_images, .ref a_imageX, .ref a_isMade]))] t.heap ∧ va_D (va_A [(a, .inr (12, [.ref a_tape, .int a__taped, .int a__rules, .ref a_sign, .ref a_length, .ref a_clause, .ref a_clauses, .ref a_read, .int a__next, .int a__wrong, .int a__number, .int a__text, .int a__made, .int a__deep, .int a__lines, .ref a_open, .int a__opened, .ref a_stack, .int a__top, .ref a_word, .ref a_said, .int a__x, .ref a_worth, .ref a_mate, .ref a_wasSaid, .int a__undone, .int a__boughtNow, .ref a_wayBy, .ref a_wayThen, .int a__walkMost, .int a__walkGoing, .int a__walkSet, .ref a_kept, .long a__drawX, .ref a_images, .ref a_imageX, .ref a_isMade]))] sz) [(a, .inr (12, [.ref a_tape, .int a__taped, .int a__rules, .ref a_sign, .ref a_length, .ref a_clause, .ref a_clauses, .ref a_read, .int a__next, .int a__wrong, .int a__number, .int a__text, .int a__made, .int a__deep, .int a__lines, .ref a_open, .int a__opened, .ref a_stack, .int a__top, .ref a_word, .ref a_said, .int a__x, .ref a_worth, .ref a_mate, .ref a_wasSaid, .int a__undone, .int a__boughtNow, .ref a_wayBy, .ref a_wayThen, .int a__walkMost, .int a__walkGoing, .int a__walkSet, .ref a_kept, .long o_a_33, .ref a_images, .ref a_imageX, .ref a_isMade]))]) (va_A [(a, .inr (12, [.ref a_tape, .int a__taped, .int a__rules, .ref a_sign, .ref a_length, .ref a_clause, .ref a_clauses, .ref a_read, .int a__next, .int a__wrong, .int a__number, .int a__text, .int a__made, .int a__deep, .int a__lines, .ref a_open, .int a__opened, .ref a_stack, .int a__top, .ref a_word, .ref a_said, .int a__x, .ref a_worth, .ref a_mate, .ref a_wasSaid, .int a__undone, .int a__boughtNow, .ref a_wayBy, .ref a_wayThen, .int a__walkMost, .int a__walkGoing, .int a__walkSet, .ref a_kept, .long a__drawX, .ref a_images, .ref a_imageX, .ref a_isMade]))] sz)) 0 0 (va_A [(a, .inr (12, [.ref a_tape, .int a__taped, .int a__rules, .ref a_sign, .ref a_length, .ref a_clause, .ref a_clauses, .ref a_read, .int a__next, .int a__wrong, .int a__number, .int a__text, .int a__made, .int a__deep, .int a__lines, .ref a_open, .int a__opened, .ref a_stack, .int a__top, .ref a_word, .ref a_said, .int a__x, .ref a_worth, .ref a_mate, .ref a_wasSaid, .int a__undone, .int a__boughtNow, .ref a_wayBy, .ref a_wayThen, .int a__walkMost, .int a__walkGoing, .int a__walkSet, .ref a_kept, .long a__drawX, .ref a_images, .ref a_imageX, .ref a_isMade]))] sz) := by
  refine Met.ofW (cc := cX12_draw) (maxL := 2) (ret := (some .int)) (by decide) rfl ?_
  intro p e s m args below meth c s₁ B hml hv
  obtain ⟨rfl, hsz, hP, hD0, hE⟩ := hv
  have hx := B.exec
  have hb := B.bytes
  have hr := B.returns
  have hT : ∀ w ∈ TB, w.before _ s = true := fun w h => atoms_spec (ws := hz_w yX12_draw cX12_draw 2 (some .int)) B.pre w (List.mem_cons_of_mem _ h)
  have hown : s.vm.findClass RX12 = some m.cls := findClass_of_methodNamed B.named
  have hlocks := B.notSynchronized
  clear B
  subst hsz
  have hD := hD0.self (sz := s.heap.size)
  generalize hAe : va_A [(a, .inr (12, [.ref a_tape, .int a__taped, .int a__rules, .ref a_sign, .ref a_length, .ref a_clause, .ref a_clauses, .ref a_read, .int a__next, .int a__wrong, .int a__number, .int a__text, .int a__made, .int a__deep, .int a__lines, .ref a_open, .int a__opened, .ref a_stack, .int a__top, .ref a_word, .ref a_said, .int a__x, .ref a_worth, .ref a_mate, .ref a_wasSaid, .int a__undone, .int a__boughtNow, .ref a_wayBy, .ref a_wayThen, .int a__walkMost, .int a__walkGoing, .int a__walkSet, .ref a_kept, .long a__drawX, .ref a_images, .ref a_imageX, .ref a_isMade]))] s.heap.size = A at hD hE ⊢
  have hA : ∀ q : Nat, s.heap.size ≤ q → A q := fun q h => by rw [← hAe]; exact Or.inr h
  clear hAe hD0
  have hS : va_S A s.heap s.heap [] := va_S.rf
  have hK := hE.1
  have hl := lv_entry ([.ref a, .int p0]) (n := 2) (Nat.le_of_ble_eq_true rfl)
  rw [lg_entry_eq]
  generalize (lg_sl ([.ref a, .int p0]) ++ List.replicate (2 - (lg_sl ([.ref a, .int p0])).length) Slot.unset).toArray = ls at hl ⊢
  have hl : lv_has ls 2 [(0, .ref a), (1, .int p0)] := hl
  obtain ⟨H, eH⟩ : ∃ z, z = s.heap := ⟨_, rfl⟩
  have hP : va_P D classes [(a, .inr (12, [.ref a_tape, .int a__taped, .int a__rules, .ref a_sign, .ref a_length, .ref a_clause, .ref a_clauses, .ref a_read, .int a__next, .int a__wrong, .int a__number, .int a__text, .int a__made, .int a__deep, .int a__lines, .ref a_open, .int a__opened, .ref a_stack, .int a__top, .ref a_word, .ref a_said, .int a__x, .ref a_worth, .ref a_mate, .ref a_wasSaid, .int a__undone, .int a__boughtNow, .ref a_wayBy, .ref a_wayThen, .int a__walkMost, .int a__walkGoing, .int a__walkSet, .ref a_kept, .long a__drawX, .ref a_images, .ref a_imageX, .ref a_isMade]))] H := by rw [eH]; exact hP
  have hS : va_S A s.heap H [] := by rw [eH]; exact hS
  rw [← eH]
  clear eH
  obtain ⟨locs, el⟩ : ∃ z : List Loc, z = [] := ⟨_, rfl⟩
  rw [← el] at hS ⊢
  clear el
  have z0 : (0 : Int32).toInt = 0 := by decide
  have z1 : (1 : Int32).toInt = 1 := by decide
  have zm1 : (-1 : Int32).toInt = -1 := by decide
  have i_a__lines : 0 ≤ a__lines.toInt ∧ a__lines.toInt ≤ 40 := h_a__lines
  have i_a__made : 0 ≤ a__made.toInt ∧ a__made.toInt ≤ 60 := h_a__made
  have i_a__next : 0 ≤ a__next.toInt ∧ a__next.toInt ≤ 400 := h_a__next
  have i_a__opened : 0 ≤ a__opened.toInt ∧ a__opened.toInt ≤ 400 := h_a__opened
  have i_a__rules : 0 ≤ a__rules.toInt ∧ a__rules.toInt ≤ 6 := h_a__rules
  have i_a__taped : 0 ≤ a__taped.toInt ∧ a__taped.toInt ≤ 400 := h_a__taped
  have i_a__text : 0 ≤ a__text.toInt ∧ a__text.toInt ≤ 6 := h_a__text
  have i_a__top : 0 ≤ a__top.toInt ∧ a__top.toInt ≤ 64 := h_a__top
  have i_a__undone : 0 ≤ a__undone.toInt ∧ a__undone.toInt ≤ 20 := h_a__undone
  have i_a__x : 0 ≤ a__x.toInt ∧ a__x.toInt ≤ 2147483647 := h_a__x
  have i_p0 : 1 ≤ p0.toInt ∧ p0.toInt ≤ 100 := h_p0
  refine lv_aload_n hx hb dX12_draw_0 rfl (lv_at hl 0 rfl) ?_
  refine lv_aload_n hx hb dX12_draw_1 rfl (lv_at hl 0 rfl) ?_
  refine va_get (D := D) (ci := 12) (v := .long a__drawX) (C := RX12) (T := TX12) (N := 37) hx hb hT i_X12 hown hK hP 0 rfl rfl 33 (by decide) (hT _ q_212) (fun _ h9 => h9) rfl dX12_draw_2 ?_
  refine lv_ldc2 hx hb hown (hT _ q_1422) dX12_draw_5 ?_
  refine lv_lmul hx hb dX12_draw_8 ?_
  refine lv_topl (fun u1 eu1 => ?_)
  refine lv_ldc2 hx hb hown (hT _ q_1423) dX12_draw_9 ?_
  refine lv_ladd hx hb dX12_draw_12 ?_
  refine lv_topl (fun u2 eu2 => ?_)
  refine lv_ldc2 hx hb hown (hT _ q_1424) dX12_draw_13 ?_
  refine lv_lrem hx hb dX12_draw_16 (by decide) ?_
  refine lv_topl (fun u3 eu3 => ?_)
  refine va_put (D := D) (ci := 12) (v := .long u3) (ty := .long) (C := RX12) (T := TX12) (N := 37) hx hb hT i_X12 tyX12 tyX12_ok nmX12 hown hK hP hD hS 0 rfl rfl 33 (by decide) (hT _ q_212) (fun _ h9 => h9) rfl (by decide +kernel) rfl rfl (Nat.le_of_ble_eq_true rfl) dX12_draw_17 (fun H locs hP hD hS => ?_)
  have hP : va_P D classes [(a, .inr (12, [.ref a_tape, .int a__taped, .int a__rules, .ref a_sign, .ref a_length, .ref a_clause, .ref a_clauses, .ref a_read, .int a__next, .int a__wrong, .int a__number, .int a__text, .int a__made, .int a__deep, .int a__lines, .ref a_open, .int a__opened, .ref a_stack, .int a__top, .ref a_word, .ref a_said, .int a__x, .ref a_worth, .ref a_mate, .ref a_wasSaid, .int a__undone, .int a__boughtNow, .ref a_wayBy, .ref a_wayThen, .int a__walkMost, .int a__walkGoing, .int a__walkSet, .ref a_kept, .long u3, .ref a_images, .ref a_imageX, .ref a_isMade]))] H := hP
  have hD : va_D A [(a, .inr (12, [.ref a_tape, .int a__taped, .int a__rules, .ref a_sign, .ref a_length, .ref a_clause, .ref a_clauses, .ref a_read, .int a__next, .int a__wrong, .int a__number, .int a__text, .int a__made, .int a__deep, .int a__lines, .ref a_open, .int a__opened, .ref a_stack, .int a__top, .ref a_word, .ref a_said, .int a__x, .ref a_worth, .ref a_mate, .ref a_wasSaid, .int a__undone, .int a__boughtNow, .ref a_wayBy, .ref a_wayThen, .int a__walkMost, .int a__walkGoing, .int a__walkSet, .ref a_kept, .long u3, .ref a_images, .ref a_imageX, .ref a_isMade]))] := hD
  refine lv_aload_n hx hb dX12_draw_20 rfl (lv_at hl 0 rfl) ?_
  refine va_get (D := D) (ci := 12) (v := .long u3) (C := RX12) (T := TX12) (N := 37) hx hb hT i_X12 hown hK hP 0 rfl rfl 33 (by decide) (hT _ q_212) (fun _ h9 => h9) rfl dX12_draw_21 ?_
  refine lv_ldc2 hx hb hown (hT _ q_1425) dX12_draw_24 ?_
  refine lv_ldiv hx hb dX12_draw_27 (by decide) ?_
  refine lv_topl (fun u4 eu4 => ?_)
  refine lv_iload_n hx hb dX12_draw_28 rfl (lv_at hl 1 rfl) ?_
  refine lv_i2l (v := p0.toInt64) hx hb dX12_draw_29 rfl ?_
  refine lv_lrem hx hb dX12_draw_30 (l64_ne (by omega)) ?_
  refine lv_topl (fun u5 eu5 => ?_)
  refine lv_l2i (v := u5.toInt32) hx hb dX12_draw_31 rfl ?_
  refine lv_topi (fun v6 ev6 => ?_)
  have g7 : 0 ≤ u3.toInt ∧ u3.toInt < 2147483648 := (dr_x eu1 eu2 eu3 hf0)
  refine W.widen (k := 0) (n := 0) (Nat.le_of_ble_eq_true rfl) (Nat.le_of_ble_eq_true rfl) ?_
  have g8 : 0 ≤ v6.toInt ∧ v6.toInt < p0.toInt := (dr_r eu4 eu5 ev6 (dr_x eu1 eu2 eu3 hf0) ⟨by omega, by omega⟩)
  exact W.iret (v := v6) hx hb hr (fun t ht hW => ⟨⟨v6, (fun k => match k with | 0 => 0 | _ => 0, fun _ _ => 0), rfl, (g8), u3, g7, by rw [ht]; exact hP.sub [0] rfl, hD.sub [0] (by decide) rfl⟩, hS.F ht⟩) hS.2.2 dX12_draw_32
theorem dX12_drawsHour_0 : decode cX12_drawsHour 0 = .ok (.iconst 0, 1) := by decide +kernel
theorem dX12_drawsHour_1 : decode cX12_drawsHour 1 = .ok (.istore_n 3, 1) := by decide +kernel
theorem dX12_drawsHour_2 : decode cX12_drawsHour 2 = .ok (.iload_n 3, 1) := by decide +kernel
theorem dX12_drawsHour_3 : decode cX12_drawsHour 3 = .ok (.aload_n 0, 1) := by decide +kernel
theorem dX12_drawsHour_4 : decode cX12_drawsHour 4 = .ok (.getfield 39, 3) := by decide +kernel
theorem dX12_drawsHour_7 : decode cX12_drawsHour 7 = .ok (.iconst 2, 1) := by decide +kernel
theorem dX12_drawsHour_8 : decode cX12_drawsHour 8 = .ok (.iaload, 1) := by decide +kernel
theorem dX12_drawsHour_9 : decode cX12_drawsHour 9 = .ok (.if_icmp .ge 71, 3) := by decide +kernel
theorem dX12_drawsHour_12 : decode cX12_drawsHour 12 = .ok (.aload_n 0, 1) := by decide +kernel
theorem dX12_drawsHour_13 : decode cX12_drawsHour 13 = .ok (.bipush 100, 2) := by decide +kernel
theorem dX12_drawsHour_15 : decode cX12_drawsHour 15 = .ok (.invokevirtual 494, 3) := by decide +kernel
theorem dX12_drawsHour_18 : decode cX12_drawsHour 18 = .ok (.iload_n 2, 1) := by decide +kernel
theorem dX12_drawsHour_19 : decode cX12_drawsHour 19 = .ok (.if_icmp .ge 7, 3) := by decide +kernel
theorem dX12_drawsHour_22 : decode cX12_drawsHour 22 = .ok (.iconst 1, 1) := by decide +kernel
theorem dX12_drawsHour_23 : decode cX12_drawsHour 23 = .ok (.goto 4, 3) := by decide +kernel
theorem dX12_drawsHour_26 : decode cX12_drawsHour 26 = .ok (.iconst 0, 1) := by decide +kernel
theorem dX12_drawsHour_27 : decode cX12_drawsHour 27 = .ok (.istore 4, 2) := by decide +kernel
theorem dX12_drawsHour_29 : decode cX12_drawsHour 29 = .ok (.iload 4, 2) := by decide +kernel
theorem dX12_drawsHour_31 : decode cX12_drawsHour 31 = .ok (.ifCond .eq 13, 3) := by decide +kernel
theorem dX12_drawsHour_34 : decode cX12_drawsHour 34 = .ok (.aload_n 0, 1) := by decide +kernel
theorem dX12_drawsHour_35 : decode cX12_drawsHour 35 = .ok (.iconst 3, 1) := by decide +kernel
theorem dX12_drawsHour_36 : decode cX12_drawsHour 36 = .ok (.invokevirtual 494, 3) := by decide +kernel
theorem dX12_drawsHour_39 : decode cX12_drawsHour 39 = .ok (.iconst 1, 1) := by decide +kernel
theorem dX12_drawsHour_40 : decode cX12_drawsHour 40 = .ok (.isub, 1) := by decide +kernel
theorem dX12_drawsHour_41 : decode cX12_drawsHour 41 = .ok (.goto 4, 3) := by decide +kernel
theorem dX12_drawsHour_44 : decode cX12_drawsHour 44 = .ok (.iconst 0, 1) := by decide +kernel
theorem dX12_drawsHour_45 : decode cX12_drawsHour 45 = .ok (.istore 5, 2) := by decide +kernel
theorem dX12_drawsHour_47 : decode cX12_drawsHour 47 = .ok (.aload_n 0, 1) := by decide +kernel
theorem dX12_drawsHour_48 : decode cX12_drawsHour 48 = .ok (.iload_n 1, 1) := by decide +kernel
theorem dX12_drawsHour_49 : decode cX12_drawsHour 49 = .ok (.iload_n 3, 1) := by decide +kernel
theorem dX12_drawsHour_50 : decode cX12_drawsHour 50 = .ok (.invokevirtual 407, 3) := by decide +kernel
theorem dX12_drawsHour_53 : decode cX12_drawsHour 53 = .ok (.aload_n 0, 1) := by decide +kernel
theorem dX12_drawsHour_54 : decode cX12_drawsHour 54 = .ok (.iload_n 3, 1) := by decide +kernel
theorem dX12_drawsHour_55 : decode cX12_drawsHour 55 = .ok (.iload 4, 2) := by decide +kernel
theorem dX12_drawsHour_57 : decode cX12_drawsHour 57 = .ok (.ifCond .eq 8, 3) := by decide +kernel
theorem dX12_drawsHour_60 : decode cX12_drawsHour 60 = .ok (.iload 5, 2) := by decide +kernel
theorem dX12_drawsHour_62 : decode cX12_drawsHour 62 = .ok (.goto 9, 3) := by decide +kernel
theorem dX12_drawsHour_65 : decode cX12_drawsHour 65 = .ok (.aload_n 0, 1) := by decide +kernel
theorem dX12_drawsHour_66 : decode cX12_drawsHour 66 = .ok (.iload_n 1, 1) := by decide +kernel
theorem dX12_drawsHour_67 : decode cX12_drawsHour 67 = .ok (.iload_n 3, 1) := by decide +kernel
theorem dX12_drawsHour_68 : decode cX12_drawsHour 68 = .ok (.invokevirtual 410, 3) := by decide +kernel
theorem dX12_drawsHour_71 : decode cX12_drawsHour 71 = .ok (.invokevirtual 359, 3) := by decide +kernel
theorem dX12_drawsHour_74 : decode cX12_drawsHour 74 = .ok (.iinc 3 1, 3) := by decide +kernel
theorem dX12_drawsHour_77 : decode cX12_drawsHour 77 = .ok (.goto (-75), 3) := by decide +kernel
theorem dX12_drawsHour_80 : decode cX12_drawsHour 80 = .ok (.aload_n 0, 1) := by decide +kernel
theorem dX12_drawsHour_81 : decode cX12_drawsHour 81 = .ok (.invokevirtual 362, 3) := by decide +kernel
theorem dX12_drawsHour_84 : decode cX12_drawsHour 84 = .ok (.return_, 1) := by decide +kernel
set_option maxHeartbeats 4000000 in
set_option maxRecDepth 100000 in
theorem c_X12_drawsHour (l : Launch) (D : va_G) (cs : Nat → ClassId) (kK kV : Nat → Nat) (a : Nat) (p0 : Int32) (p1 : Int32) (a_said : Nat) (a_said_c : Nat → Int32) (a_sign : Nat) (a_sign_c : Nat → Int32) (a_clause : Nat) (a_clause_c : Nat → Int32) (a_clauses : Nat) (a_clauses_c : Nat → Int32) (a_tape : Nat) (a__taped : Int32) (a__rules : Int32) (a_length : Nat) (a_read : Nat) (a__next : Int32) (a__wrong : Int32) (a__number : Int32) (a__text : Int32) (a__made : Int32) (a__deep : Int32) (a__lines : Int32) (a_open : Nat) (a__opened : Int32) (a_stack : Nat) (a__top : Int32) (a_word : Nat) (a__x : Int32) (a_worth : Nat) (a_mate : Nat) (a_wasSaid : Nat) (a__undone : Int32) (a__boughtNow : Int32) (a_wayBy : Nat) (a_wayThen : Nat) (a__walkMost : Int32) (a__walkGoing : Int32) (a__walkSet : Int32) (a_kept : Nat) (a__drawX : Int64) (a_images : Nat) (a_imageX : Nat) (a_isMade : Nat) (a_word_c : Nat → Int64) (a_stack_c : Nat → Int64) (h_p0 : IV 0 5 p0) (h_a__taped : IV 0 400 a__taped) (h_a__rules : IV 0 6 a__rules) (h_a__next : IV 0 400 a__next) (h_a__text : IV 0 6 a__text) (h_a__made : IV 0 60 a__made) (h_a__lines : IV 0 40 a__lines) (h_a__opened : IV 0 400 a__opened) (h_a__top : IV 0 64 a__top) (h_a__x : IV 0 2147483647 a__x) (h_a__undone : IV 0 20 a__undone) (hf0 : BS a_said_c 200) (hf1 : TR a_said_c) (hf2 : RUS a_sign_c a_clause_c a_clauses_c a__rules.toInt) (hf3 : p0.toInt < a__rules.toInt) (hf4 : (a_said_c 3).toInt ≤ 199) (hf5 : 0 ≤ a__drawX.toInt ∧ a__drawX.toInt < 2147483648) (sz : Nat) : Met l yX12_drawsHour (hz_w yX12_drawsHour cX12_drawsHour 6 none) ({ frames := 7, cells := 0, slots := 0, locals := 165 }) (va_Pc [.ref a, .int p0, .int p1] (hz_C D cs kK kV sz [(a_said, .inl (cs 0, 123, .inl a_said_c)), (a_sign, .inl (cs 0, 2400, .inl a_sign_c)), (a_clause, .inl (cs 0, 360, .inl a_clause_c)), (a_clauses, .inl (cs 0, 6, .inl a_clauses_c)), (a, .inr (12, [.ref a_tape, .int a__taped, .int a__rules, .ref a_sign, .ref a_length, .ref a_clause, .ref a_clauses, .ref a_read, .int a__next, .int a__wrong, .int a__number, .int a__text, .int a__made, .int a__deep, .int a__lines, .ref a_open, .int a__opened, .ref a_stack, .int a__top, .ref a_word, .ref a_said, .int a__x, .ref a_worth, .ref a_mate, .ref a_wasSaid, .int a__undone, .int a__boughtNow, .ref a_wayBy, .ref a_wayThen, .int a__walkMost, .int a__walkGoing, .int a__walkSet, .ref a_kept, .long a__drawX, .ref a_images, .ref a_imageX, .ref a_isMade])), (a_word, .inl (cs 3, 13, .inr (.inl a_word_c))), (a_stack, .inl (cs 3, 64, .inr (.inl a_stack_c)))])) (va_Qv (fun (u : (Nat → Int32) × (Nat → Nat → Int32)) => (IV 0 64 (u.1 1) ∧ (BS (u.2 0) 200) ∧ (TR (u.2 0)) ∧ (((u.2 0) 3).toInt = (a_said_c 3).toInt + 1))) (fun u t => ∃ (o_a_33 : Int64), ∃ (o_a_stack_c : Nat → Int64), ∃ (o_a_word_c : Nat → Int64), (0 ≤ o_a_33.toInt ∧ o_a_33.toInt < 2147483648) ∧ va_P D classes [(a_said, .inl (cs 0, 123, .inl (u.2 0))), (a_sign, .inl (cs 0, 2400, .inl a_sign_c)), (a_clause, .inl (cs 0, 360, .inl a_clause_c)), (a_clauses, .inl (cs 0, 6, .inl a_clauses_c)), (a, .inr (12, [.ref a_tape, .int a__taped, .int a__rules, .ref a_sign, .ref a_length, .ref a_clause, .ref a_clauses, .ref a_read, .int a__next, .int a__wrong, .int a__number, .int a__text, .int a__made, .int a__deep, .int a__lines, .ref a_open, .int a__opened, .ref a_stack, .int (u.1 1), .ref a_word, .ref a_said, .int a__x, .ref a_worth, .ref a_mate, .ref a_wasSaid, .int a__undone, .int (u.1 2), .ref a_wayBy, .ref a_wayThen, .int a__walkMost, .int a__walkGoing, .int a__walkSet, .ref a_kept, .long o_a_33, .ref a_images, .ref a_imageX, .ref a_isMade])), (a_word, .inl (cs 3, 13, .inr (.inl o_a_word_c))), (a_stack, .inl (cs 3, 64, .inr (.inl o_a_stack_c)))] t.heap ∧ va_D (va_A [(a_said, .inl (cs 0, 123, .inl a_said_c)), (a_sign, .inl (cs 0, 2400, .inl a_sign_c)), (a_clause, .inl (cs 0, 360, .inl a_clause_c)), (a_clauses, .inl (cs 0, 6, .inl a_clauses_c)), (a, .inr (12, [.ref a_tape, .int a__taped, .int a__rules, .ref a_sign, .ref a_length, .ref a_clause, .ref a_clauses, .ref a_read, .int a__next, .int a__wrong, .int a__number, .int a__text, .int a__made, .int a__deep, .int a__lines, .ref a_open, .int a__opened, .ref a_stack, .int a__top, .ref a_word, .ref a_said, .int a__x, .ref a_worth, .ref a_mate, .ref a_wasSaid, .int a__undone, .int a__boughtNow, .ref a_wayBy, .ref a_wayThen, .int a__walkMost, .int a__walkGoing, .int a__walkSet, .ref a_kept, .long a__drawX, .ref a_images, .ref a_imageX, .ref a_isMade])), (a_word, .inl (cs 3, 13, .inr (.inl a_word_c))), (a_stack, .inl (cs 3, 64, .inr (.inl a_stack_c)))] sz) [(a_said, .inl (cs 0, 123, .inl (u.2 0))), (a_sign, .inl (cs 0, 2400, .inl a_sign_c)), (a_clause, .inl (cs 0, 360, .inl a_clause_c)), (a_clauses, .inl (cs 0, 6, .inl a_clauses_c)), (a, .inr (12, [.ref a_tape, .int a__taped, .int a__rules, .ref a_sign, .ref a_length, .ref a_clause, .ref a_clauses, .ref a_read, .int a__next, .int a__wrong, .int a__number, .int a__text, .int a__made, .int a__deep, .int a__lines, .ref a_open, .int a__opened, .ref a_stack, .int (u.1 1), .ref a_word, .ref a_said, .int a__x, .ref a_worth, .ref a_mate, .ref a_wasSaid, .int a__undone, .int (u.1 2), .ref a_wayBy, .ref a_wayThen, .int a__walkMost, .int a__walkGoing, .int a__walkSet, .ref a_kept, .long o_a_33, .ref a_images, .ref a_imageX, .ref a_isMade])), (a_word, .inl (cs 3, 13, .inr (.inl o_a_word_c))), (a_stack, .inl (cs 3, 64, .inr (.inl o_a_stack_c)))]) (va_A [(a_said, .inl (cs 0, 123, .inl a_said_c)), (a_sign, .inl (cs 0, 2400, .inl a_sign_c)), (a_clause, .inl (cs 0, 360, .inl a_clause_c)), (a_clauses, .inl (cs 0, 6, .inl a_clauses_c)), (a, .inr (12, [.ref a_tape, .int a__taped, .int a__rules, .ref a_sign, .ref a_length, .ref a_clause, .ref a_clauses, .ref a_read, .int a__next, .int a__wrong, .int a__number, .int a__text, .int a__made, .int a__deep, .int a__lines, .ref a_open, .int a__opened, .ref a_stack, .int a__top, .ref a_word, .ref a_said, .int a__x, .ref a_worth, .ref a_mate, .ref a_wasSaid, .int a__undone, .int a__boughtNow, .ref a_wayBy, .ref a_wayThen, .int a__walkMost, .int a__walkGoing, .int a__walkSet, .ref a_kept, .long a__drawX, .ref a_images, .ref a_imageX, .ref a_isMade])), (a_word, .inl (cs 3, 13, .inr (.inl a_word_c))), (a_stack, .inl (cs 3, 64, .inr (.inl a_stack_c)))] sz)) 0 0 (va_A [(a_said, .inl (cs 0, 123, .inl a_said_c)), (a_sign, .inl (cs 0, 2400, .inl a_sign_c)), (a_clause, .inl (cs 0, 360, .inl a_clause_c)), (a_clauses, .inl (cs 0, 6, .inl a_clauses_c)), (a, .inr (12, [.ref a_tape, .int a__taped, .int a__rules, .ref a_sign, .ref a_length, .ref a_clause, .ref a_clauses, .ref a_read, .int a__next, .int a__wrong, .int a__number, .int a__text, .int a__made, .int a__deep, .int a__lines, .ref a_open, .int a__opened, .ref a_stack, .int a__top, .ref a_word, .ref a_said, .int a__x, .ref a_worth, .ref a_mate, .ref a_wasSaid, .int a__undone, .int a__boughtNow, .ref a_wayBy, .ref a_wayThen, .int a__walkMost, .int a__walkGoing, .int a__walkSet, .ref a_kept, .long a__drawX, .ref a_images, .ref a_imageX, .ref a_isMade])), (a_word, .inl (cs 3, 13, .inr (.inl a_word_c))), (a_stack, .inl (cs 3, 64, .inr (.inl a_stack_c)))] sz) := by
  refine Met.ofW (cc := cX12_drawsHour) (maxL := 6) (ret := none) (by decide) rfl ?_
  intro p e s m args below meth c s₁ B hml hv
  obtain ⟨rfl, hsz, hP, hD0, hE⟩ := hv
  have hx := B.exec
  have hb := B.bytes
  have hr := B.returns
  have hT : ∀ w ∈ TB, w.before _ s = true := fun w h => atoms_spec (ws := hz_w yX12_drawsHour cX12_drawsHour 6 none) B.pre w (List.mem_cons_of_mem _ h)
  have hown : s.vm.findClass RX12 = some m.cls := findClass_of_methodNamed B.named
  have hlocks := B.notSynchronized
  clear B
  subst hsz
  have hD := hD0.self (sz := s.heap.size)
  generalize hAe : va_A [(a_said, .inl (cs 0, 123, .inl a_said_c)), (a_sign, .inl (cs 0, 2400, .inl a_sign_c)), (a_clause, .inl (cs 0, 360, .inl a_clause_c)), (a_clauses, .inl (cs 0, 6, .inl a_clauses_c)), (a, .inr (12, [.ref a_tape, .int a__taped, .int a__rules, .ref a_sign, .ref a_length, .ref a_clause, .ref a_clauses, .ref a_read, .int a__next, .int a__wrong, .int a__number, .int a__text, .int a__made, .int a__deep, .int a__lines, .ref a_open, .int a__opened, .ref a_stack, .int a__top, .ref a_word, .ref a_said, .int a__x, .ref a_worth, .ref a_mate, .ref a_wasSaid, .int a__undone, .int a__boughtNow, .ref a_wayBy, .ref a_wayThen, .int a__walkMost, .int a__walkGoing, .int a__walkSet, .ref a_kept, .long a__drawX, .ref a_images, .ref a_imageX, .ref a_isMade])), (a_word, .inl (cs 3, 13, .inr (.inl a_word_c))), (a_stack, .inl (cs 3, 64, .inr (.inl a_stack_c)))] s.heap.size = A at hD hE ⊢
  have hA : ∀ q : Nat, s.heap.size ≤ q → A q := fun q h => by rw [← hAe]; exact Or.inr h
  clear hAe hD0
  have hS : va_S A s.heap s.heap [] := va_S.rf
  have hK := hE.1
  have hl := lv_entry ([.ref a, .int p0, .int p1]) (n := 6) (Nat.le_of_ble_eq_true rfl)
  rw [lg_entry_eq]
  generalize (lg_sl ([.ref a, .int p0, .int p1]) ++ List.replicate (6 - (lg_sl ([.ref a, .int p0, .int p1])).length) Slot.unset).toArray = ls at hl ⊢
  have hl : lv_has ls 6 [(0, .ref a), (1, .int p0), (2, .int p1)] := hl
  obtain ⟨H, eH⟩ : ∃ z, z = s.heap := ⟨_, rfl⟩
  have hP : va_P D classes [(a_said, .inl (cs 0, 123, .inl a_said_c)), (a_sign, .inl (cs 0, 2400, .inl a_sign_c)), (a_clause, .inl (cs 0, 360, .inl a_clause_c)), (a_clauses, .inl (cs 0, 6, .inl a_clauses_c)), (a, .inr (12, [.ref a_tape, .int a__taped, .int a__rules, .ref a_sign, .ref a_length, .ref a_clause, .ref a_clauses, .ref a_read, .int a__next, .int a__wrong, .int a__number, .int a__text, .int a__made, .int a__deep, .int a__lines, .ref a_open, .int a__opened, .ref a_stack, .int a__top, .ref a_word, .ref a_said, .int a__x, .ref a_worth, .ref a_mate, .ref a_wasSaid, .int a__undone, .int a__boughtNow, .ref a_wayBy, .ref a_wayThen, .int a__walkMost, .int a__walkGoing, .int a__walkSet, .ref a_kept, .long a__drawX, .ref a_images, .ref a_imageX, .ref a_isMade])), (a_word, .inl (cs 3, 13, .inr (.inl a_word_c))), (a_stack, .inl (cs 3, 64, .inr (.inl a_stack_c)))] H := by rw [eH]; exact hP
  have hS : va_S A s.heap H [] := by rw [eH]; exact hS
  rw [← eH]
  clear eH
  obtain ⟨locs, el⟩ : ∃ z : List Loc, z = [] := ⟨_, rfl⟩
  rw [← el] at hS ⊢
  clear el
  have z0 : (0 : Int32).toInt = 0 := by decide
  have z1 : (1 : Int32).toInt = 1 := by decide
  have zm1 : (-1 : Int32).toInt = -1 := by decide
  have i_a__lines : 0 ≤ a__lines.toInt ∧ a__lines.toInt ≤ 40 := h_a__lines
  have i_a__made : 0 ≤ a__made.toInt ∧ a__made.toInt ≤ 60 := h_a__made
  have i_a__next : 0 ≤ a__next.toInt ∧ a__next.toInt ≤ 400 := h_a__next
  have i_a__opened : 0 ≤ a__opened.toInt ∧ a__opened.toInt ≤ 400 := h_a__opened
  have i_a__rules : 0 ≤ a__rules.toInt ∧ a__rules.toInt ≤ 6 := h_a__rules
  have i_a__taped : 0 ≤ a__taped.toInt ∧ a__taped.toInt ≤ 400 := h_a__taped
  have i_a__text : 0 ≤ a__text.toInt ∧ a__text.toInt ≤ 6 := h_a__text
  have i_a__top : 0 ≤ a__top.toInt ∧ a__top.toInt ≤ 64 := h_a__top
  have i_a__undone : 0 ≤ a__undone.toInt ∧ a__undone.toInt ≤ 20 := h_a__undone
  have i_a__x : 0 ≤ a__x.toInt ∧ a__x.toInt ≤ 2147483647 := h_a__x
  have i_p0 : 0 ≤ p0.toInt ∧ p0.toInt ≤ 5 := h_p0
  have K2 : ∀ (n : Nat) (k2_L_3 : Int32) (k2_C_a_said : Nat → Int32) (k2_F_a_18 : Int32) (k2_F_a_26 : Int32) (k2_F_a_33 : Int64) (k2_C_a_word : Nat → Int64) (k2_C_a_stack : Nat → Int64), (5 - k2_L_3.toInt).toNat ≤ n → IV 0 64 k2_F_a_18 → IV 0 4 k2_L_3 → (BS k2_C_a_said 200) → (TR k2_C_a_said) → ((k2_C_a_said 3).toInt = (a_said_c 3).toInt) → (0 ≤ k2_F_a_33.toInt ∧ k2_F_a_33.toInt < 2147483648) → ((k2_C_a_said 0).toInt = (a_said_c 0).toInt) → ((k2_C_a_said 1).toInt = (a_said_c 1).toInt) → ((k2_C_a_said 2).toInt = (a_said_c 2).toInt) → ∀ (H : Heap) (locs : List Loc), va_P D classes [(a_said, .inl (cs 0, 123, .inl k2_C_a_said)), (a_sign, .inl (cs 0, 2400, .inl a_sign_c)), (a_clause, .inl (cs 0, 360, .inl a_clause_c)), (a_clauses, .inl (cs 0, 6, .inl a_clauses_c)), (a, .inr (12, [.ref a_tape, .int a__taped, .int a__rules, .ref a_sign, .ref a_length, .ref a_clause, .ref a_clauses, .ref a_read, .int a__next, .int a__wrong, .int a__number, .int a__text, .int a__made, .int a__deep, .int a__lines, .ref a_open, .int a__opened, .ref a_stack, .int k2_F_a_18, .ref a_word, .ref a_said, .int a__x, .ref a_worth, .ref a_mate, .ref a_wasSaid, .int a__undone, .int k2_F_a_26, .ref a_wayBy, .ref a_wayThen, .int a__walkMost, .int a__walkGoing, .int a__walkSet, .ref a_kept, .long k2_F_a_33, .ref a_images, .ref a_imageX, .ref a_isMade])), (a_word, .inl (cs 3, 13, .inr (.inl k2_C_a_word))), (a_stack, .inl (cs 3, 64, .inr (.inl k2_C_a_stack)))] H → va_D A [(a_said, .inl (cs 0, 123, .inl k2_C_a_said)), (a_sign, .inl (cs 0, 2400, .inl a_sign_c)), (a_clause, .inl (cs 0, 360, .inl a_clause_c)), (a_clauses, .inl (cs 0, 6, .inl a_clauses_c)), (a, .inr (12, [.ref a_tape, .int a__taped, .int a__rules, .ref a_sign, .ref a_length, .ref a_clause, .ref a_clauses, .ref a_read, .int a__next, .int a__wrong, .int a__number, .int a__text, .int a__made, .int a__deep, .int a__lines, .ref a_open, .int a__opened, .ref a_stack, .int k2_F_a_18, .ref a_word, .ref a_said, .int a__x, .ref a_worth, .ref a_mate, .ref a_wasSaid, .int a__undone, .int k2_F_a_26, .ref a_wayBy, .ref a_wayThen, .int a__walkMost, .int a__walkGoing, .int a__walkSet, .ref a_kept, .long k2_F_a_33, .ref a_images, .ref a_imageX, .ref a_isMade])), (a_word, .inl (cs 3, 13, .inr (.inl k2_C_a_word))), (a_stack, .inl (cs 3, 64, .inr (.inl k2_C_a_stack)))] → va_S A s.heap H locs → ∀ ls : Array Slot, lv_has ls 6 [(3, .int k2_L_3), (0, .ref a), (1, .int p0), (2, .int p1)] → W p l e (headSpec (hz_w yX12_drawsHour cX12_drawsHour 6 none) ({ frames := 7, cells := 0, slots := 0, locals := 165 })).room s m [.ref a, .int p0, .int p1].toArray below meth c H locs 0 0 (MQ below (va_Qv (fun (u : (Nat → Int32) × (Nat → Nat → Int32)) => (IV 0 64 (u.1 1) ∧ (BS (u.2 0) 200) ∧ (TR (u.2 0)) ∧ (((u.2 0) 3).toInt = (a_said_c 3).toInt + 1))) (fun u t => ∃ (o_a_33 : Int64), ∃ (o_a_stack_c : Nat → Int64), ∃ (o_a_word_c : Nat → Int64), (0 ≤ o_a_33.toInt ∧ o_a_33.toInt < 2147483648) ∧ va_P D classes [(a_said, .inl (cs 0, 123, .inl (u.2 0))), (a_sign, .inl (cs 0, 2400, .inl a_sign_c)), (a_clause, .inl (cs 0, 360, .inl a_clause_c)), (a_clauses, .inl (cs 0, 6, .inl a_clauses_c)), (a, .inr (12, [.ref a_tape, .int a__taped, .int a__rules, .ref a_sign, .ref a_length, .ref a_clause, .ref a_clauses, .ref a_read, .int a__next, .int a__wrong, .int a__number, .int a__text, .int a__made, .int a__deep, .int a__lines, .ref a_open, .int a__opened, .ref a_stack, .int (u.1 1), .ref a_word, .ref a_said, .int a__x, .ref a_worth, .ref a_mate, .ref a_wasSaid, .int a__undone, .int (u.1 2), .ref a_wayBy, .ref a_wayThen, .int a__walkMost, .int a__walkGoing, .int a__walkSet, .ref a_kept, .long o_a_33, .ref a_images, .ref a_imageX, .ref a_isMade])), (a_word, .inl (cs 3, 13, .inr (.inl o_a_word_c))), (a_stack, .inl (cs 3, 64, .inr (.inl o_a_stack_c)))] t.heap ∧ va_D A [(a_said, .inl (cs 0, 123, .inl (u.2 0))), (a_sign, .inl (cs 0, 2400, .inl a_sign_c)), (a_clause, .inl (cs 0, 360, .inl a_clause_c)), (a_clauses, .inl (cs 0, 6, .inl a_clauses_c)), (a, .inr (12, [.ref a_tape, .int a__taped, .int a__rules, .ref a_sign, .ref a_length, .ref a_clause, .ref a_clauses, .ref a_read, .int a__next, .int a__wrong, .int a__number, .int a__text, .int a__made, .int a__deep, .int a__lines, .ref a_open, .int a__opened, .ref a_stack, .int (u.1 1), .ref a_word, .ref a_said, .int a__x, .ref a_worth, .ref a_mate, .ref a_wasSaid, .int a__undone, .int (u.1 2), .ref a_wayBy, .ref a_wayThen, .int a__walkMost, .int a__walkGoing, .int a__walkSet, .ref a_kept, .long o_a_33, .ref a_images, .ref a_imageX, .ref a_isMade])), (a_word, .inl (cs 3, 13, .inr (.inl o_a_word_c))), (a_stack, .inl (cs 3, 64, .inr (.inl o_a_stack_c)))]) A) [.ref a, .int p0, .int p1].toArray s 0 0 A) (F0 m 2 ls []) := by
    intro n
    induction n with
    | zero =>
      intro k2_L_3 k2_C_a_said k2_F_a_18 k2_F_a_26 k2_F_a_33 k2_C_a_word k2_C_a_stack hn q2_9 q2_10 x2_0 x2_1 x2_2 x2_3 x2_4 x2_5 x2_6 H locs hP hD hS ls hl
      have i_a__lines : 0 ≤ a__lines.toInt ∧ a__lines.toInt ≤ 40 := h_a__lines
      have i_a__made : 0 ≤ a__made.toInt ∧ a__made.toInt ≤ 60 := h_a__made
      have i_a__next : 0 ≤ a__next.toInt ∧ a__next.toInt ≤ 400 := h_a__next
      have i_a__opened : 0 ≤ a__opened.toInt ∧ a__opened.toInt ≤ 400 := h_a__opened
      have i_a__rules : 0 ≤ a__rules.toInt ∧ a__rules.toInt ≤ 6 := h_a__rules
      have i_a__taped : 0 ≤ a__taped.toInt ∧ a__taped.toInt ≤ 400 := h_a__taped
      have i_a__text : 0 ≤ a__text.toInt ∧ a__text.toInt ≤ 6 := h_a__text
      have i_a__undone : 0 ≤ a__undone.toInt ∧ a__undone.toInt ≤ 20 := h_a__undone
      have i_a__x : 0 ≤ a__x.toInt ∧ a__x.toInt ≤ 2147483647 := h_a__x
      have i_k2_F_a_18 : 0 ≤ k2_F_a_18.toInt ∧ k2_F_a_18.toInt ≤ 64 := q2_9
      have i_k2_L_3 : 0 ≤ k2_L_3.toInt ∧ k2_L_3.toInt ≤ 4 := q2_10
      have i_p0 : 0 ≤ p0.toInt ∧ p0.toInt ≤ 5 := h_p0
      exact absurd hn (by omega)
    | succ n ih2 =>
      intro k2_L_3 k2_C_a_said k2_F_a_18 k2_F_a_26 k2_F_a_33 k2_C_a_word k2_C_a_stack hn q2_9 q2_10 x2_0 x2_1 x2_2 x2_3 x2_4 x2_5 x2_6 H locs hP hD hS ls hl
      have i_a__lines : 0 ≤ a__lines.toInt ∧ a__lines.toInt ≤ 40 := h_a__lines
      have i_a__made : 0 ≤ a__made.toInt ∧ a__made.toInt ≤ 60 := h_a__made
      have i_a__next : 0 ≤ a__next.toInt ∧ a__next.toInt ≤ 400 := h_a__next
      have i_a__opened : 0 ≤ a__opened.toInt ∧ a__opened.toInt ≤ 400 := h_a__opened
      have i_a__rules : 0 ≤ a__rules.toInt ∧ a__rules.toInt ≤ 6 := h_a__rules
      have i_a__taped : 0 ≤ a__taped.toInt ∧ a__taped.toInt ≤ 400 := h_a__taped
      have i_a__text : 0 ≤ a__text.toInt ∧ a__text.toInt ≤ 6 := h_a__text
      have i_a__undone : 0 ≤ a__undone.toInt ∧ a__undone.toInt ≤ 20 := h_a__undone
      have i_a__x : 0 ≤ a__x.toInt ∧ a__x.toInt ≤ 2147483647 := h_a__x
      have i_k2_F_a_18 : 0 ≤ k2_F_a_18.toInt ∧ k2_F_a_18.toInt ≤ 64 := q2_9
      have i_k2_L_3 : 0 ≤ k2_L_3.toInt ∧ k2_L_3.toInt ≤ 4 := q2_10
      have i_p0 : 0 ≤ p0.toInt ∧ p0.toInt ≤ 5 := h_p0
      refine lv_iload_n hx hb dX12_drawsHour_2 rfl (lv_at hl 0 rfl) ?_
      refine lv_aload_n hx hb dX12_drawsHour_3 rfl (lv_at hl 1 rfl) ?_
      refine va_get (D := D) (ci := 12) (v := .ref a_said) (C := RX12) (T := TX12) (N := 37) hx hb hT i_X12 hown hK hP 4 rfl rfl 20 (by decide) (hT _ q_185) (fun _ h9 => h9) rfl dX12_drawsHour_4 ?_
      refine lv_iconst (v := 2) hx hb dX12_drawsHour_7 (by decide) ?_
      refine va_iald hx hb hK hP 0 0 rfl rfl (iv_vc (by decide)) dX12_drawsHour_8 ?_
      refine lv_topi (fun v1 ev1 => ?_)
      have h2 : IV 0 4 v1 := (by rw [ev1]; exact bs_i2 x2_0)
      have ii3 : 0 ≤ v1.toInt ∧ v1.toInt ≤ 4 := h2
      have lv1 : v1.toInt = (k2_C_a_said 2).toInt := by rw [ev1]; rfl
      refine lv_icmp_ge (tgt := 80) hx hb dX12_drawsHour_9 (by decide) (fun c4 => ?_) (fun c4 => ?_)
      · have t5 : k2_L_3.toInt ≥ v1.toInt := lin_ge c4 rfl rfl
        refine lv_aload_n hx hb dX12_drawsHour_80 rfl (lv_at hl 1 rfl) ?_
        have hFc := va_free (wc := [(a_said, .inl (cs 0, 123, .inl k2_C_a_said)), (a, .inr (12, [.ref a_tape, .int a__taped, .int a__rules, .ref a_sign, .ref a_length, .ref a_clause, .ref a_clauses, .ref a_read, .int a__next, .int a__wrong, .int a__number, .int a__text, .int a__made, .int a__deep, .int a__lines, .ref a_open, .int a__opened, .ref a_stack, .int k2_F_a_18, .ref a_word, .ref a_said, .int a__x, .ref a_worth, .ref a_mate, .ref a_wasSaid, .int a__undone, .int k2_F_a_26, .ref a_wayBy, .ref a_wayThen, .int a__walkMost, .int a__walkGoing, .int a__walkSet, .ref a_kept, .long k2_F_a_33, .ref a_images, .ref a_imageX, .ref a_isMade]))]) hD hS hA [0,4] rfl
        refine va_callv (va_runV (As := []) (rest := []) ⟨hx, hb, hml, hown, hT⟩ (c_X12_hourComes l D cs kK kV a a_said k2_C_a_said a_tape a__taped a__rules a_sign a_length a_clause a_clauses a_read a__next a__wrong a__number a__text a__made a__deep a__lines a_open a__opened a_stack k2_F_a_18 a_word a__x a_worth a_mate a_wasSaid a__undone k2_F_a_26 a_wayBy a_wayThen a__walkMost a__walkGoing a__walkSet a_kept k2_F_a_33 a_images a_imageX a_isMade h_a__taped h_a__rules h_a__next h_a__text h_a__made h_a__lines h_a__opened q2_9 h_a__x h_a__undone x2_0 x2_1 ((by omega)) H.size) (cwV 0 hT (hz_gV q_1176 q_1177 q_1178 q_701 q_1179) rfl rfl rfl (by decide +kernel) ⟨(Nat.le_of_ble_eq_true rfl), (Nat.le_of_ble_eq_true rfl)⟩) ⟨hz_C.blind, va_recv hK hP (ci := 12) (q0 := 4) rfl rfl, hz_C.mk (hP.sub (ws' := [(a_said, .inl (cs 0, 123, .inl k2_C_a_said)), (a, .inr (12, [.ref a_tape, .int a__taped, .int a__rules, .ref a_sign, .ref a_length, .ref a_clause, .ref a_clauses, .ref a_read, .int a__next, .int a__wrong, .int a__number, .int a__text, .int a__made, .int a__deep, .int a__lines, .ref a_open, .int a__opened, .ref a_stack, .int k2_F_a_18, .ref a_word, .ref a_said, .int a__x, .ref a_worth, .ref a_mate, .ref a_wasSaid, .int a__undone, .int k2_F_a_26, .ref a_wayBy, .ref a_wayThen, .int a__walkMost, .int a__walkGoing, .int a__walkSet, .ref a_kept, .long k2_F_a_33, .ref a_images, .ref a_imageX, .ref a_isMade]))]) [0,4] rfl) (hD.sub (ws' := [(a_said, .inl (cs 0, 123, .inl k2_C_a_said)), (a, .inr (12, [.ref a_tape, .int a__taped, .int a__rules, .ref a_sign, .ref a_length, .ref a_clause, .ref a_clauses, .ref a_read, .int a__next, .int a__wrong, .int a__number, .int a__text, .int a__made, .int a__deep, .int a__lines, .ref a_open, .int a__opened, .ref a_stack, .int k2_F_a_18, .ref a_word, .ref a_said, .int a__x, .ref a_worth, .ref a_mate, .ref a_wasSaid, .int a__undone, .int k2_F_a_26, .ref a_wayBy, .ref a_wayThen, .int a__walkMost, .int a__walkGoing, .int a__walkSet, .ref a_kept, .long k2_F_a_33, .ref a_images, .ref a_imageX, .ref a_isMade]))]) [0,4] (by decide) rfl) hE hS hFc⟩ rfl rfl hl.1 rfl (lv_room (Nat.le_of_ble_eq_true rfl)) dX12_drawsHour_81 ⟨(Nat.le_of_ble_eq_true rfl), (Nat.le_of_ble_eq_true rfl)⟩) hS (fun q _ h => hFc q h) hFc (fun o7 t H1 locs ht hvm hw hB hz1 hk1 hS => ?_)
        obtain ⟨hP1, hD1⟩ := hB
        rw [ht] at hP1
        obtain ⟨hP, hD⟩ := va_join (wr := [(a_sign, .inl (cs 0, 2400, .inl a_sign_c)), (a_clause, .inl (cs 0, 360, .inl a_clause_c)), (a_clauses, .inl (cs 0, 6, .inl a_clauses_c)), (a_word, .inl (cs 3, 13, .inr (.inl k2_C_a_word))), (a_stack, .inl (cs 3, 64, .inr (.inl k2_C_a_stack)))]) (w1 := [(a_said, .inl (cs 0, 123, .inl (o7.2 0))), (a, .inr (12, [.ref a_tape, .int a__taped, .int a__rules, .ref a_sign, .ref a_length, .ref a_clause, .ref a_clauses, .ref a_read, .int a__next, .int a__wrong, .int a__number, .int a__text, .int a__made, .int a__deep, .int a__lines, .ref a_open, .int a__opened, .ref a_stack, .int k2_F_a_18, .ref a_word, .ref a_said, .int a__x, .ref a_worth, .ref a_mate, .ref a_wasSaid, .int a__undone, .int k2_F_a_26, .ref a_wayBy, .ref a_wayThen, .int a__walkMost, .int a__walkGoing, .int a__walkSet, .ref a_kept, .long k2_F_a_33, .ref a_images, .ref a_imageX, .ref a_isMade]))]) hP hD [0, 4] [1, 2, 3, 5, 6] rfl rfl (by decide) (by decide) hk1 hFc hP1 hD1
        generalize H1 = H at hP hS ⊢
        have hP : va_P D classes [(a_sign, .inl (cs 0, 2400, .inl a_sign_c)), (a_clause, .inl (cs 0, 360, .inl a_clause_c)), (a_clauses, .inl (cs 0, 6, .inl a_clauses_c)), (a_word, .inl (cs 3, 13, .inr (.inl k2_C_a_word))), (a_stack, .inl (cs 3, 64, .inr (.inl k2_C_a_stack))), (a_said, .inl (cs 0, 123, .inl (o7.2 0))), (a, .inr (12, [.ref a_tape, .int a__taped, .int a__rules, .ref a_sign, .ref a_length, .ref a_clause, .ref a_clauses, .ref a_read, .int a__next, .int a__wrong, .int a__number, .int a__text, .int a__made, .int a__deep, .int a__lines, .ref a_open, .int a__opened, .ref a_stack, .int k2_F_a_18, .ref a_word, .ref a_said, .int a__x, .ref a_worth, .ref a_mate, .ref a_wasSaid, .int a__undone, .int k2_F_a_26, .ref a_wayBy, .ref a_wayThen, .int a__walkMost, .int a__walkGoing, .int a__walkSet, .ref a_kept, .long k2_F_a_33, .ref a_images, .ref a_imageX, .ref a_isMade]))] H := hP
        have hD : va_D A [(a_sign, .inl (cs 0, 2400, .inl a_sign_c)), (a_clause, .inl (cs 0, 360, .inl a_clause_c)), (a_clauses, .inl (cs 0, 6, .inl a_clauses_c)), (a_word, .inl (cs 3, 13, .inr (.inl k2_C_a_word))), (a_stack, .inl (cs 3, 64, .inr (.inl k2_C_a_stack))), (a_said, .inl (cs 0, 123, .inl (o7.2 0))), (a, .inr (12, [.ref a_tape, .int a__taped, .int a__rules, .ref a_sign, .ref a_length, .ref a_clause, .ref a_clauses, .ref a_read, .int a__next, .int a__wrong, .int a__number, .int a__text, .int a__made, .int a__deep, .int a__lines, .ref a_open, .int a__opened, .ref a_stack, .int k2_F_a_18, .ref a_word, .ref a_said, .int a__x, .ref a_worth, .ref a_mate, .ref a_wasSaid, .int a__undone, .int k2_F_a_26, .ref a_wayBy, .ref a_wayThen, .int a__walkMost, .int a__walkGoing, .int a__walkSet, .ref a_kept, .long k2_F_a_33, .ref a_images, .ref a_imageX, .ref a_isMade]))] := hD
        clear hk1 hFc hP1 hD1 hz1
        rcases hw with ⟨x8, x9, x10⟩
        refine W.widen (k := 0) (n := 0) (Nat.le_of_ble_eq_true rfl) (Nat.le_of_ble_eq_true rfl) ?_
        have g11 : ((o7.2 0) 3).toInt = (a_said_c 3).toInt + 1 := (by omega)
        exact W.vret hx hb hr (fun t ht hW => ⟨⟨(fun k => match k with | 0 => 0 | 1 => k2_F_a_18 | 2 => k2_F_a_26 | _ => 0, fun k => match k with | 0 => o7.2 0 | _ => fun _ => 0), rfl, (⟨q2_9, x8, x9, g11⟩), k2_F_a_33, k2_C_a_stack, k2_C_a_word, x2_3, by rw [ht]; exact hP.sub [5, 0, 1, 2, 6, 3, 4] rfl, hD.sub [5, 0, 1, 2, 6, 3, 4] (by decide) rfl⟩, hS.F ht⟩) hS.2.2 dX12_drawsHour_84
      · have t12 : k2_L_3.toInt < v1.toInt := lin_geN c4 rfl rfl
        have h13 : IV 0 3 k2_L_3 := iv_lt1 (Int32.not_le.mp c4) q2_10 h2 (by decide)
        have ii14 : 0 ≤ k2_L_3.toInt ∧ k2_L_3.toInt ≤ 3 := h13
        have h15 : IV 1 4 v1 := iv_lt2 (Int32.not_le.mp c4) q2_10 h2 (by decide)
        have ii16 : 1 ≤ v1.toInt ∧ v1.toInt ≤ 4 := h15
        refine lv_aload_n hx hb dX12_drawsHour_12 rfl (lv_at hl 1 rfl) ?_
        refine lv_bipush (v := 100) hx hb dX12_drawsHour_13 (by decide) ?_
        have hFc := va_free (wc := [(a, .inr (12, [.ref a_tape, .int a__taped, .int a__rules, .ref a_sign, .ref a_length, .ref a_clause, .ref a_clauses, .ref a_read, .int a__next, .int a__wrong, .int a__number, .int a__text, .int a__made, .int a__deep, .int a__lines, .ref a_open, .int a__opened, .ref a_stack, .int k2_F_a_18, .ref a_word, .ref a_said, .int a__x, .ref a_worth, .ref a_mate, .ref a_wasSaid, .int a__undone, .int k2_F_a_26, .ref a_wayBy, .ref a_wayThen, .int a__walkMost, .int a__walkGoing, .int a__walkSet, .ref a_kept, .long k2_F_a_33, .ref a_images, .ref a_imageX, .ref a_isMade]))]) hD hS hA [4] rfl
        refine va_calli (va_runV (As := [.int 100]) (rest := []) ⟨hx, hb, hml, hown, hT⟩ (c_X12_draw l D cs kK kV a 100 a_tape a__taped a__rules a_sign a_length a_clause a_clauses a_read a__next a__wrong a__number a__text a__made a__deep a__lines a_open a__opened a_stack k2_F_a_18 a_word a_said a__x a_worth a_mate a_wasSaid a__undone k2_F_a_26 a_wayBy a_wayThen a__walkMost a__walkGoing a__walkSet a_kept k2_F_a_33 a_images a_imageX a_isMade ((iv_c (by decide))) h_a__taped h_a__rules h_a__next h_a__text h_a__made h_a__lines h_a__opened q2_9 h_a__x h_a__undone x2_3 H.size) (cwV 1 hT (hz_gV q_1301 q_1302 q_1303 q_701 q_1304) rfl rfl rfl (by decide +kernel) ⟨(Nat.le_of_ble_eq_true rfl), (Nat.le_of_ble_eq_true rfl)⟩) ⟨hz_C.blind, va_recv hK hP (ci := 12) (q0 := 4) rfl rfl, hz_C.mk (hP.sub (ws' := [(a, .inr (12, [.ref a_tape, .int a__taped, .int a__rules, .ref a_sign, .ref a_length, .ref a_clause, .ref a_clauses, .ref a_read, .int a__next, .int a__wrong, .int a__number, .int a__text, .int a__made, .int a__deep, .int a__lines, .ref a_open, .int a__opened, .ref a_stack, .int k2_F_a_18, .ref a_word, .ref a_said, .int a__x, .ref a_worth, .ref a_mate, .ref a_wasSaid, .int a__undone, .int k2_F_a_26, .ref a_wayBy, .ref a_wayThen, .int a__walkMost, .int a__walkGoing, .int a__walkSet, .ref a_kept, .long k2_F_a_33, .ref a_images, .ref a_imageX, .ref a_isMade]))]) [4] rfl) (hD.sub (ws' := [(a, .inr (12, [.ref a_tape, .int a__taped, .int a__rules, .ref a_sign, .ref a_length, .ref a_clause, .ref a_clauses, .ref a_read, .int a__next, .int a__wrong, .int a__number, .int a__text, .int a__made, .int a__deep, .int a__lines, .ref a_open, .int a__opened, .ref a_stack, .int k2_F_a_18, .ref a_word, .ref a_said, .int a__x, .ref a_worth, .ref a_mate, .ref a_wasSaid, .int a__undone, .int k2_F_a_26, .ref a_wayBy, .ref a_wayThen, .int a__walkMost, .int a__walkGoing, .int a__walkSet, .ref a_kept, .long k2_F_a_33, .ref a_images, .ref a_imageX, .ref a_isMade]))]) [4] (by decide) rfl) hE hS hFc⟩ rfl rfl hl.1 rfl (lv_room (Nat.le_of_ble_eq_true rfl)) dX12_drawsHour_15 ⟨(Nat.le_of_ble_eq_true rfl), (Nat.le_of_ble_eq_true rfl)⟩) hS (fun q _ h => hFc q h) hFc (fun r17 o18 t H1 locs ht hvm hw hB hz1 hk1 hS => ?_)
        obtain ⟨o19, h20, hP1, hD1⟩ := hB
        rw [ht] at hP1
        obtain ⟨hP, hD⟩ := va_join (wr := [(a_said, .inl (cs 0, 123, .inl k2_C_a_said)), (a_sign, .inl (cs 0, 2400, .inl a_sign_c)), (a_clause, .inl (cs 0, 360, .inl a_clause_c)), (a_clauses, .inl (cs 0, 6, .inl a_clauses_c)), (a_word, .inl (cs 3, 13, .inr (.inl k2_C_a_word))), (a_stack, .inl (cs 3, 64, .inr (.inl k2_C_a_stack)))]) (w1 := [(a, .inr (12, [.ref a_tape, .int a__taped, .int a__rules, .ref a_sign, .ref a_length, .ref a_clause, .ref a_clauses, .ref a_read, .int a__next, .int a__wrong, .int a__number, .int a__text, .int a__made, .int a__deep, .int a__lines, .ref a_open, .int a__opened, .ref a_stack, .int k2_F_a_18, .ref a_word, .ref a_said, .int a__x, .ref a_worth, .ref a_mate, .ref a_wasSaid, .int a__undone, .int k2_F_a_26, .ref a_wayBy, .ref a_wayThen, .int a__walkMost, .int a__walkGoing, .int a__walkSet, .ref a_kept, .long o19, .ref a_images, .ref a_imageX, .ref a_isMade]))]) hP hD [4] [0, 1, 2, 3, 5, 6] rfl rfl (by decide) (by decide) hk1 hFc hP1 hD1
        generalize H1 = H at hP hS ⊢
        have hP : va_P D classes [(a_said, .inl (cs 0, 123, .inl k2_C_a_said)), (a_sign, .inl (cs 0, 2400, .inl a_sign_c)), (a_clause, .inl (cs 0, 360, .inl a_clause_c)), (a_clauses, .inl (cs 0, 6, .inl a_clauses_c)), (a_word, .inl (cs 3, 13, .inr (.inl k2_C_a_word))), (a_stack, .inl (cs 3, 64, .inr (.inl k2_C_a_stack))), (a, .inr (12, [.ref a_tape, .int a__taped, .int a__rules, .ref a_sign, .ref a_length, .ref a_clause, .ref a_clauses, .ref a_read, .int a__next, .int a__wrong, .int a__number, .int a__text, .int a__made, .int a__deep, .int a__lines, .ref a_open, .int a__opened, .ref a_stack, .int k2_F_a_18, .ref a_word, .ref a_said, .int a__x, .ref a_worth, .ref a_mate, .ref a_wasSaid, .int a__undone, .int k2_F_a_26, .ref a_wayBy, .ref a_wayThen, .int a__walkMost, .int a__walkGoing, .int a__walkSet, .ref a_kept, .long o19, .ref a_images, .ref a_imageX, .ref a_isMade]))] H := hP
        have hD : va_D A [(a_said, .inl (cs 0, 123, .inl k2_C_a_said)), (a_sign, .inl (cs 0, 2400, .inl a_sign_c)), (a_clause, .inl (cs 0, 360, .inl a_clause_c)), (a_clauses, .inl (cs 0, 6, .inl a_clauses_c)), (a_word, .inl (cs 3, 13, .inr (.inl k2_C_a_word))), (a_stack, .inl (cs 3, 64, .inr (.inl k2_C_a_stack))), (a, .inr (12, [.ref a_tape, .int a__taped, .int a__rules, .ref a_sign, .ref a_length, .ref a_clause, .ref a_clauses, .ref a_read, .int a__next, .int a__wrong, .int a__number, .int a__text, .int a__made, .int a__deep, .int a__lines, .ref a_open, .int a__opened, .ref a_stack, .int k2_F_a_18, .ref a_word, .ref a_said, .int a__x, .ref a_worth, .ref a_mate, .ref a_wasSaid, .int a__undone, .int k2_F_a_26, .ref a_wayBy, .ref a_wayThen, .int a__walkMost, .int a__walkGoing, .int a__walkSet, .ref a_kept, .long o19, .ref a_images, .ref a_imageX, .ref a_isMade]))] := hD
        clear hk1 hFc hP1 hD1 hz1
        have x21 := hw
        have z100 : (100 : Int32).toInt = 100 := by decide
        refine lv_iload_n hx hb dX12_drawsHour_18 rfl (lv_at hl 3 rfl) ?_
        refine lv_icmp_ge (tgt := 26) hx hb dX12_drawsHour_19 (by decide) (fun c22 => ?_) (fun c22 => ?_)
        · have t23 : r17.toInt ≥ p1.toInt := lin_ge c22 rfl rfl
          refine lv_iconst (v := 0) hx hb dX12_drawsHour_26 (by decide) ?_
          refine lv_istore (lv' := [(4, .int 0), (3, .int k2_L_3), (0, .ref a), (1, .int p0), (2, .int p1)]) hx hb dX12_drawsHour_27 hl (by decide) rfl (fun ls hl => ?_)
          refine lv_iload hx hb dX12_drawsHour_29 (lv_at hl 0 rfl) ?_
          refine lv_if_eq (tgt := 44) hx hb dX12_drawsHour_31 (by decide) (fun _ => ?_) (fun z => absurd (by decide) z)
          refine lv_iconst (v := 0) hx hb dX12_drawsHour_44 (by decide) ?_
          refine lv_istore (lv' := [(5, .int 0), (4, .int 0), (3, .int k2_L_3), (0, .ref a), (1, .int p0), (2, .int p1)]) hx hb dX12_drawsHour_45 hl (by decide) rfl (fun ls hl => ?_)
          refine lv_aload_n hx hb dX12_drawsHour_47 rfl (lv_at hl 3 rfl) ?_
          refine lv_iload_n hx hb dX12_drawsHour_48 rfl (lv_at hl 4 rfl) ?_
          refine lv_iload_n hx hb dX12_drawsHour_49 rfl (lv_at hl 2 rfl) ?_
          have hFc := va_free (wc := [(a_said, .inl (cs 0, 123, .inl k2_C_a_said)), (a_sign, .inl (cs 0, 2400, .inl a_sign_c)), (a_clause, .inl (cs 0, 360, .inl a_clause_c)), (a_clauses, .inl (cs 0, 6, .inl a_clauses_c)), (a, .inr (12, [.ref a_tape, .int a__taped, .int a__rules, .ref a_sign, .ref a_length, .ref a_clause, .ref a_clauses, .ref a_read, .int a__next, .int a__wrong, .int a__number, .int a__text, .int a__made, .int a__deep, .int a__lines, .ref a_open, .int a__opened, .ref a_stack, .int k2_F_a_18, .ref a_word, .ref a_said, .int a__x, .ref a_worth, .ref a_mate, .ref a_wasSaid, .int a__undone, .int k2_F_a_26, .ref a_wayBy, .ref a_wayThen, .int a__walkMost, .int a__walkGoing, .int a__walkSet, .ref a_kept, .long o19, .ref a_images, .ref a_imageX, .ref a_isMade])), (a_word, .inl (cs 3, 13, .inr (.inl k2_C_a_word))), (a_stack, .inl (cs 3, 64, .inr (.inl k2_C_a_stack)))]) hD hS hA [0,1,2,3,6,4,5] rfl
          refine va_callv (va_runV (As := [.int p0, .int k2_L_3]) (rest := []) ⟨hx, hb, hml, hown, hT⟩ (c_X12_buysAll l D cs kK kV a p0 k2_L_3 a_said k2_C_a_said a_sign a_sign_c a_clause a_clause_c a_clauses a_clauses_c a_tape a__taped a__rules a_length a_read a__next a__wrong a__number a__text a__made a__deep a__lines a_open a__opened a_stack k2_F_a_18 a_word a__x a_worth a_mate a_wasSaid a__undone k2_F_a_26 a_wayBy a_wayThen a__walkMost a__walkGoing a__walkSet a_kept o19 a_images a_imageX a_isMade k2_C_a_word k2_C_a_stack h_p0 h13 h_a__taped h_a__rules h_a__next h_a__text h_a__made h_a__lines h_a__opened q2_9 h_a__x h_a__undone x2_0 x2_1 hf2 hf3 ((by omega)) H.size) (cwV 2 hT (hz_gV q_1227 q_1228 q_1229 q_701 q_1230) rfl rfl rfl (by decide +kernel) ⟨(Nat.le_of_ble_eq_true rfl), (Nat.le_of_ble_eq_true rfl)⟩) ⟨hz_C.blind, va_recv hK hP (ci := 12) (q0 := 6) rfl rfl, hz_C.mk (hP.sub (ws' := [(a_said, .inl (cs 0, 123, .inl k2_C_a_said)), (a_sign, .inl (cs 0, 2400, .inl a_sign_c)), (a_clause, .inl (cs 0, 360, .inl a_clause_c)), (a_clauses, .inl (cs 0, 6, .inl a_clauses_c)), (a, .inr (12, [.ref a_tape, .int a__taped, .int a__rules, .ref a_sign, .ref a_length, .ref a_clause, .ref a_clauses, .ref a_read, .int a__next, .int a__wrong, .int a__number, .int a__text, .int a__made, .int a__deep, .int a__lines, .ref a_open, .int a__opened, .ref a_stack, .int k2_F_a_18, .ref a_word, .ref a_said, .int a__x, .ref a_worth, .ref a_mate, .ref a_wasSaid, .int a__undone, .int k2_F_a_26, .ref a_wayBy, .ref a_wayThen, .int a__walkMost, .int a__walkGoing, .int a__walkSet, .ref a_kept, .long o19, .ref a_images, .ref a_imageX, .ref a_isMade])), (a_word, .inl (cs 3, 13, .inr (.inl k2_C_a_word))), (a_stack, .inl (cs 3, 64, .inr (.inl k2_C_a_stack)))]) [0,1,2,3,6,4,5] rfl) (hD.sub (ws' := [(a_said, .inl (cs 0, 123, .inl k2_C_a_said)), (a_sign, .inl (cs 0, 2400, .inl a_sign_c)), (a_clause, .inl (cs 0, 360, .inl a_clause_c)), (a_clauses, .inl (cs 0, 6, .inl a_clauses_c)), (a, .inr (12, [.ref a_tape, .int a__taped, .int a__rules, .ref a_sign, .ref a_length, .ref a_clause, .ref a_clauses, .ref a_read, .int a__next, .int a__wrong, .int a__number, .int a__text, .int a__made, .int a__deep, .int a__lines, .ref a_open, .int a__opened, .ref a_stack, .int k2_F_a_18, .ref a_word, .ref a_said, .int a__x, .ref a_worth, .ref a_mate, .ref a_wasSaid, .int a__undone, .int k2_F_a_26, .ref a_wayBy, .ref a_wayThen, .int a__walkMost, .int a__walkGoing, .int a__walkSet, .ref a_kept, .long o19, .ref a_images, .ref a_imageX, .ref a_isMade])), (a_word, .inl (cs 3, 13, .inr (.inl k2_C_a_word))), (a_stack, .inl (cs 3, 64, .inr (.inl k2_C_a_stack)))]) [0,1,2,3,6,4,5] (by decide) rfl) hE hS hFc⟩ rfl rfl hl.1 rfl (lv_room (Nat.le_of_ble_eq_true rfl)) dX12_drawsHour_50 ⟨(Nat.le_of_ble_eq_true rfl), (Nat.le_of_ble_eq_true rfl)⟩) hS (fun q _ h => hFc q h) hFc (fun o25 t H1 locs ht hvm hw hB hz1 hk1 hS => ?_)
          obtain ⟨o26, o27, hP1, hD1⟩ := hB
          rw [ht] at hP1
          obtain ⟨hP, hD⟩ := va_join (wr := []) (w1 := [(a_said, .inl (cs 0, 123, .inl (o25.2 0))), (a_sign, .inl (cs 0, 2400, .inl a_sign_c)), (a_clause, .inl (cs 0, 360, .inl a_clause_c)), (a_clauses, .inl (cs 0, 6, .inl a_clauses_c)), (a, .inr (12, [.ref a_tape, .int a__taped, .int a__rules, .ref a_sign, .ref a_length, .ref a_clause, .ref a_clauses, .ref a_read, .int a__next, .int a__wrong, .int a__number, .int a__text, .int a__made, .int a__deep, .int a__lines, .ref a_open, .int a__opened, .ref a_stack, .int (o25.1 1), .ref a_word, .ref a_said, .int a__x, .ref a_worth, .ref a_mate, .ref a_wasSaid, .int a__undone, .int (o25.1 2), .ref a_wayBy, .ref a_wayThen, .int a__walkMost, .int a__walkGoing, .int a__walkSet, .ref a_kept, .long o19, .ref a_images, .ref a_imageX, .ref a_isMade])), (a_word, .inl (cs 3, 13, .inr (.inl o27))), (a_stack, .inl (cs 3, 64, .inr (.inl o26)))]) hP hD [0, 1, 2, 3, 6, 4, 5] [] rfl rfl (by decide) (by decide) hk1 hFc hP1 hD1
          generalize H1 = H at hP hS ⊢
          have hP : va_P D classes [(a_said, .inl (cs 0, 123, .inl (o25.2 0))), (a_sign, .inl (cs 0, 2400, .inl a_sign_c)), (a_clause, .inl (cs 0, 360, .inl a_clause_c)), (a_clauses, .inl (cs 0, 6, .inl a_clauses_c)), (a, .inr (12, [.ref a_tape, .int a__taped, .int a__rules, .ref a_sign, .ref a_length, .ref a_clause, .ref a_clauses, .ref a_read, .int a__next, .int a__wrong, .int a__number, .int a__text, .int a__made, .int a__deep, .int a__lines, .ref a_open, .int a__opened, .ref a_stack, .int (o25.1 1), .ref a_word, .ref a_said, .int a__x, .ref a_worth, .ref a_mate, .ref a_wasSaid, .int a__undone, .int (o25.1 2), .ref a_wayBy, .ref a_wayThen, .int a__walkMost, .int a__walkGoing, .int a__walkSet, .ref a_kept, .long o19, .ref a_images, .ref a_imageX, .ref a_isMade])), (a_word, .inl (cs 3, 13, .inr (.inl o27))), (a_stack, .inl (cs 3, 64, .inr (.inl o26)))] H := hP
          have hD : va_D A [(a_said, .inl (cs 0, 123, .inl (o25.2 0))), (a_sign, .inl (cs 0, 2400, .inl a_sign_c)), (a_clause, .inl (cs 0, 360, .inl a_clause_c)), (a_clauses, .inl (cs 0, 6, .inl a_clauses_c)), (a, .inr (12, [.ref a_tape, .int a__taped, .int a__rules, .ref a_sign, .ref a_length, .ref a_clause, .ref a_clauses, .ref a_read, .int a__next, .int a__wrong, .int a__number, .int a__text, .int a__made, .int a__deep, .int a__lines, .ref a_open, .int a__opened, .ref a_stack, .int (o25.1 1), .ref a_word, .ref a_said, .int a__x, .ref a_worth, .ref a_mate, .ref a_wasSaid, .int a__undone, .int (o25.1 2), .ref a_wayBy, .ref a_wayThen, .int a__walkMost, .int a__walkGoing, .int a__walkSet, .ref a_kept, .long o19, .ref a_images, .ref a_imageX, .ref a_isMade])), (a_word, .inl (cs 3, 13, .inr (.inl o27))), (a_stack, .inl (cs 3, 64, .inr (.inl o26)))] := hD
          clear hk1 hFc hP1 hD1 hz1
          rcases hw with ⟨h28, x29, x30, x31, x32, x33, x34⟩
          have ii35 : 0 ≤ (o25.1 1).toInt ∧ (o25.1 1).toInt ≤ 64 := h28
          refine lv_aload_n hx hb dX12_drawsHour_53 rfl (lv_at hl 3 rfl) ?_
          refine lv_iload_n hx hb dX12_drawsHour_54 rfl (lv_at hl 2 rfl) ?_
          refine lv_iload hx hb dX12_drawsHour_55 (lv_at hl 1 rfl) ?_
          refine lv_if_eq (tgt := 65) hx hb dX12_drawsHour_57 (by decide) (fun _ => ?_) (fun z => absurd (by decide) z)
          refine lv_aload_n hx hb dX12_drawsHour_65 rfl (lv_at hl 3 rfl) ?_
          refine lv_iload_n hx hb dX12_drawsHour_66 rfl (lv_at hl 4 rfl) ?_
          refine lv_iload_n hx hb dX12_drawsHour_67 rfl (lv_at hl 2 rfl) ?_
          have hFc := va_free (wc := [(a_said, .inl (cs 0, 123, .inl (o25.2 0))), (a_sign, .inl (cs 0, 2400, .inl a_sign_c)), (a_clause, .inl (cs 0, 360, .inl a_clause_c)), (a_clauses, .inl (cs 0, 6, .inl a_clauses_c)), (a, .inr (12, [.ref a_tape, .int a__taped, .int a__rules, .ref a_sign, .ref a_length, .ref a_clause, .ref a_clauses, .ref a_read, .int a__next, .int a__wrong, .int a__number, .int a__text, .int a__made, .int a__deep, .int a__lines, .ref a_open, .int a__opened, .ref a_stack, .int (o25.1 1), .ref a_word, .ref a_said, .int a__x, .ref a_worth, .ref a_mate, .ref a_wasSaid, .int a__undone, .int (o25.1 2), .ref a_wayBy, .ref a_wayThen, .int a__walkMost, .int a__walkGoing, .int a__walkSet, .ref a_kept, .long o19, .ref a_images, .ref a_imageX, .ref a_isMade])), (a_word, .inl (cs 3, 13, .inr (.inl o27))), (a_stack, .inl (cs 3, 64, .inr (.inl o26)))]) hD hS hA [0,1,2,3,4,5,6] rfl
          refine va_calli (va_runV (As := [.int p0, .int k2_L_3]) (rest := [.int k2_L_3, .ref a]) ⟨hx, hb, hml, hown, hT⟩ (c_X12_goingBy l D cs kK kV a p0 k2_L_3 a_said (o25.2 0) a_sign a_sign_c a_clause a_clause_c a_clauses a_clauses_c a_tape a__taped a__rules a_length a_read a__next a__wrong a__number a__text a__made a__deep a__lines a_open a__opened a_stack (o25.1 1) a_word a__x a_worth a_mate a_wasSaid a__undone (o25.1 2) a_wayBy a_wayThen a__walkMost a__walkGoing a__walkSet a_kept o19 a_images a_imageX a_isMade o27 o26 h_p0 h13 h_a__taped h_a__rules h_a__next h_a__text h_a__made h_a__lines h_a__opened h28 h_a__x h_a__undone x29 hf2 hf3 H.size) (cwV 2 hT (hz_gV q_1231 q_1232 q_1233 q_701 q_1234) rfl rfl rfl (by decide +kernel) ⟨(Nat.le_of_ble_eq_true rfl), (Nat.le_of_ble_eq_true rfl)⟩) ⟨hz_C.blind, va_recv hK hP (ci := 12) (q0 := 4) rfl rfl, hz_C.mk (hP.sub (ws' := [(a_said, .inl (cs 0, 123, .inl (o25.2 0))), (a_sign, .inl (cs 0, 2400, .inl a_sign_c)), (a_clause, .inl (cs 0, 360, .inl a_clause_c)), (a_clauses, .inl (cs 0, 6, .inl a_clauses_c)), (a, .inr (12, [.ref a_tape, .int a__taped, .int a__rules, .ref a_sign, .ref a_length, .ref a_clause, .ref a_clauses, .ref a_read, .int a__next, .int a__wrong, .int a__number, .int a__text, .int a__made, .int a__deep, .int a__lines, .ref a_open, .int a__opened, .ref a_stack, .int (o25.1 1), .ref a_word, .ref a_said, .int a__x, .ref a_worth, .ref a_mate, .ref a_wasSaid, .int a__undone, .int (o25.1 2), .ref a_wayBy, .ref a_wayThen, .int a__walkMost, .int a__walkGoing, .int a__walkSet, .ref a_kept, .long o19, .ref a_images, .ref a_imageX, .ref a_isMade])), (a_word, .inl (cs 3, 13, .inr (.inl o27))), (a_stack, .inl (cs 3, 64, .inr (.inl o26)))]) [0,1,2,3,4,5,6] rfl) (hD.sub (ws' := [(a_said, .inl (cs 0, 123, .inl (o25.2 0))), (a_sign, .inl (cs 0, 2400, .inl a_sign_c)), (a_clause, .inl (cs 0, 360, .inl a_clause_c)), (a_clauses, .inl (cs 0, 6, .inl a_clauses_c)), (a, .inr (12, [.ref a_tape, .int a__taped, .int a__rules, .ref a_sign, .ref a_length, .ref a_clause, .ref a_clauses, .ref a_read, .int a__next, .int a__wrong, .int a__number, .int a__text, .int a__made, .int a__deep, .int a__lines, .ref a_open, .int a__opened, .ref a_stack, .int (o25.1 1), .ref a_word, .ref a_said, .int a__x, .ref a_worth, .ref a_mate, .ref a_wasSaid, .int a__undone, .int (o25.1 2), .ref a_wayBy, .ref a_wayThen, .int a__walkMost, .int a__walkGoing, .int a__walkSet, .ref a_kept, .long o19, .ref a_images, .ref a_imageX, .ref a_isMade])), (a_word, .inl (cs 3, 13, .inr (.inl o27))), (a_stack, .inl (cs 3, 64, .inr (.inl o26)))]) [0,1,2,3,4,5,6] (by decide) rfl) hE hS hFc⟩ rfl rfl hl.1 rfl (lv_room (Nat.le_of_ble_eq_true rfl)) dX12_drawsHour_68 ⟨(Nat.le_of_ble_eq_true rfl), (Nat.le_of_ble_eq_true rfl)⟩) hS (fun q _ h => hFc q h) hFc (fun r36 o37 t H1 locs ht hvm hw hB hz1 hk1 hS => ?_)
          obtain ⟨o38, o39, hP1, hD1⟩ := hB
          rw [ht] at hP1
          obtain ⟨hP, hD⟩ := va_join (wr := []) (w1 := [(a_said, .inl (cs 0, 123, .inl (o25.2 0))), (a_sign, .inl (cs 0, 2400, .inl a_sign_c)), (a_clause, .inl (cs 0, 360, .inl a_clause_c)), (a_clauses, .inl (cs 0, 6, .inl a_clauses_c)), (a, .inr (12, [.ref a_tape, .int a__taped, .int a__rules, .ref a_sign, .ref a_length, .ref a_clause, .ref a_clauses, .ref a_read, .int a__next, .int a__wrong, .int a__number, .int a__text, .int a__made, .int a__deep, .int a__lines, .ref a_open, .int a__opened, .ref a_stack, .int (o37.1 1), .ref a_word, .ref a_said, .int a__x, .ref a_worth, .ref a_mate, .ref a_wasSaid, .int a__undone, .int (o25.1 2), .ref a_wayBy, .ref a_wayThen, .int a__walkMost, .int a__walkGoing, .int a__walkSet, .ref a_kept, .long o19, .ref a_images, .ref a_imageX, .ref a_isMade])), (a_word, .inl (cs 3, 13, .inr (.inl o39))), (a_stack, .inl (cs 3, 64, .inr (.inl o38)))]) hP hD [0, 1, 2, 3, 4, 5, 6] [] rfl rfl (by decide) (by decide) hk1 hFc hP1 hD1
          generalize H1 = H at hP hS ⊢
          have hP : va_P D classes [(a_said, .inl (cs 0, 123, .inl (o25.2 0))), (a_sign, .inl (cs 0, 2400, .inl a_sign_c)), (a_clause, .inl (cs 0, 360, .inl a_clause_c)), (a_clauses, .inl (cs 0, 6, .inl a_clauses_c)), (a, .inr (12, [.ref a_tape, .int a__taped, .int a__rules, .ref a_sign, .ref a_length, .ref a_clause, .ref a_clauses, .ref a_read, .int a__next, .int a__wrong, .int a__number, .int a__text, .int a__made, .int a__deep, .int a__lines, .ref a_open, .int a__opened, .ref a_stack, .int (o37.1 1), .ref a_word, .ref a_said, .int a__x, .ref a_worth, .ref a_mate, .ref a_wasSaid, .int a__undone, .int (o25.1 2), .ref a_wayBy, .ref a_wayThen, .int a__walkMost, .int a__walkGoing, .int a__walkSet, .ref a_kept, .long o19, .ref a_images, .ref a_imageX, .ref a_isMade])), (a_word, .inl (cs 3, 13, .inr (.inl o39))), (a_stack, .inl (cs 3, 64, .inr (.inl o38)))] H := hP
          have hD : va_D A [(a_said, .inl (cs 0, 123, .inl (o25.2 0))), (a_sign, .inl (cs 0, 2400, .inl a_sign_c)), (a_clause, .inl (cs 0, 360, .inl a_clause_c)), (a_clauses, .inl (cs 0, 6, .inl a_clauses_c)), (a, .inr (12, [.ref a_tape, .int a__taped, .int a__rules, .ref a_sign, .ref a_length, .ref a_clause, .ref a_clauses, .ref a_read, .int a__next, .int a__wrong, .int a__number, .int a__text, .int a__made, .int a__deep, .int a__lines, .ref a_open, .int a__opened, .ref a_stack, .int (o37.1 1), .ref a_word, .ref a_said, .int a__x, .ref a_worth, .ref a_mate, .ref a_wasSaid, .int a__undone, .int (o25.1 2), .ref a_wayBy, .ref a_wayThen, .int a__walkMost, .int a__walkGoing, .int a__walkSet, .ref a_kept, .long o19, .ref a_images, .ref a_imageX, .ref a_isMade])), (a_word, .inl (cs 3, 13, .inr (.inl o39))), (a_stack, .inl (cs 3, 64, .inr (.inl o38)))] := hD
          clear hk1 hFc hP1 hD1 hz1
          rcases hw with ⟨rfl, h40⟩ | ⟨rfl, h41⟩ | ⟨rfl, h42⟩
          · have ii43 : 0 ≤ (o37.1 1).toInt ∧ (o37.1 1).toInt ≤ 64 := h40
            have hFc := va_free (wc := [(a_said, .inl (cs 0, 123, .inl (o25.2 0))), (a, .inr (12, [.ref a_tape, .int a__taped, .int a__rules, .ref a_sign, .ref a_length, .ref a_clause, .ref a_clauses, .ref a_read, .int a__next, .int a__wrong, .int a__number, .int a__text, .int a__made, .int a__deep, .int a__lines, .ref a_open, .int a__opened, .ref a_stack, .int (o37.1 1), .ref a_word, .ref a_said, .int a__x, .ref a_worth, .ref a_mate, .ref a_wasSaid, .int a__undone, .int (o25.1 2), .ref a_wayBy, .ref a_wayThen, .int a__walkMost, .int a__walkGoing, .int a__walkSet, .ref a_kept, .long o19, .ref a_images, .ref a_imageX, .ref a_isMade]))]) hD hS hA [0,4] rfl
            refine va_callv (va_runV (As := [.int k2_L_3, .int (-1)]) (rest := []) ⟨hx, hb, hml, hown, hT⟩ (c_X12_goes l D cs kK kV a k2_L_3 ((-1)) a_said (o25.2 0) a_tape a__taped a__rules a_sign a_length a_clause a_clauses a_read a__next a__wrong a__number a__text a__made a__deep a__lines a_open a__opened a_stack (o37.1 1) a_word a__x a_worth a_mate a_wasSaid a__undone (o25.1 2) a_wayBy a_wayThen a__walkMost a__walkGoing a__walkSet a_kept o19 a_images a_imageX a_isMade h13 ((iv_c (by decide))) h_a__taped h_a__rules h_a__next h_a__text h_a__made h_a__lines h_a__opened h40 h_a__x h_a__undone x29 x30 ((by omega)) H.size) (cwV 2 hT (hz_gV q_1172 q_1173 q_1174 q_701 q_1175) rfl rfl rfl (by decide +kernel) ⟨(Nat.le_of_ble_eq_true rfl), (Nat.le_of_ble_eq_true rfl)⟩) ⟨hz_C.blind, va_recv hK hP (ci := 12) (q0 := 4) rfl rfl, hz_C.mk (hP.sub (ws' := [(a_said, .inl (cs 0, 123, .inl (o25.2 0))), (a, .inr (12, [.ref a_tape, .int a__taped, .int a__rules, .ref a_sign, .ref a_length, .ref a_clause, .ref a_clauses, .ref a_read, .int a__next, .int a__wrong, .int a__number, .int a__text, .int a__made, .int a__deep, .int a__lines, .ref a_open, .int a__opened, .ref a_stack, .int (o37.1 1), .ref a_word, .ref a_said, .int a__x, .ref a_worth, .ref a_mate, .ref a_wasSaid, .int a__undone, .int (o25.1 2), .ref a_wayBy, .ref a_wayThen, .int a__walkMost, .int a__walkGoing, .int a__walkSet, .ref a_kept, .long o19, .ref a_images, .ref a_imageX, .ref a_isMade]))]) [0,4] rfl) (hD.sub (ws' := [(a_said, .inl (cs 0, 123, .inl (o25.2 0))), (a, .inr (12, [.ref a_tape, .int a__taped, .int a__rules, .ref a_sign, .ref a_length, .ref a_clause, .ref a_clauses, .ref a_read, .int a__next, .int a__wrong, .int a__number, .int a__text, .int a__made, .int a__deep, .int a__lines, .ref a_open, .int a__opened, .ref a_stack, .int (o37.1 1), .ref a_word, .ref a_said, .int a__x, .ref a_worth, .ref a_mate, .ref a_wasSaid, .int a__undone, .int (o25.1 2), .ref a_wayBy, .ref a_wayThen, .int a__walkMost, .int a__walkGoing, .int a__walkSet, .ref a_kept, .long o19, .ref a_images, .ref a_imageX, .ref a_isMade]))]) [0,4] (by decide) rfl) hE hS hFc⟩ rfl rfl hl.1 rfl (lv_room (Nat.le_of_ble_eq_true rfl)) dX12_drawsHour_71 ⟨(Nat.le_of_ble_eq_true rfl), (Nat.le_of_ble_eq_true rfl)⟩) hS (fun q _ h => hFc q h) hFc (fun o45 t H1 locs ht hvm hw hB hz1 hk1 hS => ?_)
            obtain ⟨hP1, hD1⟩ := hB
            rw [ht] at hP1
            obtain ⟨hP, hD⟩ := va_join (wr := [(a_sign, .inl (cs 0, 2400, .inl a_sign_c)), (a_clause, .inl (cs 0, 360, .inl a_clause_c)), (a_clauses, .inl (cs 0, 6, .inl a_clauses_c)), (a_word, .inl (cs 3, 13, .inr (.inl o39))), (a_stack, .inl (cs 3, 64, .inr (.inl o38)))]) (w1 := [(a_said, .inl (cs 0, 123, .inl (o45.2 0))), (a, .inr (12, [.ref a_tape, .int a__taped, .int a__rules, .ref a_sign, .ref a_length, .ref a_clause, .ref a_clauses, .ref a_read, .int a__next, .int a__wrong, .int a__number, .int a__text, .int a__made, .int a__deep, .int a__lines, .ref a_open, .int a__opened, .ref a_stack, .int (o37.1 1), .ref a_word, .ref a_said, .int a__x, .ref a_worth, .ref a_mate, .ref a_wasSaid, .int a__undone, .int (o25.1 2), .ref a_wayBy, .ref a_wayThen, .int a__walkMost, .int a__walkGoing, .int a__walkSet, .ref a_kept, .long o19, .ref a_images, .ref a_imageX, .ref a_isMade]))]) hP hD [0, 4] [1, 2, 3, 5, 6] rfl rfl (by decide) (by decide) hk1 hFc hP1 hD1
            generalize H1 = H at hP hS ⊢
            have hP : va_P D classes [(a_sign, .inl (cs 0, 2400, .inl a_sign_c)), (a_clause, .inl (cs 0, 360, .inl a_clause_c)), (a_clauses, .inl (cs 0, 6, .inl a_clauses_c)), (a_word, .inl (cs 3, 13, .inr (.inl o39))), (a_stack, .inl (cs 3, 64, .inr (.inl o38))), (a_said, .inl (cs 0, 123, .inl (o45.2 0))), (a, .inr (12, [.ref a_tape, .int a__taped, .int a__rules, .ref a_sign, .ref a_length, .ref a_clause, .ref a_clauses, .ref a_read, .int a__next, .int a__wrong, .int a__number, .int a__text, .int a__made, .int a__deep, .int a__lines, .ref a_open, .int a__opened, .ref a_stack, .int (o37.1 1), .ref a_word, .ref a_said, .int a__x, .ref a_worth, .ref a_mate, .ref a_wasSaid, .int a__undone, .int (o25.1 2), .ref a_wayBy, .ref a_wayThen, .int a__walkMost, .int a__walkGoing, .int a__walkSet, .ref a_kept, .long o19, .ref a_images, .ref a_imageX, .ref a_isMade]))] H := hP
            have hD : va_D A [(a_sign, .inl (cs 0, 2400, .inl a_sign_c)), (a_clause, .inl (cs 0, 360, .inl a_clause_c)), (a_clauses, .inl (cs 0, 6, .inl a_clauses_c)), (a_word, .inl (cs 3, 13, .inr (.inl o39))), (a_stack, .inl (cs 3, 64, .inr (.inl o38))), (a_said, .inl (cs 0, 123, .inl (o45.2 0))), (a, .inr (12, [.ref a_tape, .int a__taped, .int a__rules, .ref a_sign, .ref a_length, .ref a_clause, .ref a_clauses, .ref a_read, .int a__next, .int a__wrong, .int a__number, .int a__text, .int a__made, .int a__deep, .int a__lines, .ref a_open, .int a__opened, .ref a_stack, .int (o37.1 1), .ref a_word, .ref a_said, .int a__x, .ref a_worth, .ref a_mate, .ref a_wasSaid, .int a__undone, .int (o25.1 2), .ref a_wayBy, .ref a_wayThen, .int a__walkMost, .int a__walkGoing, .int a__walkSet, .ref a_kept, .long o19, .ref a_images, .ref a_imageX, .ref a_isMade]))] := hD
            clear hk1 hFc hP1 hD1 hz1
            rcases hw with ⟨x46, x47, x48, x49, x50, x51⟩
            obtain ⟨v52, ev52⟩ : ∃ z : Int32, z = k2_L_3 + 1 := ⟨_, rfl⟩
            have hv52 : IV 1 4 v52 := iv_add ev52 h13 (iv_c (a := 1) (b := 1) (by decide)) (by decide) (by decide)
            have dv52 : v52.toInt = k2_L_3.toInt + 1 := iv_addE ev52 h13 (iv_c (a := 1) (b := 1) (by decide)) (by decide) (by decide) (by decide)
            refine lv_iinc (v := v52) (lv' := [(3, .int v52), (5, .int 0), (4, .int 0), (0, .ref a), (1, .int p0), (2, .int p1)]) hx hb dX12_drawsHour_74 hl (k := 2) rfl (by rw [ev52]; rfl) (by decide) rfl (fun ls hl => ?_)
            refine lv_goto (tgt := 2) hx hb dX12_drawsHour_77 (by decide) ?_
            exact ih2 v52 (o45.2 0) (o37.1 1) (o25.1 2) o19 o39 o38 (by have h9 := hn; omega) h40 (iv_w hv52 (by decide) (by decide)) x46 x47 (by omega) h20 (by omega) (by omega) (by omega) H locs (hP.sub (ws' := [(a_said, .inl (cs 0, 123, .inl (o45.2 0))), (a_sign, .inl (cs 0, 2400, .inl a_sign_c)), (a_clause, .inl (cs 0, 360, .inl a_clause_c)), (a_clauses, .inl (cs 0, 6, .inl a_clauses_c)), (a, .inr (12, [.ref a_tape, .int a__taped, .int a__rules, .ref a_sign, .ref a_length, .ref a_clause, .ref a_clauses, .ref a_read, .int a__next, .int a__wrong, .int a__number, .int a__text, .int a__made, .int a__deep, .int a__lines, .ref a_open, .int a__opened, .ref a_stack, .int (o37.1 1), .ref a_word, .ref a_said, .int a__x, .ref a_worth, .ref a_mate, .ref a_wasSaid, .int a__undone, .int (o25.1 2), .ref a_wayBy, .ref a_wayThen, .int a__walkMost, .int a__walkGoing, .int a__walkSet, .ref a_kept, .long o19, .ref a_images, .ref a_imageX, .ref a_isMade])), (a_word, .inl (cs 3, 13, .inr (.inl o39))), (a_stack, .inl (cs 3, 64, .inr (.inl o38)))]) [5, 0, 1, 2, 6, 3, 4] rfl) (hD.sub (ws' := [(a_said, .inl (cs 0, 123, .inl (o45.2 0))), (a_sign, .inl (cs 0, 2400, .inl a_sign_c)), (a_clause, .inl (cs 0, 360, .inl a_clause_c)), (a_clauses, .inl (cs 0, 6, .inl a_clauses_c)), (a, .inr (12, [.ref a_tape, .int a__taped, .int a__rules, .ref a_sign, .ref a_length, .ref a_clause, .ref a_clauses, .ref a_read, .int a__next, .int a__wrong, .int a__number, .int a__text, .int a__made, .int a__deep, .int a__lines, .ref a_open, .int a__opened, .ref a_stack, .int (o37.1 1), .ref a_word, .ref a_said, .int a__x, .ref a_worth, .ref a_mate, .ref a_wasSaid, .int a__undone, .int (o25.1 2), .ref a_wayBy, .ref a_wayThen, .int a__walkMost, .int a__walkGoing, .int a__walkSet, .ref a_kept, .long o19, .ref a_images, .ref a_imageX, .ref a_isMade])), (a_word, .inl (cs 3, 13, .inr (.inl o39))), (a_stack, .inl (cs 3, 64, .inr (.inl o38)))]) [5, 0, 1, 2, 6, 3, 4] (by decide) rfl) hS ls (lv_sub hl [0, 3, 4, 5] rfl)
          · have ii53 : 0 ≤ (o37.1 1).toInt ∧ (o37.1 1).toInt ≤ 64 := h41
            have hFc := va_free (wc := [(a_said, .inl (cs 0, 123, .inl (o25.2 0))), (a, .inr (12, [.ref a_tape, .int a__taped, .int a__rules, .ref a_sign, .ref a_length, .ref a_clause, .ref a_clauses, .ref a_read, .int a__next, .int a__wrong, .int a__number, .int a__text, .int a__made, .int a__deep, .int a__lines, .ref a_open, .int a__opened, .ref a_stack, .int (o37.1 1), .ref a_word, .ref a_said, .int a__x, .ref a_worth, .ref a_mate, .ref a_wasSaid, .int a__undone, .int (o25.1 2), .ref a_wayBy, .ref a_wayThen, .int a__walkMost, .int a__walkGoing, .int a__walkSet, .ref a_kept, .long o19, .ref a_images, .ref a_imageX, .ref a_isMade]))]) hD hS hA [0,4] rfl
            refine va_callv (va_runV (As := [.int k2_L_3, .int 0]) (rest := []) ⟨hx, hb, hml, hown, hT⟩ (c_X12_goes l D cs kK kV a k2_L_3 0 a_said (o25.2 0) a_tape a__taped a__rules a_sign a_length a_clause a_clauses a_read a__next a__wrong a__number a__text a__made a__deep a__lines a_open a__opened a_stack (o37.1 1) a_word a__x a_worth a_mate a_wasSaid a__undone (o25.1 2) a_wayBy a_wayThen a__walkMost a__walkGoing a__walkSet a_kept o19 a_images a_imageX a_isMade h13 ((iv_c (by decide))) h_a__taped h_a__rules h_a__next h_a__text h_a__made h_a__lines h_a__opened h41 h_a__x h_a__undone x29 x30 ((by omega)) H.size) (cwV 2 hT (hz_gV q_1172 q_1173 q_1174 q_701 q_1175) rfl rfl rfl (by decide +kernel) ⟨(Nat.le_of_ble_eq_true rfl), (Nat.le_of_ble_eq_true rfl)⟩) ⟨hz_C.blind, va_recv hK hP (ci := 12) (q0 := 4) rfl rfl, hz_C.mk (hP.sub (ws' := [(a_said, .inl (cs 0, 123, .inl (o25.2 0))), (a, .inr (12, [.ref a_tape, .int a__taped, .int a__rules, .ref a_sign, .ref a_length, .ref a_clause, .ref a_clauses, .ref a_read, .int a__next, .int a__wrong, .int a__number, .int a__text, .int a__made, .int a__deep, .int a__lines, .ref a_open, .int a__opened, .ref a_stack, .int (o37.1 1), .ref a_word, .ref a_said, .int a__x, .ref a_worth, .ref a_mate, .ref a_wasSaid, .int a__undone, .int (o25.1 2), .ref a_wayBy, .ref a_wayThen, .int a__walkMost, .int a__walkGoing, .int a__walkSet, .ref a_kept, .long o19, .ref a_images, .ref a_imageX, .ref a_isMade]))]) [0,4] rfl) (hD.sub (ws' := [(a_said, .inl (cs 0, 123, .inl (o25.2 0))), (a, .inr (12, [.ref a_tape, .int a__taped, .int a__rules, .ref a_sign, .ref a_length, .ref a_clause, .ref a_clauses, .ref a_read, .int a__next, .int a__wrong, .int a__number, .int a__text, .int a__made, .int a__deep, .int a__lines, .ref a_open, .int a__opened, .ref a_stack, .int (o37.1 1), .ref a_word, .ref a_said, .int a__x, .ref a_worth, .ref a_mate, .ref a_wasSaid, .int a__undone, .int (o25.1 2), .ref a_wayBy, .ref a_wayThen, .int a__walkMost, .int a__walkGoing, .int a__walkSet, .ref a_kept, .long o19, .ref a_images, .ref a_imageX, .ref a_isMade]))]) [0,4] (by decide) rfl) hE hS hFc⟩ rfl rfl hl.1 rfl (lv_room (Nat.le_of_ble_eq_true rfl)) dX12_drawsHour_71 ⟨(Nat.le_of_ble_eq_true rfl), (Nat.le_of_ble_eq_true rfl)⟩) hS (fun q _ h => hFc q h) hFc (fun o55 t H1 locs ht hvm hw hB hz1 hk1 hS => ?_)
            obtain ⟨hP1, hD1⟩ := hB
            rw [ht] at hP1
            obtain ⟨hP, hD⟩ := va_join (wr := [(a_sign, .inl (cs 0, 2400, .inl a_sign_c)), (a_clause, .inl (cs 0, 360, .inl a_clause_c)), (a_clauses, .inl (cs 0, 6, .inl a_clauses_c)), (a_word, .inl (cs 3, 13, .inr (.inl o39))), (a_stack, .inl (cs 3, 64, .inr (.inl o38)))]) (w1 := [(a_said, .inl (cs 0, 123, .inl (o55.2 0))), (a, .inr (12, [.ref a_tape, .int a__taped, .int a__rules, .ref a_sign, .ref a_length, .ref a_clause, .ref a_clauses, .ref a_read, .int a__next, .int a__wrong, .int a__number, .int a__text, .int a__made, .int a__deep, .int a__lines, .ref a_open, .int a__opened, .ref a_stack, .int (o37.1 1), .ref a_word, .ref a_said, .int a__x, .ref a_worth, .ref a_mate, .ref a_wasSaid, .int a__undone, .int (o25.1 2), .ref a_wayBy, .ref a_wayThen, .int a__walkMost, .int a__walkGoing, .int a__walkSet, .ref a_kept, .long o19, .ref a_images, .ref a_imageX, .ref a_isMade]))]) hP hD [0, 4] [1, 2, 3, 5, 6] rfl rfl (by decide) (by decide) hk1 hFc hP1 hD1
            generalize H1 = H at hP hS ⊢
            have hP : va_P D classes [(a_sign, .inl (cs 0, 2400, .inl a_sign_c)), (a_clause, .inl (cs 0, 360, .inl a_clause_c)), (a_clauses, .inl (cs 0, 6, .inl a_clauses_c)), (a_word, .inl (cs 3, 13, .inr (.inl o39))), (a_stack, .inl (cs 3, 64, .inr (.inl o38))), (a_said, .inl (cs 0, 123, .inl (o55.2 0))), (a, .inr (12, [.ref a_tape, .int a__taped, .int a__rules, .ref a_sign, .ref a_length, .ref a_clause, .ref a_clauses, .ref a_read, .int a__next, .int a__wrong, .int a__number, .int a__text, .int a__made, .int a__deep, .int a__lines, .ref a_open, .int a__opened, .ref a_stack, .int (o37.1 1), .ref a_word, .ref a_said, .int a__x, .ref a_worth, .ref a_mate, .ref a_wasSaid, .int a__undone, .int (o25.1 2), .ref a_wayBy, .ref a_wayThen, .int a__walkMost, .int a__walkGoing, .int a__walkSet, .ref a_kept, .long o19, .ref a_images, .ref a_imageX, .ref a_isMade]))] H := hP
            have hD : va_D A [(a_sign, .inl (cs 0, 2400, .inl a_sign_c)), (a_clause, .inl (cs 0, 360, .inl a_clause_c)), (a_clauses, .inl (cs 0, 6, .inl a_clauses_c)), (a_word, .inl (cs 3, 13, .inr (.inl o39))), (a_stack, .inl (cs 3, 64, .inr (.inl o38))), (a_said, .inl (cs 0, 123, .inl (o55.2 0))), (a, .inr (12, [.ref a_tape, .int a__taped, .int a__rules, .ref a_sign, .ref a_length, .ref a_clause, .ref a_clauses, .ref a_read, .int a__next, .int a__wrong, .int a__number, .int a__text, .int a__made, .int a__deep, .int a__lines, .ref a_open, .int a__opened, .ref a_stack, .int (o37.1 1), .ref a_word, .ref a_said, .int a__x, .ref a_worth, .ref a_mate, .ref a_wasSaid, .int a__undone, .int (o25.1 2), .ref a_wayBy, .ref a_wayThen, .int a__walkMost, .int a__walkGoing, .int a__walkSet, .ref a_kept, .long o19, .ref a_images, .ref a_imageX, .ref a_isMade]))] := hD
            clear hk1 hFc hP1 hD1 hz1
            rcases hw with ⟨x56, x57, x58, x59, x60, x61⟩
            obtain ⟨v62, ev62⟩ : ∃ z : Int32, z = k2_L_3 + 1 := ⟨_, rfl⟩
            have hv62 : IV 1 4 v62 := iv_add ev62 h13 (iv_c (a := 1) (b := 1) (by decide)) (by decide) (by decide)
            have dv62 : v62.toInt = k2_L_3.toInt + 1 := iv_addE ev62 h13 (iv_c (a := 1) (b := 1) (by decide)) (by decide) (by decide) (by decide)
            refine lv_iinc (v := v62) (lv' := [(3, .int v62), (5, .int 0), (4, .int 0), (0, .ref a), (1, .int p0), (2, .int p1)]) hx hb dX12_drawsHour_74 hl (k := 2) rfl (by rw [ev62]; rfl) (by decide) rfl (fun ls hl => ?_)
            refine lv_goto (tgt := 2) hx hb dX12_drawsHour_77 (by decide) ?_
            exact ih2 v62 (o55.2 0) (o37.1 1) (o25.1 2) o19 o39 o38 (by have h9 := hn; omega) h41 (iv_w hv62 (by decide) (by decide)) x56 x57 (by omega) h20 (by omega) (by omega) (by omega) H locs (hP.sub (ws' := [(a_said, .inl (cs 0, 123, .inl (o55.2 0))), (a_sign, .inl (cs 0, 2400, .inl a_sign_c)), (a_clause, .inl (cs 0, 360, .inl a_clause_c)), (a_clauses, .inl (cs 0, 6, .inl a_clauses_c)), (a, .inr (12, [.ref a_tape, .int a__taped, .int a__rules, .ref a_sign, .ref a_length, .ref a_clause, .ref a_clauses, .ref a_read, .int a__next, .int a__wrong, .int a__number, .int a__text, .int a__made, .int a__deep, .int a__lines, .ref a_open, .int a__opened, .ref a_stack, .int (o37.1 1), .ref a_word, .ref a_said, .int a__x, .ref a_worth, .ref a_mate, .ref a_wasSaid, .int a__undone, .int (o25.1 2), .ref a_wayBy, .ref a_wayThen, .int a__walkMost, .int a__walkGoing, .int a__walkSet, .ref a_kept, .long o19, .ref a_images, .ref a_imageX, .ref a_isMade])), (a_word, .inl (cs 3, 13, .inr (.inl o39))), (a_stack, .inl (cs 3, 64, .inr (.inl o38)))]) [5, 0, 1, 2, 6, 3, 4] rfl) (hD.sub (ws' := [(a_said, .inl (cs 0, 123, .inl (o55.2 0))), (a_sign, .inl (cs 0, 2400, .inl a_sign_c)), (a_clause, .inl (cs 0, 360, .inl a_clause_c)), (a_clauses, .inl (cs 0, 6, .inl a_clauses_c)), (a, .inr (12, [.ref a_tape, .int a__taped, .int a__rules, .ref a_sign, .ref a_length, .ref a_clause, .ref a_clauses, .ref a_read, .int a__next, .int a__wrong, .int a__number, .int a__text, .int a__made, .int a__deep, .int a__lines, .ref a_open, .int a__opened, .ref a_stack, .int (o37.1 1), .ref a_word, .ref a_said, .int a__x, .ref a_worth, .ref a_mate, .ref a_wasSaid, .int a__undone, .int (o25.1 2), .ref a_wayBy, .ref a_wayThen, .int a__walkMost, .int a__walkGoing, .int a__walkSet, .ref a_kept, .long o19, .ref a_images, .ref a_imageX, .ref a_isMade])), (a_word, .inl (cs 3, 13, .inr (.inl o39))), (a_stack, .inl (cs 3, 64, .inr (.inl o38)))]) [5, 0, 1, 2, 6, 3, 4] (by decide) rfl) hS ls (lv_sub hl [0, 3, 4, 5] rfl)
          · have ii63 : 0 ≤ (o37.1 1).toInt ∧ (o37.1 1).toInt ≤ 64 := h42
            have hFc := va_free (wc := [(a_said, .inl (cs 0, 123, .inl (o25.2 0))), (a, .inr (12, [.ref a_tape, .int a__taped, .int a__rules, .ref a_sign, .ref a_length, .ref a_clause, .ref a_clauses, .ref a_read, .int a__next, .int a__wrong, .int a__number, .int a__text, .int a__made, .int a__deep, .int a__lines, .ref a_open, .int a__opened, .ref a_stack, .int (o37.1 1), .ref a_word, .ref a_said, .int a__x, .ref a_worth, .ref a_mate, .ref a_wasSaid, .int a__undone, .int (o25.1 2), .ref a_wayBy, .ref a_wayThen, .int a__walkMost, .int a__walkGoing, .int a__walkSet, .ref a_kept, .long o19, .ref a_images, .ref a_imageX, .ref a_isMade]))]) hD hS hA [0,4] rfl
            refine va_callv (va_runV (As := [.int k2_L_3, .int 1]) (rest := []) ⟨hx, hb, hml, hown, hT⟩ (c_X12_goes l D cs kK kV a k2_L_3 1 a_said (o25.2 0) a_tape a__taped a__rules a_sign a_length a_clause a_clauses a_read a__next a__wrong a__number a__text a__made a__deep a__lines a_open a__opened a_stack (o37.1 1) a_word a__x a_worth a_mate a_wasSaid a__undone (o25.1 2) a_wayBy a_wayThen a__walkMost a__walkGoing a__walkSet a_kept o19 a_images a_imageX a_isMade h13 ((iv_c (by decide))) h_a__taped h_a__rules h_a__next h_a__text h_a__made h_a__lines h_a__opened h42 h_a__x h_a__undone x29 x30 ((by omega)) H.size) (cwV 2 hT (hz_gV q_1172 q_1173 q_1174 q_701 q_1175) rfl rfl rfl (by decide +kernel) ⟨(Nat.le_of_ble_eq_true rfl), (Nat.le_of_ble_eq_true rfl)⟩) ⟨hz_C.blind, va_recv hK hP (ci := 12) (q0 := 4) rfl rfl, hz_C.mk (hP.sub (ws' := [(a_said, .inl (cs 0, 123, .inl (o25.2 0))), (a, .inr (12, [.ref a_tape, .int a__taped, .int a__rules, .ref a_sign, .ref a_length, .ref a_clause, .ref a_clauses, .ref a_read, .int a__next, .int a__wrong, .int a__number, .int a__text, .int a__made, .int a__deep, .int a__lines, .ref a_open, .int a__opened, .ref a_stack, .int (o37.1 1), .ref a_word, .ref a_said, .int a__x, .ref a_worth, .ref a_mate, .ref a_wasSaid, .int a__undone, .int (o25.1 2), .ref a_wayBy, .ref a_wayThen, .int a__walkMost, .int a__walkGoing, .int a__walkSet, .ref a_kept, .long o19, .ref a_images, .ref a_imageX, .ref a_isMade]))]) [0,4] rfl) (hD.sub (ws' := [(a_said, .inl (cs 0, 123, .inl (o25.2 0))), (a, .inr (12, [.ref a_tape, .int a__taped, .int a__rules, .ref a_sign, .ref a_length, .ref a_clause, .ref a_clauses, .ref a_read, .int a__next, .int a__wrong, .int a__number, .int a__text, .int a__made, .int a__deep, .int a__lines, .ref a_open, .int a__opened, .ref a_stack, .int (o37.1 1), .ref a_word, .ref a_said, .int a__x, .ref a_worth, .ref a_mate, .ref a_wasSaid, .int a__undone, .int (o25.1 2), .ref a_wayBy, .ref a_wayThen, .int a__walkMost, .int a__walkGoing, .int a__walkSet, .ref a_kept, .long o19, .ref a_images, .ref a_imageX, .ref a_isMade]))]) [0,4] (by decide) rfl) hE hS hFc⟩ rfl rfl hl.1 rfl (lv_room (Nat.le_of_ble_eq_true rfl)) dX12_drawsHour_71 ⟨(Nat.le_of_ble_eq_true rfl), (Nat.le_of_ble_eq_true rfl)⟩) hS (fun q _ h => hFc q h) hFc (fun o65 t H1 locs ht hvm hw hB hz1 hk1 hS => ?_)
            obtain ⟨hP1, hD1⟩ := hB
            rw [ht] at hP1
            obtain ⟨hP, hD⟩ := va_join (wr := [(a_sign, .inl (cs 0, 2400, .inl a_sign_c)), (a_clause, .inl (cs 0, 360, .inl a_clause_c)), (a_clauses, .inl (cs 0, 6, .inl a_clauses_c)), (a_word, .inl (cs 3, 13, .inr (.inl o39))), (a_stack, .inl (cs 3, 64, .inr (.inl o38)))]) (w1 := [(a_said, .inl (cs 0, 123, .inl (o65.2 0))), (a, .inr (12, [.ref a_tape, .int a__taped, .int a__rules, .ref a_sign, .ref a_length, .ref a_clause, .ref a_clauses, .ref a_read, .int a__next, .int a__wrong, .int a__number, .int a__text, .int a__made, .int a__deep, .int a__lines, .ref a_open, .int a__opened, .ref a_stack, .int (o37.1 1), .ref a_word, .ref a_said, .int a__x, .ref a_worth, .ref a_mate, .ref a_wasSaid, .int a__undone, .int (o25.1 2), .ref a_wayBy, .ref a_wayThen, .int a__walkMost, .int a__walkGoing, .int a__walkSet, .ref a_kept, .long o19, .ref a_images, .ref a_imageX, .ref a_isMade]))]) hP hD [0, 4] [1, 2, 3, 5, 6] rfl rfl (by decide) (by decide) hk1 hFc hP1 hD1
            generalize H1 = H at hP hS ⊢
            have hP : va_P D classes [(a_sign, .inl (cs 0, 2400, .inl a_sign_c)), (a_clause, .inl (cs 0, 360, .inl a_clause_c)), (a_clauses, .inl (cs 0, 6, .inl a_clauses_c)), (a_word, .inl (cs 3, 13, .inr (.inl o39))), (a_stack, .inl (cs 3, 64, .inr (.inl o38))), (a_said, .inl (cs 0, 123, .inl (o65.2 0))), (a, .inr (12, [.ref a_tape, .int a__taped, .int a__rules, .ref a_sign, .ref a_length, .ref a_clause, .ref a_clauses, .ref a_read, .int a__next, .int a__wrong, .int a__number, .int a__text, .int a__made, .int a__deep, .int a__lines, .ref a_open, .int a__opened, .ref a_stack, .int (o37.1 1), .ref a_word, .ref a_said, .int a__x, .ref a_worth, .ref a_mate, .ref a_wasSaid, .int a__undone, .int (o25.1 2), .ref a_wayBy, .ref a_wayThen, .int a__walkMost, .int a__walkGoing, .int a__walkSet, .ref a_kept, .long o19, .ref a_images, .ref a_imageX, .ref a_isMade]))] H := hP
            have hD : va_D A [(a_sign, .inl (cs 0, 2400, .inl a_sign_c)), (a_clause, .inl (cs 0, 360, .inl a_clause_c)), (a_clauses, .inl (cs 0, 6, .inl a_clauses_c)), (a_word, .inl (cs 3, 13, .inr (.inl o39))), (a_stack, .inl (cs 3, 64, .inr (.inl o38))), (a_said, .inl (cs 0, 123, .inl (o65.2 0))), (a, .inr (12, [.ref a_tape, .int a__taped, .int a__rules, .ref a_sign, .ref a_length, .ref a_clause, .ref a_clauses, .ref a_read, .int a__next, .int a__wrong, .int a__number, .int a__text, .int a__made, .int a__deep, .int a__lines, .ref a_open, .int a__opened, .ref a_stack, .int (o37.1 1), .ref a_word, .ref a_said, .int a__x, .ref a_worth, .ref a_mate, .ref a_wasSaid, .int a__undone, .int (o25.1 2), .ref a_wayBy, .ref a_wayThen, .int a__walkMost, .int a__walkGoing, .int a__walkSet, .ref a_kept, .long o19, .ref a_images, .ref a_imageX, .ref a_isMade]))] := hD
            clear hk1 hFc hP1 hD1 hz1
            rcases hw with ⟨x66, x67, x68, x69, x70, x71⟩
            obtain ⟨v72, ev72⟩ : ∃ z : Int32, z = k2_L_3 + 1 := ⟨_, rfl⟩
            have hv72 : IV 1 4 v72 := iv_add ev72 h13 (iv_c (a := 1) (b := 1) (by decide)) (by decide) (by decide)
            have dv72 : v72.toInt = k2_L_3.toInt + 1 := iv_addE ev72 h13 (iv_c (a := 1) (b := 1) (by decide)) (by decide) (by decide) (by decide)
            refine lv_iinc (v := v72) (lv' := [(3, .int v72), (5, .int 0), (4, .int 0), (0, .ref a), (1, .int p0), (2, .int p1)]) hx hb dX12_drawsHour_74 hl (k := 2) rfl (by rw [ev72]; rfl) (by decide) rfl (fun ls hl => ?_)
            refine lv_goto (tgt := 2) hx hb dX12_drawsHour_77 (by decide) ?_
            exact ih2 v72 (o65.2 0) (o37.1 1) (o25.1 2) o19 o39 o38 (by have h9 := hn; omega) h42 (iv_w hv72 (by decide) (by decide)) x66 x67 (by omega) h20 (by omega) (by omega) (by omega) H locs (hP.sub (ws' := [(a_said, .inl (cs 0, 123, .inl (o65.2 0))), (a_sign, .inl (cs 0, 2400, .inl a_sign_c)), (a_clause, .inl (cs 0, 360, .inl a_clause_c)), (a_clauses, .inl (cs 0, 6, .inl a_clauses_c)), (a, .inr (12, [.ref a_tape, .int a__taped, .int a__rules, .ref a_sign, .ref a_length, .ref a_clause, .ref a_clauses, .ref a_read, .int a__next, .int a__wrong, .int a__number, .int a__text, .int a__made, .int a__deep, .int a__lines, .ref a_open, .int a__opened, .ref a_stack, .int (o37.1 1), .ref a_word, .ref a_said, .int a__x, .ref a_worth, .ref a_mate, .ref a_wasSaid, .int a__undone, .int (o25.1 2), .ref a_wayBy, .ref a_wayThen, .int a__walkMost, .int a__walkGoing, .int a__walkSet, .ref a_kept, .long o19, .ref a_images, .ref a_imageX, .ref a_isMade])), (a_word, .inl (cs 3, 13, .inr (.inl o39))), (a_stack, .inl (cs 3, 64, .inr (.inl o38)))]) [5, 0, 1, 2, 6, 3, 4] rfl) (hD.sub (ws' := [(a_said, .inl (cs 0, 123, .inl (o65.2 0))), (a_sign, .inl (cs 0, 2400, .inl a_sign_c)), (a_clause, .inl (cs 0, 360, .inl a_clause_c)), (a_clauses, .inl (cs 0, 6, .inl a_clauses_c)), (a, .inr (12, [.ref a_tape, .int a__taped, .int a__rules, .ref a_sign, .ref a_length, .ref a_clause, .ref a_clauses, .ref a_read, .int a__next, .int a__wrong, .int a__number, .int a__text, .int a__made, .int a__deep, .int a__lines, .ref a_open, .int a__opened, .ref a_stack, .int (o37.1 1), .ref a_word, .ref a_said, .int a__x, .ref a_worth, .ref a_mate, .ref a_wasSaid, .int a__undone, .int (o25.1 2), .ref a_wayBy, .ref a_wayThen, .int a__walkMost, .int a__walkGoing, .int a__walkSet, .ref a_kept, .long o19, .ref a_images, .ref a_imageX, .ref a_isMade])), (a_word, .inl (cs 3, 13, .inr (.inl o39))), (a_stack, .inl (cs 3, 64, .inr (.inl o38)))]) [5, 0, 1, 2, 6, 3, 4] (by decide) rfl) hS ls (lv_sub hl [0, 3, 4, 5] rfl)
        · have t73 : r17.toInt < p1.toInt := lin_geN c22 rfl rfl
          have h74 : IV (-2147483648) 2147483646 r17 := iv_lt1 (Int32.not_le.mp c22) iv_top iv_top (by decide)
          have ii75 : (-2147483648) ≤ r17.toInt ∧ r17.toInt ≤ 2147483646 := h74
          have h76 : IV (-2147483647) 2147483647 p1 := iv_lt2 (Int32.not_le.mp c22) iv_top iv_top (by decide)
          have ii77 : (-2147483647) ≤ p1.toInt ∧ p1.toInt ≤ 2147483647 := h76
          refine lv_iconst (v := 1) hx hb dX12_drawsHour_22 (by decide) ?_
          refine lv_goto (tgt := 27) hx hb dX12_drawsHour_23 (by decide) ?_
          refine lv_istore (lv' := [(4, .int 1), (3, .int k2_L_3), (0, .ref a), (1, .int p0), (2, .int p1)]) hx hb dX12_drawsHour_27 hl (by decide) rfl (fun ls hl => ?_)
          refine lv_iload hx hb dX12_drawsHour_29 (lv_at hl 0 rfl) ?_
          refine lv_if_eq (tgt := 44) hx hb dX12_drawsHour_31 (by decide) (fun z => absurd z (by decide)) (fun _ => ?_)
          refine lv_aload_n hx hb dX12_drawsHour_34 rfl (lv_at hl 2 rfl) ?_
          refine lv_iconst (v := 3) hx hb dX12_drawsHour_35 (by decide) ?_
          have hFc := va_free (wc := [(a, .inr (12, [.ref a_tape, .int a__taped, .int a__rules, .ref a_sign, .ref a_length, .ref a_clause, .ref a_clauses, .ref a_read, .int a__next, .int a__wrong, .int a__number, .int a__text, .int a__made, .int a__deep, .int a__lines, .ref a_open, .int a__opened, .ref a_stack, .int k2_F_a_18, .ref a_word, .ref a_said, .int a__x, .ref a_worth, .ref a_mate, .ref a_wasSaid, .int a__undone, .int k2_F_a_26, .ref a_wayBy, .ref a_wayThen, .int a__walkMost, .int a__walkGoing, .int a__walkSet, .ref a_kept, .long o19, .ref a_images, .ref a_imageX, .ref a_isMade]))]) hD hS hA [6] rfl
          refine va_calli (va_runV (As := [.int 3]) (rest := []) ⟨hx, hb, hml, hown, hT⟩ (c_X12_draw l D cs kK kV a 3 a_tape a__taped a__rules a_sign a_length a_clause a_clauses a_read a__next a__wrong a__number a__text a__made a__deep a__lines a_open a__opened a_stack k2_F_a_18 a_word a_said a__x a_worth a_mate a_wasSaid a__undone k2_F_a_26 a_wayBy a_wayThen a__walkMost a__walkGoing a__walkSet a_kept o19 a_images a_imageX a_isMade ((iv_c (by decide))) h_a__taped h_a__rules h_a__next h_a__text h_a__made h_a__lines h_a__opened q2_9 h_a__x h_a__undone h20 H.size) (cwV 1 hT (hz_gV q_1301 q_1302 q_1303 q_701 q_1304) rfl rfl rfl (by decide +kernel) ⟨(Nat.le_of_ble_eq_true rfl), (Nat.le_of_ble_eq_true rfl)⟩) ⟨hz_C.blind, va_recv hK hP (ci := 12) (q0 := 6) rfl rfl, hz_C.mk (hP.sub (ws' := [(a, .inr (12, [.ref a_tape, .int a__taped, .int a__rules, .ref a_sign, .ref a_length, .ref a_clause, .ref a_clauses, .ref a_read, .int a__next, .int a__wrong, .int a__number, .int a__text, .int a__made, .int a__deep, .int a__lines, .ref a_open, .int a__opened, .ref a_stack, .int k2_F_a_18, .ref a_word, .ref a_said, .int a__x, .ref a_worth, .ref a_mate, .ref a_wasSaid, .int a__undone, .int k2_F_a_26, .ref a_wayBy, .ref a_wayThen, .int a__walkMost, .int a__walkGoing, .int a__walkSet, .ref a_kept, .long o19, .ref a_images, .ref a_imageX, .ref a_isMade]))]) [6] rfl) (hD.sub (ws' := [(a, .inr (12, [.ref a_tape, .int a__taped, .int a__rules, .ref a_sign, .ref a_length, .ref a_clause, .ref a_clauses, .ref a_read, .int a__next, .int a__wrong, .int a__number, .int a__text, .int a__made, .int a__deep, .int a__lines, .ref a_open, .int a__opened, .ref a_stack, .int k2_F_a_18, .ref a_word, .ref a_said, .int a__x, .ref a_worth, .ref a_mate, .ref a_wasSaid, .int a__undone, .int k2_F_a_26, .ref a_wayBy, .ref a_wayThen, .int a__walkMost, .int a__walkGoing, .int a__walkSet, .ref a_kept, .long o19, .ref a_images, .ref a_imageX, .ref a_isMade]))]) [6] (by decide) rfl) hE hS hFc⟩ rfl rfl hl.1 rfl (lv_room (Nat.le_of_ble_eq_true rfl)) dX12_drawsHour_36 ⟨(Nat.le_of_ble_eq_true rfl), (Nat.le_of_ble_eq_true rfl)⟩) hS (fun q _ h => hFc q h) hFc (fun r78 o79 t H1 locs ht hvm hw hB hz1 hk1 hS => ?_)
          obtain ⟨o80, h81, hP1, hD1⟩ := hB
          rw [ht] at hP1
          obtain ⟨hP, hD⟩ := va_join (wr := [(a_said, .inl (cs 0, 123, .inl k2_C_a_said)), (a_sign, .inl (cs 0, 2400, .inl a_sign_c)), (a_clause, .inl (cs 0, 360, .inl a_clause_c)), (a_clauses, .inl (cs 0, 6, .inl a_clauses_c)), (a_word, .inl (cs 3, 13, .inr (.inl k2_C_a_word))), (a_stack, .inl (cs 3, 64, .inr (.inl k2_C_a_stack)))]) (w1 := [(a, .inr (12, [.ref a_tape, .int a__taped, .int a__rules, .ref a_sign, .ref a_length, .ref a_clause, .ref a_clauses, .ref a_read, .int a__next, .int a__wrong, .int a__number, .int a__text, .int a__made, .int a__deep, .int a__lines, .ref a_open, .int a__opened, .ref a_stack, .int k2_F_a_18, .ref a_word, .ref a_said, .int a__x, .ref a_worth, .ref a_mate, .ref a_wasSaid, .int a__undone, .int k2_F_a_26, .ref a_wayBy, .ref a_wayThen, .int a__walkMost, .int a__walkGoing, .int a__walkSet, .ref a_kept, .long o80, .ref a_images, .ref a_imageX, .ref a_isMade]))]) hP hD [6] [0, 1, 2, 3, 4, 5] rfl rfl (by decide) (by decide) hk1 hFc hP1 hD1
          generalize H1 = H at hP hS ⊢
          have hP : va_P D classes [(a_said, .inl (cs 0, 123, .inl k2_C_a_said)), (a_sign, .inl (cs 0, 2400, .inl a_sign_c)), (a_clause, .inl (cs 0, 360, .inl a_clause_c)), (a_clauses, .inl (cs 0, 6, .inl a_clauses_c)), (a_word, .inl (cs 3, 13, .inr (.inl k2_C_a_word))), (a_stack, .inl (cs 3, 64, .inr (.inl k2_C_a_stack))), (a, .inr (12, [.ref a_tape, .int a__taped, .int a__rules, .ref a_sign, .ref a_length, .ref a_clause, .ref a_clauses, .ref a_read, .int a__next, .int a__wrong, .int a__number, .int a__text, .int a__made, .int a__deep, .int a__lines, .ref a_open, .int a__opened, .ref a_stack, .int k2_F_a_18, .ref a_word, .ref a_said, .int a__x, .ref a_worth, .ref a_mate, .ref a_wasSaid, .int a__undone, .int k2_F_a_26, .ref a_wayBy, .ref a_wayThen, .int a__walkMost, .int a__walkGoing, .int a__walkSet, .ref a_kept, .long o80, .ref a_images, .ref a_imageX, .ref a_isMade]))] H := hP
          have hD : va_D A [(a_said, .inl (cs 0, 123, .inl k2_C_a_said)), (a_sign, .inl (cs 0, 2400, .inl a_sign_c)), (a_clause, .inl (cs 0, 360, .inl a_clause_c)), (a_clauses, .inl (cs 0, 6, .inl a_clauses_c)), (a_word, .inl (cs 3, 13, .inr (.inl k2_C_a_word))), (a_stack, .inl (cs 3, 64, .inr (.inl k2_C_a_stack))), (a, .inr (12, [.ref a_tape, .int a__taped, .int a__rules, .ref a_sign, .ref a_length, .ref a_clause, .ref a_clauses, .ref a_read, .int a__next, .int a__wrong, .int a__number, .int a__text, .int a__made, .int a__deep, .int a__lines, .ref a_open, .int a__opened, .ref a_stack, .int k2_F_a_18, .ref a_word, .ref a_said, .int a__x, .ref a_worth, .ref a_mate, .ref a_wasSaid, .int a__undone, .int k2_F_a_26, .ref a_wayBy, .ref a_wayThen, .int a__walkMost, .int a__walkGoing, .int a__walkSet, .ref a_kept, .long o80, .ref a_images, .ref a_imageX, .ref a_isMade]))] := hD
          clear hk1 hFc hP1 hD1 hz1
          have x82 := hw
          have z3 : (3 : Int32).toInt = 3 := by decide
          have h83 : IV 0 2 r78 := ⟨by omega, by omega⟩
          have ii84 : 0 ≤ r78.toInt ∧ r78.toInt ≤ 2 := h83
          refine lv_iconst (v := 1) hx hb dX12_drawsHour_39 (by decide) ?_
          refine lv_isub hx hb dX12_drawsHour_40 ?_
          refine lv_topi (fun v85 ev85 => ?_)
          have hv85 : IV (-1) 1 v85 := iv_sub ev85 h83 (iv_c (a := 1) (b := 1) (by decide)) (by decide) (by decide)
          have ii86 : (-1) ≤ v85.toInt ∧ v85.toInt ≤ 1 := hv85
          have dv85 : v85.toInt = r78.toInt + (-1) := iv_subE ev85 h83 (iv_c (a := 1) (b := 1) (by decide)) (by decide) (by decide) (by decide)
          have lv85 : v85.toInt = r78.toInt - 1 := lin_sub ev85 h83 (iv_c (a := 1) (b := 1) (by decide)) rfl (by decide) (by decide) (by decide)
          refine lv_goto (tgt := 45) hx hb dX12_drawsHour_41 (by decide) ?_
          refine lv_istore (lv' := [(5, .int v85), (4, .int 1), (3, .int k2_L_3), (0, .ref a), (1, .int p0), (2, .int p1)]) hx hb dX12_drawsHour_45 hl (by decide) rfl (fun ls hl => ?_)
          refine lv_aload_n hx hb dX12_drawsHour_47 rfl (lv_at hl 3 rfl) ?_
          refine lv_iload_n hx hb dX12_drawsHour_48 rfl (lv_at hl 4 rfl) ?_
          refine lv_iload_n hx hb dX12_drawsHour_49 rfl (lv_at hl 2 rfl) ?_
          have hFc := va_free (wc := [(a_said, .inl (cs 0, 123, .inl k2_C_a_said)), (a_sign, .inl (cs 0, 2400, .inl a_sign_c)), (a_clause, .inl (cs 0, 360, .inl a_clause_c)), (a_clauses, .inl (cs 0, 6, .inl a_clauses_c)), (a, .inr (12, [.ref a_tape, .int a__taped, .int a__rules, .ref a_sign, .ref a_length, .ref a_clause, .ref a_clauses, .ref a_read, .int a__next, .int a__wrong, .int a__number, .int a__text, .int a__made, .int a__deep, .int a__lines, .ref a_open, .int a__opened, .ref a_stack, .int k2_F_a_18, .ref a_word, .ref a_said, .int a__x, .ref a_worth, .ref a_mate, .ref a_wasSaid, .int a__undone, .int k2_F_a_26, .ref a_wayBy, .ref a_wayThen, .int a__walkMost, .int a__walkGoing, .int a__walkSet, .ref a_kept, .long o80, .ref a_images, .ref a_imageX, .ref a_isMade])), (a_word, .inl (cs 3, 13, .inr (.inl k2_C_a_word))), (a_stack, .inl (cs 3, 64, .inr (.inl k2_C_a_stack)))]) hD hS hA [0,1,2,3,6,4,5] rfl
          refine va_callv (va_runV (As := [.int p0, .int k2_L_3]) (rest := []) ⟨hx, hb, hml, hown, hT⟩ (c_X12_buysAll l D cs kK kV a p0 k2_L_3 a_said k2_C_a_said a_sign a_sign_c a_clause a_clause_c a_clauses a_clauses_c a_tape a__taped a__rules a_length a_read a__next a__wrong a__number a__text a__made a__deep a__lines a_open a__opened a_stack k2_F_a_18 a_word a__x a_worth a_mate a_wasSaid a__undone k2_F_a_26 a_wayBy a_wayThen a__walkMost a__walkGoing a__walkSet a_kept o80 a_images a_imageX a_isMade k2_C_a_word k2_C_a_stack h_p0 h13 h_a__taped h_a__rules h_a__next h_a__text h_a__made h_a__lines h_a__opened q2_9 h_a__x h_a__undone x2_0 x2_1 hf2 hf3 ((by omega)) H.size) (cwV 2 hT (hz_gV q_1227 q_1228 q_1229 q_701 q_1230) rfl rfl rfl (by decide +kernel) ⟨(Nat.le_of_ble_eq_true rfl), (Nat.le_of_ble_eq_true rfl)⟩) ⟨hz_C.blind, va_recv hK hP (ci := 12) (q0 := 6) rfl rfl, hz_C.mk (hP.sub (ws' := [(a_said, .inl (cs 0, 123, .inl k2_C_a_said)), (a_sign, .inl (cs 0, 2400, .inl a_sign_c)), (a_clause, .inl (cs 0, 360, .inl a_clause_c)), (a_clauses, .inl (cs 0, 6, .inl a_clauses_c)), (a, .inr (12, [.ref a_tape, .int a__taped, .int a__rules, .ref a_sign, .ref a_length, .ref a_clause, .ref a_clauses, .ref a_read, .int a__next, .int a__wrong, .int a__number, .int a__text, .int a__made, .int a__deep, .int a__lines, .ref a_open, .int a__opened, .ref a_stack, .int k2_F_a_18, .ref a_word, .ref a_said, .int a__x, .ref a_worth, .ref a_mate, .ref a_wasSaid, .int a__undone, .int k2_F_a_26, .ref a_wayBy, .ref a_wayThen, .int a__walkMost, .int a__walkGoing, .int a__walkSet, .ref a_kept, .long o80, .ref a_images, .ref a_imageX, .ref a_isMade])), (a_word, .inl (cs 3, 13, .inr (.inl k2_C_a_word))), (a_stack, .inl (cs 3, 64, .inr (.inl k2_C_a_stack)))]) [0,1,2,3,6,4,5] rfl) (hD.sub (ws' := [(a_said, .inl (cs 0, 123, .inl k2_C_a_said)), (a_sign, .inl (cs 0, 2400, .inl a_sign_c)), (a_clause, .inl (cs 0, 360, .inl a_clause_c)), (a_clauses, .inl (cs 0, 6, .inl a_clauses_c)), (a, .inr (12, [.ref a_tape, .int a__taped, .int a__rules, .ref a_sign, .ref a_length, .ref a_clause, .ref a_clauses, .ref a_read, .int a__next, .int a__wrong, .int a__number, .int a__text, .int a__made, .int a__deep, .int a__lines, .ref a_open, .int a__opened, .ref a_stack, .int k2_F_a_18, .ref a_word, .ref a_said, .int a__x, .ref a_worth, .ref a_mate, .ref a_wasSaid, .int a__undone, .int k2_F_a_26, .ref a_wayBy, .ref a_wayThen, .int a__walkMost, .int a__walkGoing, .int a__walkSet, .ref a_kept, .long o80, .ref a_images, .ref a_imageX, .ref a_isMade])), (a_word, .inl (cs 3, 13, .inr (.inl k2_C_a_word))), (a_stack, .inl (cs 3, 64, .inr (.inl k2_C_a_stack)))]) [0,1,2,3,6,4,5] (by decide) rfl) hE hS hFc⟩ rfl rfl hl.1 rfl (lv_room (Nat.le_of_ble_eq_true rfl)) dX12_drawsHour_50 ⟨(Nat.le_of_ble_eq_true rfl), (Nat.le_of_ble_eq_true rfl)⟩) hS (fun q _ h => hFc q h) hFc (fun o88 t H1 locs ht hvm hw hB hz1 hk1 hS => ?_)
          obtain ⟨o89, o90, hP1, hD1⟩ := hB
          rw [ht] at hP1
          obtain ⟨hP, hD⟩ := va_join (wr := []) (w1 := [(a_said, .inl (cs 0, 123, .inl (o88.2 0))), (a_sign, .inl (cs 0, 2400, .inl a_sign_c)), (a_clause, .inl (cs 0, 360, .inl a_clause_c)), (a_clauses, .inl (cs 0, 6, .inl a_clauses_c)), (a, .inr (12, [.ref a_tape, .int a__taped, .int a__rules, .ref a_sign, .ref a_length, .ref a_clause, .ref a_clauses, .ref a_read, .int a__next, .int a__wrong, .int a__number, .int a__text, .int a__made, .int a__deep, .int a__lines, .ref a_open, .int a__opened, .ref a_stack, .int (o88.1 1), .ref a_word, .ref a_said, .int a__x, .ref a_worth, .ref a_mate, .ref a_wasSaid, .int a__undone, .int (o88.1 2), .ref a_wayBy, .ref a_wayThen, .int a__walkMost, .int a__walkGoing, .int a__walkSet, .ref a_kept, .long o80, .ref a_images, .ref a_imageX, .ref a_isMade])), (a_word, .inl (cs 3, 13, .inr (.inl o90))), (a_stack, .inl (cs 3, 64, .inr (.inl o89)))]) hP hD [0, 1, 2, 3, 6, 4, 5] [] rfl rfl (by decide) (by decide) hk1 hFc hP1 hD1
          generalize H1 = H at hP hS ⊢
          have hP : va_P D classes [(a_said, .inl (cs 0, 123, .inl (o88.2 0))), (a_sign, .inl (cs 0, 2400, .inl a_sign_c)), (a_clause, .inl (cs 0, 360, .inl a_clause_c)), (a_clauses, .inl (cs 0, 6, .inl a_clauses_c)), (a, .inr (12, [.ref a_tape, .int a__taped, .int a__rules, .ref a_sign, .ref a_length, .ref a_clause, .ref a_clauses, .ref a_read, .int a__next, .int a__wrong, .int a__number, .int a__text, .int a__made, .int a__deep, .int a__lines, .ref a_open, .int a__opened, .ref a_stack, .int (o88.1 1), .ref a_word, .ref a_said, .int a__x, .ref a_worth, .ref a_mate, .ref a_wasSaid, .int a__undone, .int (o88.1 2), .ref a_wayBy, .ref a_wayThen, .int a__walkMost, .int a__walkGoing, .int a__walkSet, .ref a_kept, .long o80, .ref a_images, .ref a_imageX, .ref a_isMade])), (a_word, .inl (cs 3, 13, .inr (.inl o90))), (a_stack, .inl (cs 3, 64, .inr (.inl o89)))] H := hP
          have hD : va_D A [(a_said, .inl (cs 0, 123, .inl (o88.2 0))), (a_sign, .inl (cs 0, 2400, .inl a_sign_c)), (a_clause, .inl (cs 0, 360, .inl a_clause_c)), (a_clauses, .inl (cs 0, 6, .inl a_clauses_c)), (a, .inr (12, [.ref a_tape, .int a__taped, .int a__rules, .ref a_sign, .ref a_length, .ref a_clause, .ref a_clauses, .ref a_read, .int a__next, .int a__wrong, .int a__number, .int a__text, .int a__made, .int a__deep, .int a__lines, .ref a_open, .int a__opened, .ref a_stack, .int (o88.1 1), .ref a_word, .ref a_said, .int a__x, .ref a_worth, .ref a_mate, .ref a_wasSaid, .int a__undone, .int (o88.1 2), .ref a_wayBy, .ref a_wayThen, .int a__walkMost, .int a__walkGoing, .int a__walkSet, .ref a_kept, .long o80, .ref a_images, .ref a_imageX, .ref a_isMade])), (a_word, .inl (cs 3, 13, .inr (.inl o90))), (a_stack, .inl (cs 3, 64, .inr (.inl o89)))] := hD
          clear hk1 hFc hP1 hD1 hz1
          rcases hw with ⟨h91, x92, x93, x94, x95, x96, x97⟩
          have ii98 : 0 ≤ (o88.1 1).toInt ∧ (o88.1 1).toInt ≤ 64 := h91
          refine lv_aload_n hx hb dX12_drawsHour_53 rfl (lv_at hl 3 rfl) ?_
          refine lv_iload_n hx hb dX12_drawsHour_54 rfl (lv_at hl 2 rfl) ?_
          refine lv_iload hx hb dX12_drawsHour_55 (lv_at hl 1 rfl) ?_
          refine lv_if_eq (tgt := 65) hx hb dX12_drawsHour_57 (by decide) (fun z => absurd z (by decide)) (fun _ => ?_)
          refine lv_iload hx hb dX12_drawsHour_60 (lv_at hl 0 rfl) ?_
          refine lv_goto (tgt := 71) hx hb dX12_drawsHour_62 (by decide) ?_
          have hFc := va_free (wc := [(a_said, .inl (cs 0, 123, .inl (o88.2 0))), (a, .inr (12, [.ref a_tape, .int a__taped, .int a__rules, .ref a_sign, .ref a_length, .ref a_clause, .ref a_clauses, .ref a_read, .int a__next, .int a__wrong, .int a__number, .int a__text, .int a__made, .int a__deep, .int a__lines, .ref a_open, .int a__opened, .ref a_stack, .int (o88.1 1), .ref a_word, .ref a_said, .int a__x, .ref a_worth, .ref a_mate, .ref a_wasSaid, .int a__undone, .int (o88.1 2), .ref a_wayBy, .ref a_wayThen, .int a__walkMost, .int a__walkGoing, .int a__walkSet, .ref a_kept, .long o80, .ref a_images, .ref a_imageX, .ref a_isMade]))]) hD hS hA [0,4] rfl
          refine va_callv (va_runV (As := [.int k2_L_3, .int v85]) (rest := []) ⟨hx, hb, hml, hown, hT⟩ (c_X12_goes l D cs kK kV a k2_L_3 v85 a_said (o88.2 0) a_tape a__taped a__rules a_sign a_length a_clause a_clauses a_read a__next a__wrong a__number a__text a__made a__deep a__lines a_open a__opened a_stack (o88.1 1) a_word a__x a_worth a_mate a_wasSaid a__undone (o88.1 2) a_wayBy a_wayThen a__walkMost a__walkGoing a__walkSet a_kept o80 a_images a_imageX a_isMade h13 hv85 h_a__taped h_a__rules h_a__next h_a__text h_a__made h_a__lines h_a__opened h91 h_a__x h_a__undone x92 x93 ((by omega)) H.size) (cwV 2 hT (hz_gV q_1172 q_1173 q_1174 q_701 q_1175) rfl rfl rfl (by decide +kernel) ⟨(Nat.le_of_ble_eq_true rfl), (Nat.le_of_ble_eq_true rfl)⟩) ⟨hz_C.blind, va_recv hK hP (ci := 12) (q0 := 4) rfl rfl, hz_C.mk (hP.sub (ws' := [(a_said, .inl (cs 0, 123, .inl (o88.2 0))), (a, .inr (12, [.ref a_tape, .int a__taped, .int a__rules, .ref a_sign, .ref a_length, .ref a_clause, .ref a_clauses, .ref a_read, .int a__next, .int a__wrong, .int a__number, .int a__text, .int a__made, .int a__deep, .int a__lines, .ref a_open, .int a__opened, .ref a_stack, .int (o88.1 1), .ref a_word, .ref a_said, .int a__x, .ref a_worth, .ref a_mate, .ref a_wasSaid, .int a__undone, .int (o88.1 2), .ref a_wayBy, .ref a_wayThen, .int a__walkMost, .int a__walkGoing, .int a__walkSet, .ref a_kept, .long o80, .ref a_images, .ref a_imageX, .ref a_isMade]))]) [0,4] rfl) (hD.sub (ws' := [(a_said, .inl (cs 0, 123, .inl (o88.2 0))), (a, .inr (12, [.ref a_tape, .int a__taped, .int a__rules, .ref a_sign, .ref a_length, .ref a_clause, .ref a_clauses, .ref a_read, .int a__next, .int a__wrong, .int a__number, .int a__text, .int a__made, .int a__deep, .int a__lines, .ref a_open, .int a__opened, .ref a_stack, .int (o88.1 1), .ref a_word, .ref a_said, .int a__x, .ref a_worth, .ref a_mate, .ref a_wasSaid, .int a__undone, .int (o88.1 2), .ref a_wayBy, .ref a_wayThen, .int a__walkMost, .int a__walkGoing, .int a__walkSet, .ref a_kept, .long o80, .ref a_images, .ref a_imageX, .ref a_isMade]))]) [0,4] (by decide) rfl) hE hS hFc⟩ rfl rfl hl.1 rfl (lv_room (Nat.le_of_ble_eq_true rfl)) dX12_drawsHour_71 ⟨(Nat.le_of_ble_eq_true rfl), (Nat.le_of_ble_eq_true rfl)⟩) hS (fun q _ h => hFc q h) hFc (fun o100 t H1 locs ht hvm hw hB hz1 hk1 hS => ?_)
          obtain ⟨hP1, hD1⟩ := hB
          rw [ht] at hP1
          obtain ⟨hP, hD⟩ := va_join (wr := [(a_sign, .inl (cs 0, 2400, .inl a_sign_c)), (a_clause, .inl (cs 0, 360, .inl a_clause_c)), (a_clauses, .inl (cs 0, 6, .inl a_clauses_c)), (a_word, .inl (cs 3, 13, .inr (.inl o90))), (a_stack, .inl (cs 3, 64, .inr (.inl o89)))]) (w1 := [(a_said, .inl (cs 0, 123, .inl (o100.2 0))), (a, .inr (12, [.ref a_tape, .int a__taped, .int a__rules, .ref a_sign, .ref a_length, .ref a_clause, .ref a_clauses, .ref a_read, .int a__next, .int a__wrong, .int a__number, .int a__text, .int a__made, .int a__deep, .int a__lines, .ref a_open, .int a__opened, .ref a_stack, .int (o88.1 1), .ref a_word, .ref a_said, .int a__x, .ref a_worth, .ref a_mate, .ref a_wasSaid, .int a__undone, .int (o88.1 2), .ref a_wayBy, .ref a_wayThen, .int a__walkMost, .int a__walkGoing, .int a__walkSet, .ref a_kept, .long o80, .ref a_images, .ref a_imageX, .ref a_isMade]))]) hP hD [0, 4] [1, 2, 3, 5, 6] rfl rfl (by decide) (by decide) hk1 hFc hP1 hD1
          generalize H1 = H at hP hS ⊢
          have hP : va_P D classes [(a_sign, .inl (cs 0, 2400, .inl a_sign_c)), (a_clause, .inl (cs 0, 360, .inl a_clause_c)), (a_clauses, .inl (cs 0, 6, .inl a_clauses_c)), (a_word, .inl (cs 3, 13, .inr (.inl o90))), (a_stack, .inl (cs 3, 64, .inr (.inl o89))), (a_said, .inl (cs 0, 123, .inl (o100.2 0))), (a, .inr (12, [.ref a_tape, .int a__taped, .int a__rules, .ref a_sign, .ref a_length, .ref a_clause, .ref a_clauses, .ref a_read, .int a__next, .int a__wrong, .int a__number, .int a__text, .int a__made, .int a__deep, .int a__lines, .ref a_open, .int a__opened, .ref a_stack, .int (o88.1 1), .ref a_word, .ref a_said, .int a__x, .ref a_worth, .ref a_mate, .ref a_wasSaid, .int a__undone, .int (o88.1 2), .ref a_wayBy, .ref a_wayThen, .int a__walkMost, .int a__walkGoing, .int a__walkSet, .ref a_kept, .long o80, .ref a_images, .ref a_imageX, .ref a_isMade]))] H := hP
          have hD : va_D A [(a_sign, .inl (cs 0, 2400, .inl a_sign_c)), (a_clause, .inl (cs 0, 360, .inl a_clause_c)), (a_clauses, .inl (cs 0, 6, .inl a_clauses_c)), (a_word, .inl (cs 3, 13, .inr (.inl o90))), (a_stack, .inl (cs 3, 64, .inr (.inl o89))), (a_said, .inl (cs 0, 123, .inl (o100.2 0))), (a, .inr (12, [.ref a_tape, .int a__taped, .int a__rules, .ref a_sign, .ref a_length, .ref a_clause, .ref a_clauses, .ref a_read, .int a__next, .int a__wrong, .int a__number, .int a__text, .int a__made, .int a__deep, .int a__lines, .ref a_open, .int a__opened, .ref a_stack, .int (o88.1 1), .ref a_word, .ref a_said, .int a__x, .ref a_worth, .ref a_mate, .ref a_wasSaid, .int a__undone, .int (o88.1 2), .ref a_wayBy, .ref a_wayThen, .int a__walkMost, .int a__walkGoing, .int a__walkSet, .ref a_kept, .long o80, .ref a_images, .ref a_imageX, .ref a_isMade]))] := hD
          clear hk1 hFc hP1 hD1 hz1
          rcases hw with ⟨x101, x102, x103, x104, x105, x106⟩
          obtain ⟨v107, ev107⟩ : ∃ z : Int32, z = k2_L_3 + 1 := ⟨_, rfl⟩
          have hv107 : IV 1 4 v107 := iv_add ev107 h13 (iv_c (a := 1) (b := 1) (by decide)) (by decide) (by decide)
          have dv107 : v107.toInt = k2_L_3.toInt + 1 := iv_addE ev107 h13 (iv_c (a := 1) (b := 1) (by decide)) (by decide) (by decide) (by decide)
          refine lv_iinc (v := v107) (lv' := [(3, .int v107), (5, .int v85), (4, .int 1), (0, .ref a), (1, .int p0), (2, .int p1)]) hx hb dX12_drawsHour_74 hl (k := 2) rfl (by rw [ev107]; rfl) (by decide) rfl (fun ls hl => ?_)
          refine lv_goto (tgt := 2) hx hb dX12_drawsHour_77 (by decide) ?_
          exact ih2 v107 (o100.2 0) (o88.1 1) (o88.1 2) o80 o90 o89 (by have h9 := hn; omega) h91 (iv_w hv107 (by decide) (by decide)) x101 x102 (by omega) h81 (by omega) (by omega) (by omega) H locs (hP.sub (ws' := [(a_said, .inl (cs 0, 123, .inl (o100.2 0))), (a_sign, .inl (cs 0, 2400, .inl a_sign_c)), (a_clause, .inl (cs 0, 360, .inl a_clause_c)), (a_clauses, .inl (cs 0, 6, .inl a_clauses_c)), (a, .inr (12, [.ref a_tape, .int a__taped, .int a__rules, .ref a_sign, .ref a_length, .ref a_clause, .ref a_clauses, .ref a_read, .int a__next, .int a__wrong, .int a__number, .int a__text, .int a__made, .int a__deep, .int a__lines, .ref a_open, .int a__opened, .ref a_stack, .int (o88.1 1), .ref a_word, .ref a_said, .int a__x, .ref a_worth, .ref a_mate, .ref a_wasSaid, .int a__undone, .int (o88.1 2), .ref a_wayBy, .ref a_wayThen, .int a__walkMost, .int a__walkGoing, .int a__walkSet, .ref a_kept, .long o80, .ref a_images, .ref a_imageX, .ref a_isMade])), (a_word, .inl (cs 3, 13, .inr (.inl o90))), (a_stack, .inl (cs 3, 64, .inr (.inl o89)))]) [5, 0, 1, 2, 6, 3, 4] rfl) (hD.sub (ws' := [(a_said, .inl (cs 0, 123, .inl (o100.2 0))), (a_sign, .inl (cs 0, 2400, .inl a_sign_c)), (a_clause, .inl (cs 0, 360, .inl a_clause_c)), (a_clauses, .inl (cs 0, 6, .inl a_clauses_c)), (a, .inr (12, [.ref a_tape, .int a__taped, .int a__rules, .ref a_sign, .ref a_length, .ref a_clause, .ref a_clauses, .ref a_read, .int a__next, .int a__wrong, .int a__number, .int a__text, .int a__made, .int a__deep, .int a__lines, .ref a_open, .int a__opened, .ref a_stack, .int (o88.1 1), .ref a_word, .ref a_said, .int a__x, .ref a_worth, .ref a_mate, .ref a_wasSaid, .int a__undone, .int (o88.1 2), .ref a_wayBy, .ref a_wayThen, .int a__walkMost, .int a__walkGoing, .int a__walkSet, .ref a_kept, .long o80, .ref a_images, .ref a_imageX, .ref a_isMade])), (a_word, .inl (cs 3, 13, .inr (.inl o90))), (a_stack, .inl (cs 3, 64, .inr (.inl o89)))]) [5, 0, 1, 2, 6, 3, 4] (by decide) rfl) hS ls (lv_sub hl [0, 3, 4, 5] rfl)
  refine lv_iconst (v := 0) hx hb dX12_drawsHour_0 (by decide) ?_
  refine lv_istore_n (lv' := [(3, .int 0), (0, .ref a), (1, .int p0), (2, .int p1)]) hx hb dX12_drawsHour_1 rfl hl (by decide) rfl (fun ls hl => ?_)
  exact K2 _ ((0 : Int32)) a_said_c a__top a__boughtNow a__drawX a_word_c a_stack_c (Nat.le_refl _) h_a__top (iv_c (by decide)) hf0 hf1 (by omega) hf5 (by omega) (by omega) (by omega) H locs (hP.sub (ws' := [(a_said, .inl (cs 0, 123, .inl a_said_c)), (a_sign, .inl (cs 0, 2400, .inl a_sign_c)), (a_clause, .inl (cs 0, 360, .inl a_clause_c)), (a_clauses, .inl (cs 0, 6, .inl a_clauses_c)), (a, .inr (12, [.ref a_tape, .int a__taped, .int a__rules, .ref a_sign, .ref a_length, .ref a_clause, .ref a_clauses, .ref a_read, .int a__next, .int a__wrong, .int a__number, .int a__text, .int a__made, .int a__deep, .int a__lines, .ref a_open, .int a__opened, .ref a_stack, .int a__top, .ref a_word, .ref a_said, .int a__x, .ref a_worth, .ref a_mate, .ref a_wasSaid, .int a__undone, .int a__boughtNow, .ref a_wayBy, .ref a_wayThen, .int a__walkMost, .int a__walkGoing, .int a__walkSet, .ref a_kept, .long a__drawX, .ref a_images, .ref a_imageX, .ref a_isMade])), (a_word, .inl (cs 3, 13, .inr (.inl a_word_c))), (a_stack, .inl (cs 3, 64, .inr (.inl a_stack_c)))]) [0, 1, 2, 3, 4, 5, 6] rfl) (hD.sub (ws' := [(a_said, .inl (cs 0, 123, .inl a_said_c)), (a_sign, .inl (cs 0, 2400, .inl a_sign_c)), (a_clause, .inl (cs 0, 360, .inl a_clause_c)), (a_clauses, .inl (cs 0, 6, .inl a_clauses_c)), (a, .inr (12, [.ref a_tape, .int a__taped, .int a__rules, .ref a_sign, .ref a_length, .ref a_clause, .ref a_clauses, .ref a_read, .int a__next, .int a__wrong, .int a__number, .int a__text, .int a__made, .int a__deep, .int a__lines, .ref a_open, .int a__opened, .ref a_stack, .int a__top, .ref a_word, .ref a_said, .int a__x, .ref a_worth, .ref a_mate, .ref a_wasSaid, .int a__undone, .int a__boughtNow, .ref a_wayBy, .ref a_wayThen, .int a__walkMost, .int a__walkGoing, .int a__walkSet, .ref a_kept, .long a__drawX, .ref a_images, .ref a_imageX, .ref a_isMade])), (a_word, .inl (cs 3, 13, .inr (.inl a_word_c))), (a_stack, .inl (cs 3, 64, .inr (.inl a_stack_c)))]) [0, 1, 2, 3, 4, 5, 6] (by decide) rfl) hS ls (lv_sub hl [0, 1, 2, 3] rfl)
