set_option maxHeartbeats 4000000 in
set_option maxRecDepth 100000 in
theorem c_X12_fitting_S (l : Launch) (D : va_G) (cs : Nat → ClassId) (kK kV : Nat → Nat) (a : Nat) (p0 : Int32) (p1 : Int32) (p2 : Int32) (a_said : Nat) (a_said_c : Nat → Int32) (a_tape : Nat) (a__taped : Int32) (a__rules : Int32) (a_sign : Nat) (a_length : Nat) (a_clause : Nat) (a_clauses : Nat) (a_read : Nat) (a__next : Int32) (a__wrong : Int32) (a__number : Int32) (a__text : Int32) (a__made : Int32) (a__deep : Int32) (a__lines : Int32) (a_open : Nat) (a__opened : Int32) (a_stack : Nat) (a__top : Int32) (a_word : Nat) (a__x : Int32) (a_worth : Nat) (a_mate : Nat) (a_wasSaid : Nat) (a__undone : Int32) (a__boughtNow : Int32) (a_wayBy : Nat) (a_wayThen : Nat) (a__walkMost : Int32) (a__walkGoing : Int32) (a__walkSet : Int32) (a_kept : Nat) (a__drawX : Int64) (a_images : Nat) (a_imageX : Nat) (a_isMade : Nat) (h_p1 : IV 0 11 p1) (h_a__taped : IV 0 400 a__taped) (h_a__rules : IV 0 6 a__rules) (h_a__next : IV 0 400 a__next) (h_a__text : IV 0 6 a__text) (h_a__made : IV 0 60 a__made) (h_a__lines : IV 0 40 a__lines) (h_a__opened : IV 0 400 a__opened) (h_a__top : IV 0 64 a__top) (h_a__x : IV 0 2147483647 a__x) (h_a__undone : IV 0 20 a__undone) (hf0 : BS a_said_c 200) : Met l yX12_fitting (hz_w yX12_fitting cX12_fitting 6 (some .int)) ({ frames := 3, cells := 0, slots := 0, locals := 67 }) (va_Pc [.ref a, .int p0, .int p1, .int p2] (hz_P D cs kK kV [(a_said, .inl (cs 0, 123, .inl a_said_c)), (a, .inr (12, [.ref a_tape, .int a__taped, .int a__rules, .ref a_sign, .ref a_length, .ref a_clause, .ref a_clauses, .ref a_read, .int a__next, .int a__wrong, .int a__number, .int a__text, .int a__made, .int a__deep, .int a__lines, .ref a_open, .int a__opened, .ref a_stack, .int a__top, .ref a_word, .ref a_said, .int a__x, .ref a_worth, .ref a_mate, .ref a_wasSaid, .int a__undone, .int a__boughtNow, .ref a_wayBy, .ref a_wayThen, .int a__walkMost, .int a__walkGoing, .int a__walkSet, .ref a_kept, .long a__drawX, .ref a_images, .ref a_imageX, .ref a_isMade]))])) (va_Qi (fun (r : Int32) (_ : Unit) => IV 0 12 r) (fun _ t => True) (fun _ => False)) 0 0 (fun _ => False) := by
  refine Met.ofW (cc := cX12_fitting) (maxL := 6) (ret := (some .int)) (by decide) rfl ?_
  intro p e s m args below meth c s₁ B hml hv
  obtain ⟨rfl, hP, hE⟩ := hv
  have hx := B.exec
  have hb := B.bytes
  have hr := B.returns
  have hT : ∀ w ∈ TB, w.before _ s = true := fun w h => atoms_spec (ws := hz_w yX12_fitting cX12_fitting 6 (some .int)) B.pre w (List.mem_cons_of_mem _ h)
  have hown : s.vm.findClass RX12 = some m.cls := findClass_of_methodNamed B.named
  have hlocks := B.notSynchronized
  clear B
  have hS : va_S (fun _ => False) s.heap s.heap [] := va_S.rf
  have hK := hE.1
  have hl := lv_entry ([.ref a, .int p0, .int p1, .int p2]) (n := 6) (Nat.le_of_ble_eq_true rfl)
  rw [lg_entry_eq]
  generalize (lg_sl ([.ref a, .int p0, .int p1, .int p2]) ++ List.replicate (6 - (lg_sl ([.ref a, .int p0, .int p1, .int p2])).length) Slot.unset).toArray = ls at hl ⊢
  have hl : lv_has ls 6 [(0, .ref a), (1, .int p0), (2, .int p1), (3, .int p2)] := hl
  obtain ⟨H, eH⟩ : ∃ z, z = s.heap := ⟨_, rfl⟩
  have hP : va_P D classes [(a_said, .inl (cs 0, 123, .inl a_said_c)), (a, .inr (12, [.ref a_tape, .int a__taped, .int a__rules, .ref a_sign, .ref a_length, .ref a_clause, .ref a_clauses, .ref a_read, .int a__next, .int a__wrong, .int a__number, .int a__text, .int a__made, .int a__deep, .int a__lines, .ref a_open, .int a__opened, .ref a_stack, .int a__top, .ref a_word, .ref a_said, .int a__x, .ref a_worth, .ref a_mate, .ref a_wasSaid, .int a__undone, .int a__boughtNow, .ref a_wayBy, .ref a_wayThen, .int a__walkMost, .int a__walkGoing, .int a__walkSet, .ref a_kept, .long a__drawX, .ref a_images, .ref a_imageX, .ref a_isMade]))] H := by rw [eH]; exact hP
  have hS : va_S (fun _ => False) s.heap H [] := by rw [eH]; exact hS
  rw [← eH]
  clear eH
  obtain ⟨locs, el⟩ : ∃ z : List Loc, z = [] := ⟨_, rfl⟩
  rw [← el] at hS ⊢
  clear el
  have z0 : (0 : Int32).toInt = 0 := by decide
  have z1 : (1 : Int32).toInt = 1 := by decide
  have zm1 : (-1 : Int32).toInt = -1 := by decide
  have i_a__lines : 0 ≤ a__lines.toInt ∧ a__lines.toInt ≤ 40 := h_a__lines
  have i_a__made : 0 ≤ a__made.toInt ∧ a__made.toInt ≤ 60 := h_a__made
  have i_a__next : 0 ≤ a__next.toInt ∧ a__next.toInt ≤ 400 := h_a__next
  have i_a__opened : 0 ≤ a__opened.toInt ∧ a__opened.toInt ≤ 400 := h_a__opened
  have i_a__rules : 0 ≤ a__rules.toInt ∧ a__rules.toInt ≤ 6 := h_a__rules
  have i_a__taped : 0 ≤ a__taped.toInt ∧ a__taped.toInt ≤ 400 := h_a__taped
  have i_a__text : 0 ≤ a__text.toInt ∧ a__text.toInt ≤ 6 := h_a__text
  have i_a__top : 0 ≤ a__top.toInt ∧ a__top.toInt ≤ 64 := h_a__top
  have i_a__undone : 0 ≤ a__undone.toInt ∧ a__undone.toInt ≤ 20 := h_a__undone
  have i_a__x : 0 ≤ a__x.toInt ∧ a__x.toInt ≤ 2147483647 := h_a__x
  have i_p1 : 0 ≤ p1.toInt ∧ p1.toInt ≤ 11 := h_p1
  have K6 : ∀ (n : Nat) (k6_L_5 : Int32) (k6_L_4 : Int32), (12 - k6_L_5.toInt + 1).toNat ≤ n → IV 0 12 k6_L_4 → IV 0 12 k6_L_5 → (k6_L_4.toInt ≤ k6_L_5.toInt) → ∀ (H : Heap) (locs : List Loc), va_P D classes [(a_said, .inl (cs 0, 123, .inl a_said_c)), (a, .inr (12, [.ref a_tape, .int a__taped, .int a__rules, .ref a_sign, .ref a_length, .ref a_clause, .ref a_clauses, .ref a_read, .int a__next, .int a__wrong, .int a__number, .int a__text, .int a__made, .int a__deep, .int a__lines, .ref a_open, .int a__opened, .ref a_stack, .int a__top, .ref a_word, .ref a_said, .int a__x, .ref a_worth, .ref a_mate, .ref a_wasSaid, .int a__undone, .int a__boughtNow, .ref a_wayBy, .ref a_wayThen, .int a__walkMost, .int a__walkGoing, .int a__walkSet, .ref a_kept, .long a__drawX, .ref a_images, .ref a_imageX, .ref a_isMade]))] H → va_S (fun _ => False) s.heap H locs → ∀ ls : Array Slot, lv_has ls 6 [(5, .int k6_L_5), (4, .int k6_L_4), (0, .ref a), (1, .int p0), (2, .int p1), (3, .int p2)] → W p l e (headSpec (hz_w yX12_fitting cX12_fitting 6 (some .int)) ({ frames := 3, cells := 0, slots := 0, locals := 67 })).room s m [.ref a, .int p0, .int p1, .int p2].toArray below meth c H locs 0 0 (MQ below (va_Qi (fun (r : Int32) (_ : Unit) => IV 0 12 r) (fun _ t => True) (fun _ => False)) [.ref a, .int p0, .int p1, .int p2].toArray s 0 0 (fun _ => False)) (F0 m 6 ls []) := by
    intro n
    induction n with
    | zero =>
      intro k6_L_5 k6_L_4 hn q6_10 q6_11 x6_0 H locs hP hS ls hl
      exact absurd hn (by unfold IV at q6_11; omega)
    | succ n ih6 =>
      intro k6_L_5 k6_L_4 hn q6_10 q6_11 x6_0 H locs hP hS ls hl
      have i_a__lines : 0 ≤ a__lines.toInt ∧ a__lines.toInt ≤ 40 := h_a__lines
      have i_a__made : 0 ≤ a__made.toInt ∧ a__made.toInt ≤ 60 := h_a__made
      have i_a__next : 0 ≤ a__next.toInt ∧ a__next.toInt ≤ 400 := h_a__next
      have i_a__opened : 0 ≤ a__opened.toInt ∧ a__opened.toInt ≤ 400 := h_a__opened
      have i_a__rules : 0 ≤ a__rules.toInt ∧ a__rules.toInt ≤ 6 := h_a__rules
      have i_a__taped : 0 ≤ a__taped.toInt ∧ a__taped.toInt ≤ 400 := h_a__taped
      have i_a__text : 0 ≤ a__text.toInt ∧ a__text.toInt ≤ 6 := h_a__text
      have i_a__top : 0 ≤ a__top.toInt ∧ a__top.toInt ≤ 64 := h_a__top
      have i_a__undone : 0 ≤ a__undone.toInt ∧ a__undone.toInt ≤ 20 := h_a__undone
      have i_a__x : 0 ≤ a__x.toInt ∧ a__x.toInt ≤ 2147483647 := h_a__x
      have i_k6_L_4 : 0 ≤ k6_L_4.toInt ∧ k6_L_4.toInt ≤ 12 := q6_10
      have i_k6_L_5 : 0 ≤ k6_L_5.toInt ∧ k6_L_5.toInt ≤ 12 := q6_11
      have i_p1 : 0 ≤ p1.toInt ∧ p1.toInt ≤ 11 := h_p1
      refine lv_iload hx hb dX12_fitting_6 (lv_at hl 0 rfl) ?_
      refine lv_aload_n hx hb dX12_fitting_8 rfl (lv_at hl 2 rfl) ?_
      refine va_get (D := D) (ci := 12) (v := .ref a_said) (C := RX12) (T := TX12) (N := 37) hx hb hT i_X12 hown hK hP 1 rfl rfl 20 (by decide) (hT _ q_185) (fun _ h9 => h9) rfl dX12_fitting_9 ?_
      refine lv_iconst (v := 1) hx hb dX12_fitting_12 (by decide) ?_
      refine va_iald hx hb hK hP 0 0 rfl rfl (iv_vc (by decide)) dX12_fitting_13 ?_
      refine lv_topi (fun v1 ev1 => ?_)
      have h2 : IV 0 12 v1 := (by rw [ev1]; exact bs_i1 hf0)
      have ii3 : 0 ≤ v1.toInt ∧ v1.toInt ≤ 12 := h2
      have lv1 : v1.toInt = (a_said_c 1).toInt := by rw [ev1]; rfl
      refine lv_icmp_ge (tgt := 59) hx hb dX12_fitting_14 (by decide) (fun c4 => ?_) (fun c4 => ?_)
      · have t5 : k6_L_5.toInt ≥ v1.toInt := lin_ge c4 rfl rfl
        refine lv_iload hx hb dX12_fitting_59 (lv_at hl 1 rfl) ?_
        exact W.iret (v := k6_L_4) hx hb hr (fun t ht hW => ⟨⟨k6_L_4, (), rfl, q6_10, trivial⟩, hS.F ht⟩) hS.2.2 dX12_fitting_61
      · have t6 : k6_L_5.toInt < v1.toInt := lin_geN c4 rfl rfl
        have h7 : IV 0 11 k6_L_5 := iv_lt1 (Int32.not_le.mp c4) q6_11 h2 (by decide)
        have ii8 : 0 ≤ k6_L_5.toInt ∧ k6_L_5.toInt ≤ 11 := h7
        have h9 : IV 1 12 v1 := iv_lt2 (Int32.not_le.mp c4) q6_11 h2 (by decide)
        have ii10 : 1 ≤ v1.toInt ∧ v1.toInt ≤ 12 := h9
        refine lv_iload hx hb dX12_fitting_17 (lv_at hl 1 rfl) ?_
        refine lv_iload hx hb dX12_fitting_19 (lv_at hl 0 rfl) ?_
        refine lv_iload_n hx hb dX12_fitting_21 rfl (lv_at hl 4 rfl) ?_
        refine lv_icmp_eq (tgt := 49) hx hb dX12_fitting_22 (by decide) (fun c11 => ?_) (fun c11 => ?_)
        · have t12 : k6_L_5.toInt = p1.toInt := lin_eq c11 rfl rfl
          refine lv_iconst (v := 0) hx hb dX12_fitting_49 (by decide) ?_
          refine lv_iadd hx hb dX12_fitting_50 ?_
          refine lv_topi (fun v13 ev13 => ?_)
          have hv13 : IV 0 12 v13 := iv_add ev13 q6_10 (iv_c (a := 0) (b := 0) (by decide)) (by decide) (by decide)
          have ii14 : 0 ≤ v13.toInt ∧ v13.toInt ≤ 12 := hv13
          have dv13 : v13.toInt = k6_L_4.toInt + 0 := iv_addE ev13 q6_10 (iv_c (a := 0) (b := 0) (by decide)) (by decide) (by decide) (by decide)
          have lv13 : v13.toInt = k6_L_4.toInt + 0 := lin_add ev13 q6_10 (iv_c (a := 0) (b := 0) (by decide)) rfl (by decide) (by decide) (by decide)
          refine lv_istore (lv' := [(4, .int v13), (5, .int k6_L_5), (0, .ref a), (1, .int p0), (2, .int p1), (3, .int p2)]) hx hb dX12_fitting_51 hl (by decide) rfl (fun ls hl => ?_)
          obtain ⟨v15, ev15⟩ : ∃ z : Int32, z = k6_L_5 + 1 := ⟨_, rfl⟩
          have hv15 : IV 1 12 v15 := iv_add ev15 h7 (iv_c (a := 1) (b := 1) (by decide)) (by decide) (by decide)
          have dv15 : v15.toInt = k6_L_5.toInt + 1 := iv_addE ev15 h7 (iv_c (a := 1) (b := 1) (by decide)) (by decide) (by decide) (by decide)
          refine lv_iinc (v := v15) (lv' := [(5, .int v15), (4, .int v13), (0, .ref a), (1, .int p0), (2, .int p1), (3, .int p2)]) hx hb dX12_fitting_53 hl (k := 1) rfl (by rw [ev15]; rfl) (by decide) rfl (fun ls hl => ?_)
          refine lv_goto (tgt := 6) hx hb dX12_fitting_56 (by decide) ?_
          exact ih6 v15 v13 (by have h9 := h7; unfold IV at h9; have := dv15; omega) hv13 (iv_w hv15 (by decide) (by decide)) (by omega) H locs (hP.sub (ws' := [(a_said, .inl (cs 0, 123, .inl a_said_c)), (a, .inr (12, [.ref a_tape, .int a__taped, .int a__rules, .ref a_sign, .ref a_length, .ref a_clause, .ref a_clauses, .ref a_read, .int a__next, .int a__wrong, .int a__number, .int a__text, .int a__made, .int a__deep, .int a__lines, .ref a_open, .int a__opened, .ref a_stack, .int a__top, .ref a_word, .ref a_said, .int a__x, .ref a_worth, .ref a_mate, .ref a_wasSaid, .int a__undone, .int a__boughtNow, .ref a_wayBy, .ref a_wayThen, .int a__walkMost, .int a__walkGoing, .int a__walkSet, .ref a_kept, .long a__drawX, .ref a_images, .ref a_imageX, .ref a_isMade]))]) [0, 1] rfl) hS ls (lv_sub hl [0, 1, 2, 3, 4, 5] rfl)
        · have t16 : k6_L_5.toInt ≠ p1.toInt := lin_ne c11 rfl rfl
          refine lv_iload_n hx hb dX12_fitting_25 rfl (lv_at hl 3 rfl) ?_
          refine lv_iload hx hb dX12_fitting_26 (lv_at hl 0 rfl) ?_
          refine va_calli (va_runS (As := [.int p0, .int k6_L_5]) (rest := [.int k6_L_4]) ⟨hx, hb, hml, hown, hT⟩ (c_X12_isOf l D cs kK kV p0 k6_L_5) (va_cwS 2 hT (hz_gS q_1034 q_1035 q_701 q_1036) rfl rfl rfl (by decide +kernel) ⟨(Nat.le_of_ble_eq_true rfl), (Nat.le_of_ble_eq_true rfl)⟩) ⟨hz_P.blind, hz_P.mk (hP.sub (ws' := []) [] rfl) hE hS⟩ rfl rfl hl.1 rfl (lv_room (Nat.le_of_ble_eq_true rfl)) dX12_fitting_28 ⟨(Nat.le_of_ble_eq_true rfl), (Nat.le_of_ble_eq_true rfl)⟩) hS (fun _ _ h => h.elim) (fun _ h => h.elim) (fun r17 u t H1 locs ht hvm hw hB hz1 hk1 hS => ?_)
          have hP := hz_keep hP hk1
          clear hk1 hB hz1
          generalize H1 = H at hP hS ⊢
          rcases hw with ⟨rfl, x18⟩ | ⟨rfl, x19⟩
          · refine lv_if_eq (tgt := 49) hx hb dX12_fitting_31 (by decide) (fun _ => ?_) (fun z => absurd (by decide) z)
            refine lv_iconst (v := 0) hx hb dX12_fitting_49 (by decide) ?_
            refine lv_iadd hx hb dX12_fitting_50 ?_
            refine lv_topi (fun v20 ev20 => ?_)
            have hv20 : IV 0 12 v20 := iv_add ev20 q6_10 (iv_c (a := 0) (b := 0) (by decide)) (by decide) (by decide)
            have ii21 : 0 ≤ v20.toInt ∧ v20.toInt ≤ 12 := hv20
            have dv20 : v20.toInt = k6_L_4.toInt + 0 := iv_addE ev20 q6_10 (iv_c (a := 0) (b := 0) (by decide)) (by decide) (by decide) (by decide)
            have lv20 : v20.toInt = k6_L_4.toInt + 0 := lin_add ev20 q6_10 (iv_c (a := 0) (b := 0) (by decide)) rfl (by decide) (by decide) (by decide)
            refine lv_istore (lv' := [(4, .int v20), (5, .int k6_L_5), (0, .ref a), (1, .int p0), (2, .int p1), (3, .int p2)]) hx hb dX12_fitting_51 hl (by decide) rfl (fun ls hl => ?_)
            obtain ⟨v22, ev22⟩ : ∃ z : Int32, z = k6_L_5 + 1 := ⟨_, rfl⟩
            have hv22 : IV 1 12 v22 := iv_add ev22 h7 (iv_c (a := 1) (b := 1) (by decide)) (by decide) (by decide)
            have dv22 : v22.toInt = k6_L_5.toInt + 1 := iv_addE ev22 h7 (iv_c (a := 1) (b := 1) (by decide)) (by decide) (by decide) (by decide)
            refine lv_iinc (v := v22) (lv' := [(5, .int v22), (4, .int v20), (0, .ref a), (1, .int p0), (2, .int p1), (3, .int p2)]) hx hb dX12_fitting_53 hl (k := 1) rfl (by rw [ev22]; rfl) (by decide) rfl (fun ls hl => ?_)
            refine lv_goto (tgt := 6) hx hb dX12_fitting_56 (by decide) ?_
            exact ih6 v22 v20 (by have h9 := h7; unfold IV at h9; have := dv22; omega) hv20 (iv_w hv22 (by decide) (by decide)) (by omega) H locs (hP.sub (ws' := [(a_said, .inl (cs 0, 123, .inl a_said_c)), (a, .inr (12, [.ref a_tape, .int a__taped, .int a__rules, .ref a_sign, .ref a_length, .ref a_clause, .ref a_clauses, .ref a_read, .int a__next, .int a__wrong, .int a__number, .int a__text, .int a__made, .int a__deep, .int a__lines, .ref a_open, .int a__opened, .ref a_stack, .int a__top, .ref a_word, .ref a_said, .int a__x, .ref a_worth, .ref a_mate, .ref a_wasSaid, .int a__undone, .int a__boughtNow, .ref a_wayBy, .ref a_wayThen, .int a__walkMost, .int a__walkGoing, .int a__walkSet, .ref a_kept, .long a__drawX, .ref a_images, .ref a_imageX, .ref a_isMade]))]) [0, 1] rfl) hS ls (lv_sub hl [0, 1, 2, 3, 4, 5] rfl)
          · refine lv_if_eq (tgt := 49) hx hb dX12_fitting_31 (by decide) (fun z => absurd z (by decide)) (fun _ => ?_)
            refine lv_aload_n hx hb dX12_fitting_34 rfl (lv_at hl 2 rfl) ?_
            refine lv_iload hx hb dX12_fitting_35 (lv_at hl 0 rfl) ?_
            refine lv_iload_n hx hb dX12_fitting_37 rfl (lv_at hl 4 rfl) ?_
            refine va_calli (va_runV (As := [.int k6_L_5, .int p1]) (rest := [.int k6_L_4]) ⟨hx, hb, hml, hown, hT⟩ (c_X12_fitOf l D cs kK kV a k6_L_5 p1 a_tape a__taped a__rules a_sign a_length a_clause a_clauses a_read a__next a__wrong a__number a__text a__made a__deep a__lines a_open a__opened a_stack a__top a_word a_said a__x a_worth a_mate a_wasSaid a__undone a__boughtNow a_wayBy a_wayThen a__walkMost a__walkGoing a__walkSet a_kept a__drawX a_images a_imageX a_isMade a_said_c h7 h_p1 h_a__taped h_a__rules h_a__next h_a__text h_a__made h_a__lines h_a__opened h_a__top h_a__x h_a__undone) (cwV 2 hT (hz_gV q_1136 q_1137 q_1138 q_701 q_1139) rfl rfl rfl (by decide +kernel) ⟨(Nat.le_of_ble_eq_true rfl), (Nat.le_of_ble_eq_true rfl)⟩) ⟨hz_P.blind, va_recv hK hP (ci := 12) (q0 := 1) rfl rfl, hz_P.mk (hP.sub (ws' := [(a, .inr (12, [.ref a_tape, .int a__taped, .int a__rules, .ref a_sign, .ref a_length, .ref a_clause, .ref a_clauses, .ref a_read, .int a__next, .int a__wrong, .int a__number, .int a__text, .int a__made, .int a__deep, .int a__lines, .ref a_open, .int a__opened, .ref a_stack, .int a__top, .ref a_word, .ref a_said, .int a__x, .ref a_worth, .ref a_mate, .ref a_wasSaid, .int a__undone, .int a__boughtNow, .ref a_wayBy, .ref a_wayThen, .int a__walkMost, .int a__walkGoing, .int a__walkSet, .ref a_kept, .long a__drawX, .ref a_images, .ref a_imageX, .ref a_isMade])), (a_said, .inl (cs 0, 123, .inl a_said_c))]) [1,0] rfl) hE hS⟩ rfl rfl hl.1 rfl (lv_room (Nat.le_of_ble_eq_true rfl)) dX12_fitting_38 ⟨(Nat.le_of_ble_eq_true rfl), (Nat.le_of_ble_eq_true rfl)⟩) hS (fun _ _ h => h.elim) (fun _ h => h.elim) (fun r23 u t H1 locs ht hvm hw hB hz1 hk1 hS => ?_)
            have hP := hz_keep hP hk1
            clear hk1 hB hz1
            generalize H1 = H at hP hS ⊢
            rcases hw with rfl | rfl | rfl
            · refine lv_iload_n hx hb dX12_fitting_41 rfl (lv_at hl 5 rfl) ?_
              refine lv_icmp_ne (tgt := 49) hx hb dX12_fitting_42 (by decide) (fun c24 => ?_) (fun c24 => ?_)
              · have t25 : 0 ≠ p2.toInt := lin_ne c24 (by decide) rfl
                refine lv_iconst (v := 0) hx hb dX12_fitting_49 (by decide) ?_
                refine lv_iadd hx hb dX12_fitting_50 ?_
                refine lv_topi (fun v26 ev26 => ?_)
                have hv26 : IV 0 12 v26 := iv_add ev26 q6_10 (iv_c (a := 0) (b := 0) (by decide)) (by decide) (by decide)
                have ii27 : 0 ≤ v26.toInt ∧ v26.toInt ≤ 12 := hv26
                have dv26 : v26.toInt = k6_L_4.toInt + 0 := iv_addE ev26 q6_10 (iv_c (a := 0) (b := 0) (by decide)) (by decide) (by decide) (by decide)
                have lv26 : v26.toInt = k6_L_4.toInt + 0 := lin_add ev26 q6_10 (iv_c (a := 0) (b := 0) (by decide)) rfl (by decide) (by decide) (by decide)
                refine lv_istore (lv' := [(4, .int v26), (5, .int k6_L_5), (0, .ref a), (1, .int p0), (2, .int p1), (3, .int p2)]) hx hb dX12_fitting_51 hl (by decide) rfl (fun ls hl => ?_)
                obtain ⟨v28, ev28⟩ : ∃ z : Int32, z = k6_L_5 + 1 := ⟨_, rfl⟩
                have hv28 : IV 1 12 v28 := iv_add ev28 h7 (iv_c (a := 1) (b := 1) (by decide)) (by decide) (by decide)
                have dv28 : v28.toInt = k6_L_5.toInt + 1 := iv_addE ev28 h7 (iv_c (a := 1) (b := 1) (by decide)) (by decide) (by decide) (by decide)
                refine lv_iinc (v := v28) (lv' := [(5, .int v28), (4, .int v26), (0, .ref a), (1, .int p0), (2, .int p1), (3, .int p2)]) hx hb dX12_fitting_53 hl (k := 1) rfl (by rw [ev28]; rfl) (by decide) rfl (fun ls hl => ?_)
                refine lv_goto (tgt := 6) hx hb dX12_fitting_56 (by decide) ?_
                exact ih6 v28 v26 (by have h9 := h7; unfold IV at h9; have := dv28; omega) hv26 (iv_w hv28 (by decide) (by decide)) (by omega) H locs (hP.sub (ws' := [(a_said, .inl (cs 0, 123, .inl a_said_c)), (a, .inr (12, [.ref a_tape, .int a__taped, .int a__rules, .ref a_sign, .ref a_length, .ref a_clause, .ref a_clauses, .ref a_read, .int a__next, .int a__wrong, .int a__number, .int a__text, .int a__made, .int a__deep, .int a__lines, .ref a_open, .int a__opened, .ref a_stack, .int a__top, .ref a_word, .ref a_said, .int a__x, .ref a_worth, .ref a_mate, .ref a_wasSaid, .int a__undone, .int a__boughtNow, .ref a_wayBy, .ref a_wayThen, .int a__walkMost, .int a__walkGoing, .int a__walkSet, .ref a_kept, .long a__drawX, .ref a_images, .ref a_imageX, .ref a_isMade]))]) [0, 1] rfl) hS ls (lv_sub hl [0, 1, 2, 3, 4, 5] rfl)
              · have t29 : 0 = p2.toInt := lin_eqN c24 (by decide) rfl
                have h30 : IV 0 0 p2 := iv_eq2 c24 (iv_c (a := 0) (b := 0) (by decide)) iv_top (by decide) (by decide)
                have ii31 : 0 ≤ p2.toInt ∧ p2.toInt ≤ 0 := h30
                refine lv_iconst (v := 1) hx hb dX12_fitting_45 (by decide) ?_
                refine lv_goto (tgt := 50) hx hb dX12_fitting_46 (by decide) ?_
                refine lv_iadd hx hb dX12_fitting_50 ?_
                refine lv_topi (fun v32 ev32 => ?_)
                have hv32 : IV 1 13 v32 := iv_add ev32 q6_10 (iv_c (a := 1) (b := 1) (by decide)) (by decide) (by decide)
                have ii33 : 1 ≤ v32.toInt ∧ v32.toInt ≤ 13 := hv32
                have dv32 : v32.toInt = k6_L_4.toInt + 1 := iv_addE ev32 q6_10 (iv_c (a := 1) (b := 1) (by decide)) (by decide) (by decide) (by decide)
                have lv32 : v32.toInt = k6_L_4.toInt + 1 := lin_add ev32 q6_10 (iv_c (a := 1) (b := 1) (by decide)) rfl (by decide) (by decide) (by decide)
                refine lv_istore (lv' := [(4, .int v32), (5, .int k6_L_5), (0, .ref a), (1, .int p0), (2, .int p1), (3, .int p2)]) hx hb dX12_fitting_51 hl (by decide) rfl (fun ls hl => ?_)
                obtain ⟨v34, ev34⟩ : ∃ z : Int32, z = k6_L_5 + 1 := ⟨_, rfl⟩
                have hv34 : IV 1 12 v34 := iv_add ev34 h7 (iv_c (a := 1) (b := 1) (by decide)) (by decide) (by decide)
                have dv34 : v34.toInt = k6_L_5.toInt + 1 := iv_addE ev34 h7 (iv_c (a := 1) (b := 1) (by decide)) (by decide) (by decide) (by decide)
                refine lv_iinc (v := v34) (lv' := [(5, .int v34), (4, .int v32), (0, .ref a), (1, .int p0), (2, .int p1), (3, .int p2)]) hx hb dX12_fitting_53 hl (k := 1) rfl (by rw [ev34]; rfl) (by decide) rfl (fun ls hl => ?_)
                refine lv_goto (tgt := 6) hx hb dX12_fitting_56 (by decide) ?_
                exact ih6 v34 v32 (by have h9 := h7; unfold IV at h9; have := dv34; omega) (⟨by omega, by omega⟩ : IV 0 12 v32) (iv_w hv34 (by decide) (by decide)) (by omega) H locs (hP.sub (ws' := [(a_said, .inl (cs 0, 123, .inl a_said_c)), (a, .inr (12, [.ref a_tape, .int a__taped, .int a__rules, .ref a_sign, .ref a_length, .ref a_clause, .ref a_clauses, .ref a_read, .int a__next, .int a__wrong, .int a__number, .int a__text, .int a__made, .int a__deep, .int a__lines, .ref a_open, .int a__opened, .ref a_stack, .int a__top, .ref a_word, .ref a_said, .int a__x, .ref a_worth, .ref a_mate, .ref a_wasSaid, .int a__undone, .int a__boughtNow, .ref a_wayBy, .ref a_wayThen, .int a__walkMost, .int a__walkGoing, .int a__walkSet, .ref a_kept, .long a__drawX, .ref a_images, .ref a_imageX, .ref a_isMade]))]) [0, 1] rfl) hS ls (lv_sub hl [0, 1, 2, 3, 4, 5] rfl)
            · refine lv_iload_n hx hb dX12_fitting_41 rfl (lv_at hl 5 rfl) ?_
              refine lv_icmp_ne (tgt := 49) hx hb dX12_fitting_42 (by decide) (fun c35 => ?_) (fun c35 => ?_)
              · have t36 : 1 ≠ p2.toInt := lin_ne c35 (by decide) rfl
                refine lv_iconst (v := 0) hx hb dX12_fitting_49 (by decide) ?_
                refine lv_iadd hx hb dX12_fitting_50 ?_
                refine lv_topi (fun v37 ev37 => ?_)
                have hv37 : IV 0 12 v37 := iv_add ev37 q6_10 (iv_c (a := 0) (b := 0) (by decide)) (by decide) (by decide)
                have ii38 : 0 ≤ v37.toInt ∧ v37.toInt ≤ 12 := hv37
                have dv37 : v37.toInt = k6_L_4.toInt + 0 := iv_addE ev37 q6_10 (iv_c (a := 0) (b := 0) (by decide)) (by decide) (by decide) (by decide)
                have lv37 : v37.toInt = k6_L_4.toInt + 0 := lin_add ev37 q6_10 (iv_c (a := 0) (b := 0) (by decide)) rfl (by decide) (by decide) (by decide)
                refine lv_istore (lv' := [(4, .int v37), (5, .int k6_L_5), (0, .ref a), (1, .int p0), (2, .int p1), (3, .int p2)]) hx hb dX12_fitting_51 hl (by decide) rfl (fun ls hl => ?_)
                obtain ⟨v39, ev39⟩ : ∃ z : Int32, z = k6_L_5 + 1 := ⟨_, rfl⟩
                have hv39 : IV 1 12 v39 := iv_add ev39 h7 (iv_c (a := 1) (b := 1) (by decide)) (by decide) (by decide)
                have dv39 : v39.toInt = k6_L_5.toInt + 1 := iv_addE ev39 h7 (iv_c (a := 1) (b := 1) (by decide)) (by decide) (by decide) (by decide)
                refine lv_iinc (v := v39) (lv' := [(5, .int v39), (4, .int v37), (0, .ref a), (1, .int p0), (2, .int p1), (3, .int p2)]) hx hb dX12_fitting_53 hl (k := 1) rfl (by rw [ev39]; rfl) (by decide) rfl (fun ls hl => ?_)
                refine lv_goto (tgt := 6) hx hb dX12_fitting_56 (by decide) ?_
                exact ih6 v39 v37 (by have h9 := h7; unfold IV at h9; have := dv39; omega) hv37 (iv_w hv39 (by decide) (by decide)) (by omega) H locs (hP.sub (ws' := [(a_said, .inl (cs 0, 123, .inl a_said_c)), (a, .inr (12, [.ref a_tape, .int a__taped, .int a__rules, .ref a_sign, .ref a_length, .ref a_clause, .ref a_clauses, .ref a_read, .int a__next, .int a__wrong, .int a__number, .int a__text, .int a__made, .int a__deep, .int a__lines, .ref a_open, .int a__opened, .ref a_stack, .int a__top, .ref a_word, .ref a_said, .int a__x, .ref a_worth, .ref a_mate, .ref a_wasSaid, .int a__undone, .int a__boughtNow, .ref a_wayBy, .ref a_wayThen, .int a__walkMost, .int a__walkGoing, .int a__walkSet, .ref a_kept, .long a__drawX, .ref a_images, .ref a_imageX, .ref a_isMade]))]) [0, 1] rfl) hS ls (lv_sub hl [0, 1, 2, 3, 4, 5] rfl)
              · have t40 : 1 = p2.toInt := lin_eqN c35 (by decide) rfl
                have h41 : IV 1 1 p2 := iv_eq2 c35 (iv_c (a := 1) (b := 1) (by decide)) iv_top (by decide) (by decide)
                have ii42 : 1 ≤ p2.toInt ∧ p2.toInt ≤ 1 := h41
                refine lv_iconst (v := 1) hx hb dX12_fitting_45 (by decide) ?_
                refine lv_goto (tgt := 50) hx hb dX12_fitting_46 (by decide) ?_
                refine lv_iadd hx hb dX12_fitting_50 ?_
                refine lv_topi (fun v43 ev43 => ?_)
                have hv43 : IV 1 13 v43 := iv_add ev43 q6_10 (iv_c (a := 1) (b := 1) (by decide)) (by decide) (by decide)
                have ii44 : 1 ≤ v43.toInt ∧ v43.toInt ≤ 13 := hv43
                have dv43 : v43.toInt = k6_L_4.toInt + 1 := iv_addE ev43 q6_10 (iv_c (a := 1) (b := 1) (by decide)) (by decide) (by decide) (by decide)
                have lv43 : v43.toInt = k6_L_4.toInt + 1 := lin_add ev43 q6_10 (iv_c (a := 1) (b := 1) (by decide)) rfl (by decide) (by decide) (by decide)
                refine lv_istore (lv' := [(4, .int v43), (5, .int k6_L_5), (0, .ref a), (1, .int p0), (2, .int p1), (3, .int p2)]) hx hb dX12_fitting_51 hl (by decide) rfl (fun ls hl => ?_)
                obtain ⟨v45, ev45⟩ : ∃ z : Int32, z = k6_L_5 + 1 := ⟨_, rfl⟩
                have hv45 : IV 1 12 v45 := iv_add ev45 h7 (iv_c (a := 1) (b := 1) (by decide)) (by decide) (by decide)
                have dv45 : v45.toInt = k6_L_5.toInt + 1 := iv_addE ev45 h7 (iv_c (a := 1) (b := 1) (by decide)) (by decide) (by decide) (by decide)
                refine lv_iinc (v := v45) (lv' := [(5, .int v45), (4, .int v43), (0, .ref a), (1, .int p0), (2, .int p1), (3, .int p2)]) hx hb dX12_fitting_53 hl (k := 1) rfl (by rw [ev45]; rfl) (by decide) rfl (fun ls hl => ?_)
                refine lv_goto (tgt := 6) hx hb dX12_fitting_56 (by decide) ?_
                exact ih6 v45 v43 (by have h9 := h7; unfold IV at h9; have := dv45; omega) (⟨by omega, by omega⟩ : IV 0 12 v43) (iv_w hv45 (by decide) (by decide)) (by omega) H locs (hP.sub (ws' := [(a_said, .inl (cs 0, 123, .inl a_said_c)), (a, .inr (12, [.ref a_tape, .int a__taped, .int a__rules, .ref a_sign, .ref a_length, .ref a_clause, .ref a_clauses, .ref a_read, .int a__next, .int a__wrong, .int a__number, .int a__text, .int a__made, .int a__deep, .int a__lines, .ref a_open, .int a__opened, .ref a_stack, .int a__top, .ref a_word, .ref a_said, .int a__x, .ref a_worth, .ref a_mate, .ref a_wasSaid, .int a__undone, .int a__boughtNow, .ref a_wayBy, .ref a_wayThen, .int a__walkMost, .int a__walkGoing, .int a__walkSet, .ref a_kept, .long a__drawX, .ref a_images, .ref a_imageX, .ref a_isMade]))]) [0, 1] rfl) hS ls (lv_sub hl [0, 1, 2, 3, 4, 5] rfl)
            · refine lv_iload_n hx hb dX12_fitting_41 rfl (lv_at hl 5 rfl) ?_
              refine lv_icmp_ne (tgt := 49) hx hb dX12_fitting_42 (by decide) (fun c46 => ?_) (fun c46 => ?_)
              · have t47 : 2 ≠ p2.toInt := lin_ne c46 (by decide) rfl
                refine lv_iconst (v := 0) hx hb dX12_fitting_49 (by decide) ?_
                refine lv_iadd hx hb dX12_fitting_50 ?_
                refine lv_topi (fun v48 ev48 => ?_)
                have hv48 : IV 0 12 v48 := iv_add ev48 q6_10 (iv_c (a := 0) (b := 0) (by decide)) (by decide) (by decide)
                have ii49 : 0 ≤ v48.toInt ∧ v48.toInt ≤ 12 := hv48
                have dv48 : v48.toInt = k6_L_4.toInt + 0 := iv_addE ev48 q6_10 (iv_c (a := 0) (b := 0) (by decide)) (by decide) (by decide) (by decide)
                have lv48 : v48.toInt = k6_L_4.toInt + 0 := lin_add ev48 q6_10 (iv_c (a := 0) (b := 0) (by decide)) rfl (by decide) (by decide) (by decide)
                refine lv_istore (lv' := [(4, .int v48), (5, .int k6_L_5), (0, .ref a), (1, .int p0), (2, .int p1), (3, .int p2)]) hx hb dX12_fitting_51 hl (by decide) rfl (fun ls hl => ?_)
                obtain ⟨v50, ev50⟩ : ∃ z : Int32, z = k6_L_5 + 1 := ⟨_, rfl⟩
                have hv50 : IV 1 12 v50 := iv_add ev50 h7 (iv_c (a := 1) (b := 1) (by decide)) (by decide) (by decide)
                have dv50 : v50.toInt = k6_L_5.toInt + 1 := iv_addE ev50 h7 (iv_c (a := 1) (b := 1) (by decide)) (by decide) (by decide) (by decide)
                refine lv_iinc (v := v50) (lv' := [(5, .int v50), (4, .int v48), (0, .ref a), (1, .int p0), (2, .int p1), (3, .int p2)]) hx hb dX12_fitting_53 hl (k := 1) rfl (by rw [ev50]; rfl) (by decide) rfl (fun ls hl => ?_)
                refine lv_goto (tgt := 6) hx hb dX12_fitting_56 (by decide) ?_
                exact ih6 v50 v48 (by have h9 := h7; unfold IV at h9; have := dv50; omega) hv48 (iv_w hv50 (by decide) (by decide)) (by omega) H locs (hP.sub (ws' := [(a_said, .inl (cs 0, 123, .inl a_said_c)), (a, .inr (12, [.ref a_tape, .int a__taped, .int a__rules, .ref a_sign, .ref a_length, .ref a_clause, .ref a_clauses, .ref a_read, .int a__next, .int a__wrong, .int a__number, .int a__text, .int a__made, .int a__deep, .int a__lines, .ref a_open, .int a__opened, .ref a_stack, .int a__top, .ref a_word, .ref a_said, .int a__x, .ref a_worth, .ref a_mate, .ref a_wasSaid, .int a__undone, .int a__boughtNow, .ref a_wayBy, .ref a_wayThen, .int a__walkMost, .int a__walkGoing, .int a__walkSet, .ref a_kept, .long a__drawX, .ref a_images, .ref a_imageX, .ref a_isMade]))]) [0, 1] rfl) hS ls (lv_sub hl [0, 1, 2, 3, 4, 5] rfl)
              · have t51 : 2 = p2.toInt := lin_eqN c46 (by decide) rfl
                have h52 : IV 2 2 p2 := iv_eq2 c46 (iv_c (a := 2) (b := 2) (by decide)) iv_top (by decide) (by decide)
                have ii53 : 2 ≤ p2.toInt ∧ p2.toInt ≤ 2 := h52
                refine lv_iconst (v := 1) hx hb dX12_fitting_45 (by decide) ?_
                refine lv_goto (tgt := 50) hx hb dX12_fitting_46 (by decide) ?_
                refine lv_iadd hx hb dX12_fitting_50 ?_
                refine lv_topi (fun v54 ev54 => ?_)
                have hv54 : IV 1 13 v54 := iv_add ev54 q6_10 (iv_c (a := 1) (b := 1) (by decide)) (by decide) (by decide)
                have ii55 : 1 ≤ v54.toInt ∧ v54.toInt ≤ 13 := hv54
                have dv54 : v54.toInt = k6_L_4.toInt + 1 := iv_addE ev54 q6_10 (iv_c (a := 1) (b := 1) (by decide)) (by decide) (by decide) (by decide)
                have lv54 : v54.toInt = k6_L_4.toInt + 1 := lin_add ev54 q6_10 (iv_c (a := 1) (b := 1) (by decide)) rfl (by decide) (by decide) (by decide)
                refine lv_istore (lv' := [(4, .int v54), (5, .int k6_L_5), (0, .ref a), (1, .int p0), (2, .int p1), (3, .int p2)]) hx hb dX12_fitting_51 hl (by decide) rfl (fun ls hl => ?_)
                obtain ⟨v56, ev56⟩ : ∃ z : Int32, z = k6_L_5 + 1 := ⟨_, rfl⟩
                have hv56 : IV 1 12 v56 := iv_add ev56 h7 (iv_c (a := 1) (b := 1) (by decide)) (by decide) (by decide)
                have dv56 : v56.toInt = k6_L_5.toInt + 1 := iv_addE ev56 h7 (iv_c (a := 1) (b := 1) (by decide)) (by decide) (by decide) (by decide)
                refine lv_iinc (v := v56) (lv' := [(5, .int v56), (4, .int v54), (0, .ref a), (1, .int p0), (2, .int p1), (3, .int p2)]) hx hb dX12_fitting_53 hl (k := 1) rfl (by rw [ev56]; rfl) (by decide) rfl (fun ls hl => ?_)
                refine lv_goto (tgt := 6) hx hb dX12_fitting_56 (by decide) ?_
                exact ih6 v56 v54 (by have h9 := h7; unfold IV at h9; have := dv56; omega) (⟨by omega, by omega⟩ : IV 0 12 v54) (iv_w hv56 (by decide) (by decide)) (by omega) H locs (hP.sub (ws' := [(a_said, .inl (cs 0, 123, .inl a_said_c)), (a, .inr (12, [.ref a_tape, .int a__taped, .int a__rules, .ref a_sign, .ref a_length, .ref a_clause, .ref a_clauses, .ref a_read, .int a__next, .int a__wrong, .int a__number, .int a__text, .int a__made, .int a__deep, .int a__lines, .ref a_open, .int a__opened, .ref a_stack, .int a__top, .ref a_word, .ref a_said, .int a__x, .ref a_worth, .ref a_mate, .ref a_wasSaid, .int a__undone, .int a__boughtNow, .ref a_wayBy, .ref a_wayThen, .int a__walkMost, .int a__walkGoing, .int a__walkSet, .ref a_kept, .long a__drawX, .ref a_images, .ref a_imageX, .ref a_isMade]))]) [0, 1] rfl) hS ls (lv_sub hl [0, 1, 2, 3, 4, 5] rfl)
  refine lv_iconst (v := 0) hx hb dX12_fitting_0 (by decide) ?_
  refine lv_istore (lv' := [(4, .int 0), (0, .ref a), (1, .int p0), (2, .int p1), (3, .int p2)]) hx hb dX12_fitting_1 hl (by decide) rfl (fun ls hl => ?_)
  refine lv_iconst (v := 0) hx hb dX12_fitting_3 (by decide) ?_
  refine lv_istore (lv' := [(5, .int 0), (4, .int 0), (0, .ref a), (1, .int p0), (2, .int p1), (3, .int p2)]) hx hb dX12_fitting_4 hl (by decide) rfl (fun ls hl => ?_)
  exact K6 _ ((0 : Int32)) ((0 : Int32)) (Nat.le_refl _) (iv_c (by decide)) (iv_c (by decide)) (by omega) H locs (hP.sub (ws' := [(a_said, .inl (cs 0, 123, .inl a_said_c)), (a, .inr (12, [.ref a_tape, .int a__taped, .int a__rules, .ref a_sign, .ref a_length, .ref a_clause, .ref a_clauses, .ref a_read, .int a__next, .int a__wrong, .int a__number, .int a__text, .int a__made, .int a__deep, .int a__lines, .ref a_open, .int a__opened, .ref a_stack, .int a__top, .ref a_word, .ref a_said, .int a__x, .ref a_worth, .ref a_mate, .ref a_wasSaid, .int a__undone, .int a__boughtNow, .ref a_wayBy, .ref a_wayThen, .int a__walkMost, .int a__walkGoing, .int a__walkSet, .ref a_kept, .long a__drawX, .ref a_images, .ref a_imageX, .ref a_isMade]))]) [0, 1] rfl) hS ls (lv_sub hl [0, 1, 2, 3, 4, 5] rfl)
theorem dX12_chance_0 : decode cX12_chance 0 = .ok (.aload_n 0, 1) := by decide +kernel
theorem dX12_chance_1 : decode cX12_chance 1 = .ok (.iload_n 1, 1) := by decide +kernel
theorem dX12_chance_2 : decode cX12_chance 2 = .ok (.invokevirtual 343, 3) := by decide +kernel
theorem dX12_chance_5 : decode cX12_chance 5 = .ok (.ifCond .eq 21, 3) := by decide +kernel
theorem dX12_chance_8 : decode cX12_chance 8 = .ok (.aload_n 0, 1) := by decide +kernel
theorem dX12_chance_9 : decode cX12_chance 9 = .ok (.iload_n 2, 1) := by decide +kernel
theorem dX12_chance_10 : decode cX12_chance 10 = .ok (.invokevirtual 335, 3) := by decide +kernel
theorem dX12_chance_13 : decode cX12_chance 13 = .ok (.ifCond .eq 13, 3) := by decide +kernel
theorem dX12_chance_16 : decode cX12_chance 16 = .ok (.iload_n 3, 1) := by decide +kernel
theorem dX12_chance_17 : decode cX12_chance 17 = .ok (.i2l, 1) := by decide +kernel
theorem dX12_chance_18 : decode cX12_chance 18 = .ok (.lconst 0, 1) := by decide +kernel
theorem dX12_chance_19 : decode cX12_chance 19 = .ok (.lconst 1, 1) := by decide +kernel
theorem dX12_chance_20 : decode cX12_chance 20 = .ok (.invokestatic 109, 3) := by decide +kernel
theorem dX12_chance_23 : decode cX12_chance 23 = .ok (.ifCond .ne 5, 3) := by decide +kernel
theorem dX12_chance_26 : decode cX12_chance 26 = .ok (.iconst (-1), 1) := by decide +kernel
theorem dX12_chance_27 : decode cX12_chance 27 = .ok (.ireturn, 1) := by decide +kernel
theorem dX12_chance_28 : decode cX12_chance 28 = .ok (.aload_n 0, 1) := by decide +kernel
theorem dX12_chance_29 : decode cX12_chance 29 = .ok (.iload_n 1, 1) := by decide +kernel
theorem dX12_chance_30 : decode cX12_chance 30 = .ok (.invokevirtual 448, 3) := by decide +kernel
theorem dX12_chance_33 : decode cX12_chance 33 = .ok (.invokestatic 374, 3) := by decide +kernel
theorem dX12_chance_36 : decode cX12_chance 36 = .ok (.istore 4, 2) := by decide +kernel
theorem dX12_chance_38 : decode cX12_chance 38 = .ok (.aload_n 0, 1) := by decide +kernel
theorem dX12_chance_39 : decode cX12_chance 39 = .ok (.aload_n 0, 1) := by decide +kernel
theorem dX12_chance_40 : decode cX12_chance 40 = .ok (.iload_n 1, 1) := by decide +kernel
theorem dX12_chance_41 : decode cX12_chance 41 = .ok (.invokevirtual 448, 3) := by decide +kernel
theorem dX12_chance_44 : decode cX12_chance 44 = .ok (.iload_n 2, 1) := by decide +kernel
theorem dX12_chance_45 : decode cX12_chance 45 = .ok (.iconst 2, 1) := by decide +kernel
theorem dX12_chance_46 : decode cX12_chance 46 = .ok (.invokevirtual 383, 3) := by decide +kernel
theorem dX12_chance_49 : decode cX12_chance 49 = .ok (.istore 5, 2) := by decide +kernel
theorem dX12_chance_51 : decode cX12_chance 51 = .ok (.iload 4, 2) := by decide +kernel
theorem dX12_chance_53 : decode cX12_chance 53 = .ok (.ifCond .ne 5, 3) := by decide +kernel
theorem dX12_chance_56 : decode cX12_chance 56 = .ok (.iload_n 3, 1) := by decide +kernel
theorem dX12_chance_57 : decode cX12_chance 57 = .ok (.ireturn, 1) := by decide +kernel
theorem dX12_chance_58 : decode cX12_chance 58 = .ok (.iload_n 3, 1) := by decide +kernel
theorem dX12_chance_59 : decode cX12_chance 59 = .ok (.ifCond .ne 8, 3) := by decide +kernel
theorem dX12_chance_62 : decode cX12_chance 62 = .ok (.iload 5, 2) := by decide +kernel
theorem dX12_chance_64 : decode cX12_chance 64 = .ok (.goto 5, 3) := by decide +kernel
theorem dX12_chance_67 : decode cX12_chance 67 = .ok (.iload 4, 2) := by decide +kernel
theorem dX12_chance_69 : decode cX12_chance 69 = .ok (.iload 4, 2) := by decide +kernel
theorem dX12_chance_71 : decode cX12_chance 71 = .ok (.iload 5, 2) := by decide +kernel
theorem dX12_chance_73 : decode cX12_chance 73 = .ok (.invokestatic 451, 3) := by decide +kernel
theorem dX12_chance_76 : decode cX12_chance 76 = .ok (.idiv, 1) := by decide +kernel
theorem dX12_chance_77 : decode cX12_chance 77 = .ok (.ireturn, 1) := by decide +kernel
set_option maxHeartbeats 4000000 in
set_option maxRecDepth 100000 in
theorem c_X12_chance (l : Launch) (D : va_G) (cs : Nat → ClassId) (kK kV : Nat → Nat) (a : Nat) (p0 : Int32) (p1 : Int32) (p2 : Int32) (a_said : Nat) (a_said_c : Nat → Int32) (a_tape : Nat) (a__taped : Int32) (a__rules : Int32) (a_sign : Nat) (a_length : Nat) (a_clause : Nat) (a_clauses : Nat) (a_read : Nat) (a__next : Int32) (a__wrong : Int32) (a__number : Int32) (a__text : Int32) (a__made : Int32) (a__deep : Int32) (a__lines : Int32) (a_open : Nat) (a__opened : Int32) (a_stack : Nat) (a__top : Int32) (a_word : Nat) (a__x : Int32) (a_worth : Nat) (a_mate : Nat) (a_wasSaid : Nat) (a__undone : Int32) (a__boughtNow : Int32) (a_wayBy : Nat) (a_wayThen : Nat) (a__walkMost : Int32) (a__walkGoing : Int32) (a__walkSet : Int32) (a_kept : Nat) (a__drawX : Int64) (a_images : Nat) (a_imageX : Nat) (a_isMade : Nat) (h_a__taped : IV 0 400 a__taped) (h_a__rules : IV 0 6 a__rules) (h_a__next : IV 0 400 a__next) (h_a__text : IV 0 6 a__text) (h_a__made : IV 0 60 a__made) (h_a__lines : IV 0 40 a__lines) (h_a__opened : IV 0 400 a__opened) (h_a__top : IV 0 64 a__top) (h_a__x : IV 0 2147483647 a__x) (h_a__undone : IV 0 20 a__undone) (hf0 : BS a_said_c 200) : Met l yX12_chance (hz_w yX12_chance cX12_chance 6 (some .int)) ({ frames := 4, cells := 0, slots := 0, locals := 92 }) (va_Pc [.ref a, .int p0, .int p1, .int p2] (hz_P D cs kK kV [(a_said, .inl (cs 0, 123, .inl a_said_c)), (a, .inr (12, [.ref a_tape, .int a__taped, .int a__rules, .ref a_sign, .ref a_length, .ref a_clause, .ref a_clauses, .ref a_read, .int a__next, .int a__wrong, .int a__number, .int a__text, .int a__made, .int a__deep, .int a__lines, .ref a_open, .int a__opened, .ref a_stack, .int a__top, .ref a_word, .ref a_said, .int a__x, .ref a_worth, .ref a_mate, .ref a_wasSaid, .int a__undone, .int a__boughtNow, .ref a_wayBy, .ref a_wayThen, .int a__walkMost, .int a__walkGoing, .int a__walkSet, .ref a_kept, .long a__drawX, .ref a_images, .ref a_imageX, .ref a_isMade]))])) (va_Qi (fun (r : Int32) (_ : Unit) => (r = (-1) ∧ IV (-2147483648) 2147483647 p0) ∨ (IV 0 4095 r ∧ IV 0 3 p0 ∧ IV 0 11 p1 ∧ IV 0 1 p2)) (fun _ t => True) (fun _ => False)) 0 0 (fun _ => False) := by
  refine Met.ofW (cc := cX12_chance) (maxL := 6) (ret := (some .int)) (by decide) rfl ?_
  intro p e s m args below meth c s₁ B hml hv
  obtain ⟨rfl, hP, hE⟩ := hv
  have hx := B.exec
  have hb := B.bytes
  have hr := B.returns
  have hT : ∀ w ∈ TB, w.before _ s = true := fun w h => atoms_spec (ws := hz_w yX12_chance cX12_chance 6 (some .int)) B.pre w (List.mem_cons_of_mem _ h)
  have hown : s.vm.findClass RX12 = some m.cls := findClass_of_methodNamed B.named
  have hlocks := B.notSynchronized
  clear B
  have hS : va_S (fun _ => False) s.heap s.heap [] := va_S.rf
  have hK := hE.1
  have hl := lv_entry ([.ref a, .int p0, .int p1, .int p2]) (n := 6) (Nat.le_of_ble_eq_true rfl)
  rw [lg_entry_eq]
  generalize (lg_sl ([.ref a, .int p0, .int p1, .int p2]) ++ List.replicate (6 - (lg_sl ([.ref a, .int p0, .int p1, .int p2])).length) Slot.unset).toArray = ls at hl ⊢
  have hl : lv_has ls 6 [(0, .ref a), (1, .int p0), (2, .int p1), (3, .int p2)] := hl
  obtain ⟨H, eH⟩ : ∃ z, z = s.heap := ⟨_, rfl⟩
  have hP : va_P D classes [(a_said, .inl (cs 0, 123, .inl a_said_c)), (a, .inr (12, [.ref a_tape, .int a__taped, .int a__rules, .ref a_sign, .ref a_length, .ref a_clause, .ref a_clauses, .ref a_read, .int a__next, .int a__wrong, .int a__number, .int a__text, .int a__made, .int a__deep, .int a__lines, .ref a_open, .int a__opened, .ref a_stack, .int a__top, .ref a_word, .ref a_said, .int a__x, .ref a_worth, .ref a_mate, .ref a_wasSaid, .int a__undone, .int a__boughtNow, .ref a_wayBy, .ref a_wayThen, .int a__walkMost, .int a__walkGoing, .int a__walkSet, .ref a_kept, .long a__drawX, .ref a_images, .ref a_imageX, .ref a_isMade]))] H := by rw [eH]; exact hP
  have hS : va_S (fun _ => False) s.heap H [] := by rw [eH]; exact hS
  rw [← eH]
  clear eH
  obtain ⟨locs, el⟩ : ∃ z : List Loc, z = [] := ⟨_, rfl⟩
  rw [← el] at hS ⊢
  clear el
  have z0 : (0 : Int32).toInt = 0 := by decide
  have z1 : (1 : Int32).toInt = 1 := by decide
  have zm1 : (-1 : Int32).toInt = -1 := by decide
  have i_a__lines : 0 ≤ a__lines.toInt ∧ a__lines.toInt ≤ 40 := h_a__lines
  have i_a__made : 0 ≤ a__made.toInt ∧ a__made.toInt ≤ 60 := h_a__made
  have i_a__next : 0 ≤ a__next.toInt ∧ a__next.toInt ≤ 400 := h_a__next
  have i_a__opened : 0 ≤ a__opened.toInt ∧ a__opened.toInt ≤ 400 := h_a__opened
  have i_a__rules : 0 ≤ a__rules.toInt ∧ a__rules.toInt ≤ 6 := h_a__rules
  have i_a__taped : 0 ≤ a__taped.toInt ∧ a__taped.toInt ≤ 400 := h_a__taped
  have i_a__text : 0 ≤ a__text.toInt ∧ a__text.toInt ≤ 6 := h_a__text
  have i_a__top : 0 ≤ a__top.toInt ∧ a__top.toInt ≤ 64 := h_a__top
  have i_a__undone : 0 ≤ a__undone.toInt ∧ a__undone.toInt ≤ 20 := h_a__undone
  have i_a__x : 0 ≤ a__x.toInt ∧ a__x.toInt ≤ 2147483647 := h_a__x
  refine lv_aload_n hx hb dX12_chance_0 rfl (lv_at hl 0 rfl) ?_
  refine lv_iload_n hx hb dX12_chance_1 rfl (lv_at hl 1 rfl) ?_
  refine va_calli (va_runV (As := [.int p0]) (rest := []) ⟨hx, hb, hml, hown, hT⟩ (c_X12_isBuyer l D cs kK kV a p0 a_said a_said_c a_tape a__taped a__rules a_sign a_length a_clause a_clauses a_read a__next a__wrong a__number a__text a__made a__deep a__lines a_open a__opened a_stack a__top a_word a__x a_worth a_mate a_wasSaid a__undone a__boughtNow a_wayBy a_wayThen a__walkMost a__walkGoing a__walkSet a_kept a__drawX a_images a_imageX a_isMade h_a__taped h_a__rules h_a__next h_a__text h_a__made h_a__lines h_a__opened h_a__top h_a__x h_a__undone hf0) (cwV 1 hT (hz_gV q_1156 q_1157 q_1158 q_701 q_1159) rfl rfl rfl (by decide +kernel) ⟨(Nat.le_of_ble_eq_true rfl), (Nat.le_of_ble_eq_true rfl)⟩) ⟨hz_P.blind, va_recv hK hP (ci := 12) (q0 := 1) rfl rfl, hz_P.mk (hP.sub (ws' := [(a_said, .inl (cs 0, 123, .inl a_said_c)), (a, .inr (12, [.ref a_tape, .int a__taped, .int a__rules, .ref a_sign, .ref a_length, .ref a_clause, .ref a_clauses, .ref a_read, .int a__next, .int a__wrong, .int a__number, .int a__text, .int a__made, .int a__deep, .int a__lines, .ref a_open, .int a__opened, .ref a_stack, .int a__top, .ref a_word, .ref a_said, .int a__x, .ref a_worth, .ref a_mate, .ref a_wasSaid, .int a__undone, .int a__boughtNow, .ref a_wayBy, .ref a_wayThen, .int a__walkMost, .int a__walkGoing, .int a__walkSet, .ref a_kept, .long a__drawX, .ref a_images, .ref a_imageX, .ref a_isMade]))]) [0,1] rfl) hE hS⟩ rfl rfl hl.1 rfl (lv_room (Nat.le_of_ble_eq_true rfl)) dX12_chance_2 ⟨(Nat.le_of_ble_eq_true rfl), (Nat.le_of_ble_eq_true rfl)⟩) hS (fun _ _ h => h.elim) (fun _ h => h.elim) (fun r1 u t H1 locs ht hvm hw hB hz1 hk1 hS => ?_)
  have hP := hz_keep hP hk1
  clear hk1 hB hz1
  generalize H1 = H at hP hS ⊢
  rcases hw with ⟨rfl, h2⟩ | ⟨rfl, h3, x4, x5⟩
  · have ii6 : (-2147483648) ≤ p0.toInt ∧ p0.toInt ≤ 2147483647 := h2
    refine lv_if_eq (tgt := 26) hx hb dX12_chance_5 (by decide) (fun _ => ?_) (fun z => absurd (by decide) z)
    refine lv_iconst (v := (-1)) hx hb dX12_chance_26 (by decide) ?_
    exact W.iret (v := (-1)) hx hb hr (fun t ht hW => ⟨⟨(-1), (), rfl, (Or.inl (⟨rfl, h2⟩)), trivial⟩, hS.F ht⟩) hS.2.2 dX12_chance_27
  · have ii7 : 0 ≤ p0.toInt ∧ p0.toInt ≤ 3 := h3
    refine lv_if_eq (tgt := 26) hx hb dX12_chance_5 (by decide) (fun z => absurd z (by decide)) (fun _ => ?_)
    refine lv_aload_n hx hb dX12_chance_8 rfl (lv_at hl 0 rfl) ?_
    refine lv_iload_n hx hb dX12_chance_9 rfl (lv_at hl 2 rfl) ?_
    refine va_calli (va_runV (As := [.int p1]) (rest := []) ⟨hx, hb, hml, hown, hT⟩ (c_X12_isHalf l D cs kK kV a p1 a_said a_said_c a_tape a__taped a__rules a_sign a_length a_clause a_clauses a_read a__next a__wrong a__number a__text a__made a__deep a__lines a_open a__opened a_stack a__top a_word a__x a_worth a_mate a_wasSaid a__undone a__boughtNow a_wayBy a_wayThen a__walkMost a__walkGoing a__walkSet a_kept a__drawX a_images a_imageX a_isMade h_a__taped h_a__rules h_a__next h_a__text h_a__made h_a__lines h_a__opened h_a__top h_a__x h_a__undone hf0) (cwV 1 hT (hz_gV q_1148 q_1149 q_1150 q_701 q_1151) rfl rfl rfl (by decide +kernel) ⟨(Nat.le_of_ble_eq_true rfl), (Nat.le_of_ble_eq_true rfl)⟩) ⟨hz_P.blind, va_recv hK hP (ci := 12) (q0 := 1) rfl rfl, hz_P.mk (hP.sub (ws' := [(a_said, .inl (cs 0, 123, .inl a_said_c)), (a, .inr (12, [.ref a_tape, .int a__taped, .int a__rules, .ref a_sign, .ref a_length, .ref a_clause, .ref a_clauses, .ref a_read, .int a__next, .int a__wrong, .int a__number, .int a__text, .int a__made, .int a__deep, .int a__lines, .ref a_open, .int a__opened, .ref a_stack, .int a__top, .ref a_word, .ref a_said, .int a__x, .ref a_worth, .ref a_mate, .ref a_wasSaid, .int a__undone, .int a__boughtNow, .ref a_wayBy, .ref a_wayThen, .int a__walkMost, .int a__walkGoing, .int a__walkSet, .ref a_kept, .long a__drawX, .ref a_images, .ref a_imageX, .ref a_isMade]))]) [0,1] rfl) hE hS⟩ rfl rfl hl.1 rfl (lv_room (Nat.le_of_ble_eq_true rfl)) dX12_chance_10 ⟨(Nat.le_of_ble_eq_true rfl), (Nat.le_of_ble_eq_true rfl)⟩) hS (fun _ _ h => h.elim) (fun _ h => h.elim) (fun r8 u t H1 locs ht hvm hw hB hz1 hk1 hS => ?_)
    have hP := hz_keep hP hk1
    clear hk1 hB hz1
    generalize H1 = H at hP hS ⊢
    rcases hw with ⟨rfl, h9⟩ | ⟨rfl, h10, x11, x12⟩
    · have ii13 : (-2147483648) ≤ p1.toInt ∧ p1.toInt ≤ 2147483647 := h9
      refine lv_if_eq (tgt := 26) hx hb dX12_chance_13 (by decide) (fun _ => ?_) (fun z => absurd (by decide) z)
      refine lv_iconst (v := (-1)) hx hb dX12_chance_26 (by decide) ?_
      exact W.iret (v := (-1)) hx hb hr (fun t ht hW => ⟨⟨(-1), (), rfl, (Or.inl (⟨rfl, (iv_w h3 (by decide) (by decide))⟩)), trivial⟩, hS.F ht⟩) hS.2.2 dX12_chance_27
    · have ii14 : 0 ≤ p1.toInt ∧ p1.toInt ≤ 11 := h10
      refine lv_if_eq (tgt := 26) hx hb dX12_chance_13 (by decide) (fun z => absurd z (by decide)) (fun _ => ?_)
      refine lv_iload_n hx hb dX12_chance_16 rfl (lv_at hl 3 rfl) ?_
      refine lv_i2l (v := p2.toInt64) hx hb dX12_chance_17 rfl ?_
      refine lv_lconst (v := 0) hx hb dX12_chance_18 (by decide) ?_
      refine lv_lconst (v := 1) hx hb dX12_chance_19 (by decide) ?_
      refine va_calli (va_runS (As := [.long p2.toInt64, .long 0, .long 1]) (rest := []) ⟨hx, hb, hml, hown, hT⟩ (c_X12_in l D cs kK kV p2.toInt64 0 1) (va_cwS 3 hT (hz_gS q_964 q_965 q_701 q_966) rfl rfl rfl (by decide +kernel) ⟨(Nat.le_of_ble_eq_true rfl), (Nat.le_of_ble_eq_true rfl)⟩) ⟨hz_P.blind, hz_P.mk (hP.sub (ws' := []) [] rfl) hE hS⟩ rfl rfl hl.1 rfl (lv_room (Nat.le_of_ble_eq_true rfl)) dX12_chance_20 ⟨(Nat.le_of_ble_eq_true rfl), (Nat.le_of_ble_eq_true rfl)⟩) hS (fun _ _ h => h.elim) (fun _ h => h.elim) (fun r15 u t H1 locs ht hvm hw hB hz1 hk1 hS => ?_)
      have hP := hz_keep hP hk1
      clear hk1 hB hz1
      generalize H1 = H at hP hS ⊢
      rcases hw with ⟨rfl, x16⟩ | ⟨rfl, x17, x18⟩
      · have t19 : ¬ (0 ≤ p2.toInt ∧ p2.toInt ≤ 1) := fun z => x16 ⟨l64_clI z.1 (by decide), l64_lcI z.2 (by decide)⟩
        refine lv_if_ne (tgt := 28) hx hb dX12_chance_23 (by decide) (fun z => absurd (by decide) z) (fun _ => ?_)
        refine lv_iconst (v := (-1)) hx hb dX12_chance_26 (by decide) ?_
        exact W.iret (v := (-1)) hx hb hr (fun t ht hW => ⟨⟨(-1), (), rfl, (Or.inl (⟨rfl, (iv_w h3 (by decide) (by decide))⟩)), trivial⟩, hS.F ht⟩) hS.2.2 dX12_chance_27
      · have h20 : IV 0 2147483647 p2 := ⟨l64_cle x17 (by decide), iv_top.2⟩
        have ii21 : 0 ≤ p2.toInt ∧ p2.toInt ≤ 2147483647 := h20
        have h22 : IV 0 1 p2 := ⟨(h20).1, l64_lec x18 (by decide)⟩
        have ii23 : 0 ≤ p2.toInt ∧ p2.toInt ≤ 1 := h22
        refine lv_if_ne (tgt := 28) hx hb dX12_chance_23 (by decide) (fun _ => ?_) (fun z => absurd z (by decide))
        refine lv_aload_n hx hb dX12_chance_28 rfl (lv_at hl 0 rfl) ?_
        refine lv_iload_n hx hb dX12_chance_29 rfl (lv_at hl 1 rfl) ?_
        refine va_calli (va_runV (As := [.int p0]) (rest := []) ⟨hx, hb, hml, hown, hT⟩ (c_X12_unseen l D cs kK kV a p0 a_said a_said_c a_tape a__taped a__rules a_sign a_length a_clause a_clauses a_read a__next a__wrong a__number a__text a__made a__deep a__lines a_open a__opened a_stack a__top a_word a__x a_worth a_mate a_wasSaid a__undone a__boughtNow a_wayBy a_wayThen a__walkMost a__walkGoing a__walkSet a_kept a__drawX a_images a_imageX a_isMade h3 h_a__taped h_a__rules h_a__next h_a__text h_a__made h_a__lines h_a__opened h_a__top h_a__x h_a__undone hf0) (cwV 1 hT (hz_gV q_1262 q_1263 q_1264 q_701 q_1265) rfl rfl rfl (by decide +kernel) ⟨(Nat.le_of_ble_eq_true rfl), (Nat.le_of_ble_eq_true rfl)⟩) ⟨hz_P.blind, va_recv hK hP (ci := 12) (q0 := 1) rfl rfl, hz_P.mk (hP.sub (ws' := [(a_said, .inl (cs 0, 123, .inl a_said_c)), (a, .inr (12, [.ref a_tape, .int a__taped, .int a__rules, .ref a_sign, .ref a_length, .ref a_clause, .ref a_clauses, .ref a_read, .int a__next, .int a__wrong, .int a__number, .int a__text, .int a__made, .int a__deep, .int a__lines, .ref a_open, .int a__opened, .ref a_stack, .int a__top, .ref a_word, .ref a_said, .int a__x, .ref a_worth, .ref a_mate, .ref a_wasSaid, .int a__undone, .int a__boughtNow, .ref a_wayBy, .ref a_wayThen, .int a__walkMost, .int a__walkGoing, .int a__walkSet, .ref a_kept, .long a__drawX, .ref a_images, .ref a_imageX, .ref a_isMade]))]) [0,1] rfl) hE hS⟩ rfl rfl hl.1 rfl (lv_room (Nat.le_of_ble_eq_true rfl)) dX12_chance_30 ⟨(Nat.le_of_ble_eq_true rfl), (Nat.le_of_ble_eq_true rfl)⟩) hS (fun _ _ h => h.elim) (fun _ h => h.elim) (fun r24 u t H1 locs ht hvm hw hB hz1 hk1 hS => ?_)
        have hP := hz_keep hP hk1
        clear hk1 hB hz1
        generalize H1 = H at hP hS ⊢
        have hw_r24 := hw
        refine va_calli (va_runS (As := [.int r24]) (rest := []) ⟨hx, hb, hml, hown, hT⟩ (c_X12_bits_S l D cs kK kV r24 hw_r24) (va_cwS 1 hT (hz_gS q_1192 q_1193 q_701 q_1194) rfl rfl rfl (by decide +kernel) ⟨(Nat.le_of_ble_eq_true rfl), (Nat.le_of_ble_eq_true rfl)⟩) ⟨hz_P.blind, hz_P.mk (hP.sub (ws' := []) [] rfl) hE hS⟩ rfl rfl hl.1 rfl (lv_room (Nat.le_of_ble_eq_true rfl)) dX12_chance_33 ⟨(Nat.le_of_ble_eq_true rfl), (Nat.le_of_ble_eq_true rfl)⟩) hS (fun _ _ h => h.elim) (fun _ h => h.elim) (fun r25 u t H1 locs ht hvm hw hB hz1 hk1 hS => ?_)
        have hP := hz_keep hP hk1
        clear hk1 hB hz1
        generalize H1 = H at hP hS ⊢
        have hw_r25 := hw
        refine lv_istore (lv' := [(4, .int r25), (0, .ref a), (1, .int p0), (2, .int p1), (3, .int p2)]) hx hb dX12_chance_36 hl (by decide) rfl (fun ls hl => ?_)
        refine lv_aload_n hx hb dX12_chance_38 rfl (lv_at hl 1 rfl) ?_
        refine lv_aload_n hx hb dX12_chance_39 rfl (lv_at hl 1 rfl) ?_
        refine lv_iload_n hx hb dX12_chance_40 rfl (lv_at hl 2 rfl) ?_
        refine va_calli (va_runV (As := [.int p0]) (rest := [.ref a]) ⟨hx, hb, hml, hown, hT⟩ (c_X12_unseen l D cs kK kV a p0 a_said a_said_c a_tape a__taped a__rules a_sign a_length a_clause a_clauses a_read a__next a__wrong a__number a__text a__made a__deep a__lines a_open a__opened a_stack a__top a_word a__x a_worth a_mate a_wasSaid a__undone a__boughtNow a_wayBy a_wayThen a__walkMost a__walkGoing a__walkSet a_kept a__drawX a_images a_imageX a_isMade h3 h_a__taped h_a__rules h_a__next h_a__text h_a__made h_a__lines h_a__opened h_a__top h_a__x h_a__undone hf0) (cwV 1 hT (hz_gV q_1262 q_1263 q_1264 q_701 q_1265) rfl rfl rfl (by decide +kernel) ⟨(Nat.le_of_ble_eq_true rfl), (Nat.le_of_ble_eq_true rfl)⟩) ⟨hz_P.blind, va_recv hK hP (ci := 12) (q0 := 1) rfl rfl, hz_P.mk (hP.sub (ws' := [(a_said, .inl (cs 0, 123, .inl a_said_c)), (a, .inr (12, [.ref a_tape, .int a__taped, .int a__rules, .ref a_sign, .ref a_length, .ref a_clause, .ref a_clauses, .ref a_read, .int a__next, .int a__wrong, .int a__number, .int a__text, .int a__made, .int a__deep, .int a__lines, .ref a_open, .int a__opened, .ref a_stack, .int a__top, .ref a_word, .ref a_said, .int a__x, .ref a_worth, .ref a_mate, .ref a_wasSaid, .int a__undone, .int a__boughtNow, .ref a_wayBy, .ref a_wayThen, .int a__walkMost, .int a__walkGoing, .int a__walkSet, .ref a_kept, .long a__drawX, .ref a_images, .ref a_imageX, .ref a_isMade]))]) [0,1] rfl) hE hS⟩ rfl rfl hl.1 rfl (lv_room (Nat.le_of_ble_eq_true rfl)) dX12_chance_41 ⟨(Nat.le_of_ble_eq_true rfl), (Nat.le_of_ble_eq_true rfl)⟩) hS (fun _ _ h => h.elim) (fun _ h => h.elim) (fun r26 u t H1 locs ht hvm hw hB hz1 hk1 hS => ?_)
        have hP := hz_keep hP hk1
        clear hk1 hB hz1
        generalize H1 = H at hP hS ⊢
        have hw_r26 := hw
        refine lv_iload_n hx hb dX12_chance_44 rfl (lv_at hl 3 rfl) ?_
        refine lv_iconst (v := 2) hx hb dX12_chance_45 (by decide) ?_
        refine va_calli (va_runV (As := [.int r26, .int p1, .int 2]) (rest := []) ⟨hx, hb, hml, hown, hT⟩ (c_X12_fitting_S l D cs kK kV a r26 p1 2 a_said a_said_c a_tape a__taped a__rules a_sign a_length a_clause a_clauses a_read a__next a__wrong a__number a__text a__made a__deep a__lines a_open a__opened a_stack a__top a_word a__x a_worth a_mate a_wasSaid a__undone a__boughtNow a_wayBy a_wayThen a__walkMost a__walkGoing a__walkSet a_kept a__drawX a_images a_imageX a_isMade h10 h_a__taped h_a__rules h_a__next h_a__text h_a__made h_a__lines h_a__opened h_a__top h_a__x h_a__undone hf0) (cwV 3 hT (hz_gV q_1203 q_1204 q_1205 q_701 q_1206) rfl rfl rfl (by decide +kernel) ⟨(Nat.le_of_ble_eq_true rfl), (Nat.le_of_ble_eq_true rfl)⟩) ⟨hz_P.blind, va_recv hK hP (ci := 12) (q0 := 1) rfl rfl, hz_P.mk (hP.sub (ws' := [(a_said, .inl (cs 0, 123, .inl a_said_c)), (a, .inr (12, [.ref a_tape, .int a__taped, .int a__rules, .ref a_sign, .ref a_length, .ref a_clause, .ref a_clauses, .ref a_read, .int a__next, .int a__wrong, .int a__number, .int a__text, .int a__made, .int a__deep, .int a__lines, .ref a_open, .int a__opened, .ref a_stack, .int a__top, .ref a_word, .ref a_said, .int a__x, .ref a_worth, .ref a_mate, .ref a_wasSaid, .int a__undone, .int a__boughtNow, .ref a_wayBy, .ref a_wayThen, .int a__walkMost, .int a__walkGoing, .int a__walkSet, .ref a_kept, .long a__drawX, .ref a_images, .ref a_imageX, .ref a_isMade]))]) [0,1] rfl) hE hS⟩ rfl rfl hl.1 rfl (lv_room (Nat.le_of_ble_eq_true rfl)) dX12_chance_46 ⟨(Nat.le_of_ble_eq_true rfl), (Nat.le_of_ble_eq_true rfl)⟩) hS (fun _ _ h => h.elim) (fun _ h => h.elim) (fun r27 u t H1 locs ht hvm hw hB hz1 hk1 hS => ?_)
        have hP := hz_keep hP hk1
        clear hk1 hB hz1
        generalize H1 = H at hP hS ⊢
        have hw_r27 := hw
        refine lv_istore (lv' := [(5, .int r27), (4, .int r25), (0, .ref a), (1, .int p0), (2, .int p1), (3, .int p2)]) hx hb dX12_chance_49 hl (by decide) rfl (fun ls hl => ?_)
        refine lv_iload hx hb dX12_chance_51 (lv_at hl 1 rfl) ?_
        refine lv_if_ne (tgt := 58) hx hb dX12_chance_53 (by decide) (fun c28 => ?_) (fun c28 => ?_)
        · have t29 : r25.toInt ≠ 0 := lin_ne c28 rfl (by decide)
          have h30 : IV 1 4095 r25 := iv_neL c28 hw_r25 (by decide)
          have ii31 : 1 ≤ r25.toInt ∧ r25.toInt ≤ 4095 := h30
          refine lv_iload_n hx hb dX12_chance_58 rfl (lv_at hl 5 rfl) ?_
          refine lv_if_ne (tgt := 67) hx hb dX12_chance_59 (by decide) (fun c32 => ?_) (fun c32 => ?_)
          · have t33 : p2.toInt ≠ 0 := lin_ne c32 rfl (by decide)
            have h34 : IV 1 1 p2 := iv_neL c32 h22 (by decide)
            have ii35 : 1 ≤ p2.toInt ∧ p2.toInt ≤ 1 := h34
            refine lv_iload hx hb dX12_chance_67 (lv_at hl 1 rfl) ?_
            refine lv_iload hx hb dX12_chance_69 (lv_at hl 1 rfl) ?_
            refine lv_iload hx hb dX12_chance_71 (lv_at hl 0 rfl) ?_
            refine va_calli (va_runS (As := [.int r25, .int r27]) (rest := [.int r25]) ⟨hx, hb, hml, hown, hT⟩ (c_X12_divisor l D cs kK kV r25 r27 h30 hw_r27) (va_cwS 2 hT (hz_gS q_1266 q_1267 q_701 q_1268) rfl rfl rfl (by decide +kernel) ⟨(Nat.le_of_ble_eq_true rfl), (Nat.le_of_ble_eq_true rfl)⟩) ⟨hz_P.blind, hz_P.mk (hP.sub (ws' := []) [] rfl) hE hS⟩ rfl rfl hl.1 rfl (lv_room (Nat.le_of_ble_eq_true rfl)) dX12_chance_73 ⟨(Nat.le_of_ble_eq_true rfl), (Nat.le_of_ble_eq_true rfl)⟩) hS (fun _ _ h => h.elim) (fun _ h => h.elim) (fun r36 u t H1 locs ht hvm hw hB hz1 hk1 hS => ?_)
            have hP := hz_keep hP hk1
            clear hk1 hB hz1
            generalize H1 = H at hP hS ⊢
            have hw_r36 := hw
            refine lv_idiv hx hb dX12_chance_76 (iv_ne0 hw_r36 (by decide)) ?_
            refine lv_topi (fun v37 ev37 => ?_)
            have hv37 : IV 0 4095 v37 := iv_div ev37 h30 hw_r36 (by decide) (by decide)
            have ii38 : 0 ≤ v37.toInt ∧ v37.toInt ≤ 4095 := hv37
            exact W.iret (v := v37) hx hb hr (fun t ht hW => ⟨⟨v37, (), rfl, (Or.inr ((⟨hv37, h3, h10, (iv_w h34 (by decide) (by decide))⟩))), trivial⟩, hS.F ht⟩) hS.2.2 dX12_chance_77
          · have t39 : p2.toInt = 0 := lin_eqN c32 rfl (by decide)
            have h40 : IV 0 0 p2 := iv_eq1 c32 h22 (iv_c (a := 0) (b := 0) (by decide)) (by decide) (by decide)
            have ii41 : 0 ≤ p2.toInt ∧ p2.toInt ≤ 0 := h40
            refine lv_iload hx hb dX12_chance_62 (lv_at hl 0 rfl) ?_
            refine lv_goto (tgt := 69) hx hb dX12_chance_64 (by decide) ?_
            refine lv_iload hx hb dX12_chance_69 (lv_at hl 1 rfl) ?_
            refine lv_iload hx hb dX12_chance_71 (lv_at hl 0 rfl) ?_
            refine va_calli (va_runS (As := [.int r25, .int r27]) (rest := [.int r27]) ⟨hx, hb, hml, hown, hT⟩ (c_X12_divisor l D cs kK kV r25 r27 h30 hw_r27) (va_cwS 2 hT (hz_gS q_1266 q_1267 q_701 q_1268) rfl rfl rfl (by decide +kernel) ⟨(Nat.le_of_ble_eq_true rfl), (Nat.le_of_ble_eq_true rfl)⟩) ⟨hz_P.blind, hz_P.mk (hP.sub (ws' := []) [] rfl) hE hS⟩ rfl rfl hl.1 rfl (lv_room (Nat.le_of_ble_eq_true rfl)) dX12_chance_73 ⟨(Nat.le_of_ble_eq_true rfl), (Nat.le_of_ble_eq_true rfl)⟩) hS (fun _ _ h => h.elim) (fun _ h => h.elim) (fun r42 u t H1 locs ht hvm hw hB hz1 hk1 hS => ?_)
            have hP := hz_keep hP hk1
            clear hk1 hB hz1
            generalize H1 = H at hP hS ⊢
            have hw_r42 := hw
            refine lv_idiv hx hb dX12_chance_76 (iv_ne0 hw_r42 (by decide)) ?_
            refine lv_topi (fun v43 ev43 => ?_)
            have hv43 : IV 0 12 v43 := iv_div ev43 hw_r27 hw_r42 (by decide) (by decide)
            have ii44 : 0 ≤ v43.toInt ∧ v43.toInt ≤ 12 := hv43
            exact W.iret (v := v43) hx hb hr (fun t ht hW => ⟨⟨v43, (), rfl, (Or.inr ((⟨(iv_w hv43 (by decide) (by decide)), h3, h10, (iv_w h40 (by decide) (by decide))⟩))), trivial⟩, hS.F ht⟩) hS.2.2 dX12_chance_77
        · have t45 : r25.toInt = 0 := lin_eqN c28 rfl (by decide)
          have h46 : IV 0 0 r25 := iv_eq1 c28 hw_r25 (iv_c (a := 0) (b := 0) (by decide)) (by decide) (by decide)
          have ii47 : 0 ≤ r25.toInt ∧ r25.toInt ≤ 0 := h46
          refine lv_iload_n hx hb dX12_chance_56 rfl (lv_at hl 5 rfl) ?_
          exact W.iret (v := p2) hx hb hr (fun t ht hW => ⟨⟨p2, (), rfl, (Or.inr ((⟨(iv_w h22 (by decide) (by decide)), h3, h10, h22⟩))), trivial⟩, hS.F ht⟩) hS.2.2 dX12_chance_57
theorem dX12_givesFor_0 : decode cX12_givesFor 0 = .ok (.aload_n 0, 1) := by decide +kernel
theorem dX12_givesFor_1 : decode cX12_givesFor 1 = .ok (.getfield 42, 3) := by decide +kernel
theorem dX12_givesFor_4 : decode cX12_givesFor 4 = .ok (.aload_n 0, 1) := by decide +kernel
theorem dX12_givesFor_5 : decode cX12_givesFor 5 = .ok (.iload_n 1, 1) := by decide +kernel
theorem dX12_givesFor_6 : decode cX12_givesFor 6 = .ok (.invokevirtual 346, 3) := by decide +kernel
theorem dX12_givesFor_9 : decode cX12_givesFor 9 = .ok (.iconst 1, 1) := by decide +kernel
theorem dX12_givesFor_10 : decode cX12_givesFor 10 = .ok (.iload_n 2, 1) := by decide +kernel
theorem dX12_givesFor_11 : decode cX12_givesFor 11 = .ok (.ishl, 1) := by decide +kernel
theorem dX12_givesFor_12 : decode cX12_givesFor 12 = .ok (.ior, 1) := by decide +kernel
theorem dX12_givesFor_13 : decode cX12_givesFor 13 = .ok (.iaload, 1) := by decide +kernel
theorem dX12_givesFor_14 : decode cX12_givesFor 14 = .ok (.aload_n 0, 1) := by decide +kernel
theorem dX12_givesFor_15 : decode cX12_givesFor 15 = .ok (.getfield 42, 3) := by decide +kernel
theorem dX12_givesFor_18 : decode cX12_givesFor 18 = .ok (.aload_n 0, 1) := by decide +kernel
theorem dX12_givesFor_19 : decode cX12_givesFor 19 = .ok (.iload_n 1, 1) := by decide +kernel
theorem dX12_givesFor_20 : decode cX12_givesFor 20 = .ok (.invokevirtual 346, 3) := by decide +kernel
theorem dX12_givesFor_23 : decode cX12_givesFor 23 = .ok (.iaload, 1) := by decide +kernel
theorem dX12_givesFor_24 : decode cX12_givesFor 24 = .ok (.isub, 1) := by decide +kernel
theorem dX12_givesFor_25 : decode cX12_givesFor 25 = .ok (.ireturn, 1) := by decide +kernel
set_option maxHeartbeats 4000000 in
set_option maxRecDepth 100000 in
theorem c_X12_givesFor (l : Launch) (D : va_G) (cs : Nat → ClassId) (kK kV : Nat → Nat) (a : Nat) (p0 : Int32) (p1 : Int32) (a_said : Nat) (a_said_c : Nat → Int32) (a_tape : Nat) (a__taped : Int32) (a__rules : Int32) (a_sign : Nat) (a_length : Nat) (a_clause : Nat) (a_clauses : Nat) (a_read : Nat) (a__next : Int32) (a__wrong : Int32) (a__number : Int32) (a__text : Int32) (a__made : Int32) (a__deep : Int32) (a__lines : Int32) (a_open : Nat) (a__opened : Int32) (a_stack : Nat) (a__top : Int32) (a_word : Nat) (a__x : Int32) (a_worth : Nat) (a_mate : Nat) (a_wasSaid : Nat) (a__undone : Int32) (a__boughtNow : Int32) (a_wayBy : Nat) (a_wayThen : Nat) (a__walkMost : Int32) (a__walkGoing : Int32) (a__walkSet : Int32) (a_kept : Nat) (a__drawX : Int64) (a_images : Nat) (a_imageX : Nat) (a_isMade : Nat) (a_worth_c : Nat → Int32) (h_p0 : IV 0 3 p0) (h_p1 : IV 0 11 p1) (h_a__taped : IV 0 400 a__taped) (h_a__rules : IV 0 6 a__rules) (h_a__next : IV 0 400 a__next) (h_a__text : IV 0 6 a__text) (h_a__made : IV 0 60 a__made) (h_a__lines : IV 0 40 a__lines) (h_a__opened : IV 0 400 a__opened) (h_a__top : IV 0 64 a__top) (h_a__x : IV 0 2147483647 a__x) (h_a__undone : IV 0 20 a__undone) (hf0 : BS a_said_c 200) : Met l yX12_givesFor (hz_w yX12_givesFor cX12_givesFor 3 (some .int)) ({ frames := 2, cells := 0, slots := 0, locals := 45 }) (va_Pc [.ref a, .int p0, .int p1] (hz_P D cs kK kV [(a_said, .inl (cs 0, 123, .inl a_said_c)), (a, .inr (12, [.ref a_tape, .int a__taped, .int a__rules, .ref a_sign, .ref a_length, .ref a_clause, .ref a_clauses, .ref a_read, .int a__next, .int a__wrong, .int a__number, .int a__text, .int a__made, .int a__deep, .int a__lines, .ref a_open, .int a__opened, .ref a_stack, .int a__top, .ref a_word, .ref a_said, .int a__x, .ref a_worth, .ref a_mate, .ref a_wasSaid, .int a__undone, .int a__boughtNow, .ref a_wayBy, .ref a_wayThen, .int a__walkMost, .int a__walkGoing, .int a__walkSet, .ref a_kept, .long a__drawX, .ref a_images, .ref a_imageX, .ref a_isMade])), (a_worth, .inl (cs 0, 4096, .inl a_worth_c))])) (va_Qi (fun (r : Int32) (_ : Unit) => True) (fun _ t => True) (fun _ => False)) 0 0 (fun _ => False) := by
  refine Met.ofW (cc := cX12_givesFor) (maxL := 3) (ret := (some .int)) (by decide) rfl ?_
  intro p e s m args below meth c s₁ B hml hv
  obtain ⟨rfl, hP, hE⟩ := hv
  have hx := B.exec
  have hb := B.bytes
  have hr := B.returns
  have hT : ∀ w ∈ TB, w.before _ s = true := fun w h => atoms_spec (ws := hz_w yX12_givesFor cX12_givesFor 3 (some .int)) B.pre w (List.mem_cons_of_mem _ h)
  have hown : s.vm.findClass RX12 = some m.cls := findClass_of_methodNamed B.named
  have hlocks := B.notSynchronized
  clear B
  have hS : va_S (fun _ => False) s.heap s.heap [] := va_S.rf
  have hK := hE.1
  have hl := lv_entry ([.ref a, .int p0, .int p1]) (n := 3) (Nat.le_of_ble_eq_true rfl)
  rw [lg_entry_eq]
  generalize (lg_sl ([.ref a, .int p0, .int p1]) ++ List.replicate (3 - (lg_sl ([.ref a, .int p0, .int p1])).length) Slot.unset).toArray = ls at hl ⊢
  have hl : lv_has ls 3 [(0, .ref a), (1, .int p0), (2, .int p1)] := hl
  obtain ⟨H, eH⟩ : ∃ z, z = s.heap := ⟨_, rfl⟩
  have hP : va_P D classes [(a_said, .inl (cs 0, 123, .inl a_said_c)), (a, .inr (12, [.ref a_tape, .int a__taped, .int a__rules, .ref a_sign, .ref a_length, .ref a_clause, .ref a_clauses, .ref a_read, .int a__next, .int a__wrong, .int a__number, .int a__text, .int a__made, .int a__deep, .int a__lines, .ref a_open, .int a__opened, .ref a_stack, .int a__top, .ref a_word, .ref a_said, .int a__x, .ref a_worth, .ref a_mate, .ref a_wasSaid, .int a__undone, .int a__boughtNow, .ref a_wayBy, .ref a_wayThen, .int a__walkMost, .int a__walkGoing, .int a__walkSet, .ref a_kept, .long a__drawX, .ref a_images, .ref a_imageX, .ref a_isMade])), (a_worth, .inl (cs 0, 4096, .inl a_worth_c))] H := by rw [eH]; exact hP
  have hS : va_S (fun _ => False) s.heap H [] := by rw [eH]; exact hS
  rw [← eH]
  clear eH
  obtain ⟨locs, el⟩ : ∃ z : List Loc, z = [] := ⟨_, rfl⟩
  rw [← el] at hS ⊢
  clear el
  have z0 : (0 : Int32).toInt = 0 := by decide
  have z1 : (1 : Int32).toInt = 1 := by decide
  have zm1 : (-1 : Int32).toInt = -1 := by decide
  have i_a__lines : 0 ≤ a__lines.toInt ∧ a__lines.toInt ≤ 40 := h_a__lines
  have i_a__made : 0 ≤ a__made.toInt ∧ a__made.toInt ≤ 60 := h_a__made
  have i_a__next : 0 ≤ a__next.toInt ∧ a__next.toInt ≤ 400 := h_a__next
  have i_a__opened : 0 ≤ a__opened.toInt ∧ a__opened.toInt ≤ 400 := h_a__opened
  have i_a__rules : 0 ≤ a__rules.toInt ∧ a__rules.toInt ≤ 6 := h_a__rules
  have i_a__taped : 0 ≤ a__taped.toInt ∧ a__taped.toInt ≤ 400 := h_a__taped
  have i_a__text : 0 ≤ a__text.toInt ∧ a__text.toInt ≤ 6 := h_a__text
  have i_a__top : 0 ≤ a__top.toInt ∧ a__top.toInt ≤ 64 := h_a__top
  have i_a__undone : 0 ≤ a__undone.toInt ∧ a__undone.toInt ≤ 20 := h_a__undone
  have i_a__x : 0 ≤ a__x.toInt ∧ a__x.toInt ≤ 2147483647 := h_a__x
  have i_p0 : 0 ≤ p0.toInt ∧ p0.toInt ≤ 3 := h_p0
  have i_p1 : 0 ≤ p1.toInt ∧ p1.toInt ≤ 11 := h_p1
  refine lv_aload_n hx hb dX12_givesFor_0 rfl (lv_at hl 0 rfl) ?_
  refine va_get (D := D) (ci := 12) (v := .ref a_worth) (C := RX12) (T := TX12) (N := 37) hx hb hT i_X12 hown hK hP 1 rfl rfl 22 (by decide) (hT _ q_186) (fun _ h9 => h9) rfl dX12_givesFor_1 ?_
  refine lv_aload_n hx hb dX12_givesFor_4 rfl (lv_at hl 0 rfl) ?_
  refine lv_iload_n hx hb dX12_givesFor_5 rfl (lv_at hl 1 rfl) ?_
  refine va_calli (va_runV (As := [.int p0]) (rest := [.ref a_worth]) ⟨hx, hb, hml, hown, hT⟩ (c_X12_hasOf l D cs kK kV a p0 a_said a_said_c a_tape a__taped a__rules a_sign a_length a_clause a_clauses a_read a__next a__wrong a__number a__text a__made a__deep a__lines a_open a__opened a_stack a__top a_word a__x a_worth a_mate a_wasSaid a__undone a__boughtNow a_wayBy a_wayThen a__walkMost a__walkGoing a__walkSet a_kept a__drawX a_images a_imageX a_isMade h_a__taped h_a__rules h_a__next h_a__text h_a__made h_a__lines h_a__opened h_a__top h_a__x h_a__undone hf0) (cwV 1 hT (hz_gV q_1160 q_1161 q_1162 q_701 q_1163) rfl rfl rfl (by decide +kernel) ⟨(Nat.le_of_ble_eq_true rfl), (Nat.le_of_ble_eq_true rfl)⟩) ⟨hz_P.blind, va_recv hK hP (ci := 12) (q0 := 1) rfl rfl, hz_P.mk (hP.sub (ws' := [(a_said, .inl (cs 0, 123, .inl a_said_c)), (a, .inr (12, [.ref a_tape, .int a__taped, .int a__rules, .ref a_sign, .ref a_length, .ref a_clause, .ref a_clauses, .ref a_read, .int a__next, .int a__wrong, .int a__number, .int a__text, .int a__made, .int a__deep, .int a__lines, .ref a_open, .int a__opened, .ref a_stack, .int a__top, .ref a_word, .ref a_said, .int a__x, .ref a_worth, .ref a_mate, .ref a_wasSaid, .int a__undone, .int a__boughtNow, .ref a_wayBy, .ref a_wayThen, .int a__walkMost, .int a__walkGoing, .int a__walkSet, .ref a_kept, .long a__drawX, .ref a_images, .ref a_imageX, .ref a_isMade]))]) [0,1] rfl) hE hS⟩ rfl rfl hl.1 rfl (lv_room (Nat.le_of_ble_eq_true rfl)) dX12_givesFor_6 ⟨(Nat.le_of_ble_eq_true rfl), (Nat.le_of_ble_eq_true rfl)⟩) hS (fun _ _ h => h.elim) (fun _ h => h.elim) (fun r1 u t H1 locs ht hvm hw hB hz1 hk1 hS => ?_)
  have hP := hz_keep hP hk1
  clear hk1 hB hz1
  generalize H1 = H at hP hS ⊢
  have hw_r1 := hw
  refine lv_iconst (v := 1) hx hb dX12_givesFor_9 (by decide) ?_
  refine lv_iload_n hx hb dX12_givesFor_10 rfl (lv_at hl 2 rfl) ?_
  refine lv_ishl hx hb dX12_givesFor_11 ?_
  refine lv_topi (fun v2 ev2 => ?_)
  have hv2 : IV 1 2048 v2 := iv_shl1 ev2 h_p1 (by decide) (by decide) (by decide)
  have ii3 : 1 ≤ v2.toInt ∧ v2.toInt ≤ 2048 := hv2
  refine lv_ior hx hb dX12_givesFor_12 ?_
  refine lv_topi (fun v4 ev4 => ?_)
  have hv4 : IV 0 4095 v4 := iv_or (k := 12) ev4 hw_r1 hv2 (by decide) (by decide) (by decide) (by decide) (by decide) (by decide)
  have ii5 : 0 ≤ v4.toInt ∧ v4.toInt ≤ 4095 := hv4
  refine va_iald hx hb hK hP 2 0 rfl rfl (iv_v hv4 (by decide) (by decide)) dX12_givesFor_13 ?_
  refine lv_topi (fun v6 ev6 => ?_)
  have lv6 : v6.toInt = (a_worth_c (Int32.toNatClampNeg v4)).toInt := by rw [ev6]
  refine lv_aload_n hx hb dX12_givesFor_14 rfl (lv_at hl 0 rfl) ?_
  refine va_get (D := D) (ci := 12) (v := .ref a_worth) (C := RX12) (T := TX12) (N := 37) hx hb hT i_X12 hown hK hP 1 rfl rfl 22 (by decide) (hT _ q_186) (fun _ h9 => h9) rfl dX12_givesFor_15 ?_
  refine lv_aload_n hx hb dX12_givesFor_18 rfl (lv_at hl 0 rfl) ?_
  refine lv_iload_n hx hb dX12_givesFor_19 rfl (lv_at hl 1 rfl) ?_
  refine va_calli (va_runV (As := [.int p0]) (rest := [.ref a_worth, .int v6]) ⟨hx, hb, hml, hown, hT⟩ (c_X12_hasOf l D cs kK kV a p0 a_said a_said_c a_tape a__taped a__rules a_sign a_length a_clause a_clauses a_read a__next a__wrong a__number a__text a__made a__deep a__lines a_open a__opened a_stack a__top a_word a__x a_worth a_mate a_wasSaid a__undone a__boughtNow a_wayBy a_wayThen a__walkMost a__walkGoing a__walkSet a_kept a__drawX a_images a_imageX a_isMade h_a__taped h_a__rules h_a__next h_a__text h_a__made h_a__lines h_a__opened h_a__top h_a__x h_a__undone hf0) (cwV 1 hT (hz_gV q_1160 q_1161 q_1162 q_701 q_1163) rfl rfl rfl (by decide +kernel) ⟨(Nat.le_of_ble_eq_true rfl), (Nat.le_of_ble_eq_true rfl)⟩) ⟨hz_P.blind, va_recv hK hP (ci := 12) (q0 := 1) rfl rfl, hz_P.mk (hP.sub (ws' := [(a_said, .inl (cs 0, 123, .inl a_said_c)), (a, .inr (12, [.ref a_tape, .int a__taped, .int a__rules, .ref a_sign, .ref a_length, .ref a_clause, .ref a_clauses, .ref a_read, .int a__next, .int a__wrong, .int a__number, .int a__text, .int a__made, .int a__deep, .int a__lines, .ref a_open, .int a__opened, .ref a_stack, .int a__top, .ref a_word, .ref a_said, .int a__x, .ref a_worth, .ref a_mate, .ref a_wasSaid, .int a__undone, .int a__boughtNow, .ref a_wayBy, .ref a_wayThen, .int a__walkMost, .int a__walkGoing, .int a__walkSet, .ref a_kept, .long a__drawX, .ref a_images, .ref a_imageX, .ref a_isMade]))]) [0,1] rfl) hE hS⟩ rfl rfl hl.1 rfl (lv_room (Nat.le_of_ble_eq_true rfl)) dX12_givesFor_20 ⟨(Nat.le_of_ble_eq_true rfl), (Nat.le_of_ble_eq_true rfl)⟩) hS (fun _ _ h => h.elim) (fun _ h => h.elim) (fun r7 u t H1 locs ht hvm hw hB hz1 hk1 hS => ?_)
  have hP := hz_keep hP hk1
  clear hk1 hB hz1
  generalize H1 = H at hP hS ⊢
  have hw_r7 := hw
  refine va_iald hx hb hK hP 2 0 rfl rfl (iv_v hw_r7 (by decide) (by decide)) dX12_givesFor_23 ?_
  refine lv_topi (fun v8 ev8 => ?_)
  have lv8 : v8.toInt = (a_worth_c (Int32.toNatClampNeg r7)).toInt := by rw [ev8]
  refine lv_isub hx hb dX12_givesFor_24 ?_
  refine lv_topi (fun v9 ev9 => ?_)
  exact W.iret (v := v9) hx hb hr (fun t ht hW => ⟨⟨v9, (), rfl, trivial, trivial⟩, hS.F ht⟩) hS.2.2 dX12_givesFor_25
theorem dX12_yields_0 : decode cX12_yields 0 = .ok (.aload_n 0, 1) := by decide +kernel
theorem dX12_yields_1 : decode cX12_yields 1 = .ok (.iload_n 1, 1) := by decide +kernel
theorem dX12_yields_2 : decode cX12_yields 2 = .ok (.iload_n 2, 1) := by decide +kernel
theorem dX12_yields_3 : decode cX12_yields 3 = .ok (.iload_n 3, 1) := by decide +kernel
theorem dX12_yields_4 : decode cX12_yields 4 = .ok (.iload 4, 2) := by decide +kernel
theorem dX12_yields_6 : decode cX12_yields 6 = .ok (.invokevirtual 377, 3) := by decide +kernel
theorem dX12_yields_9 : decode cX12_yields 9 = .ok (.ifCond .eq 24, 3) := by decide +kernel
theorem dX12_yields_12 : decode cX12_yields 12 = .ok (.aload_n 0, 1) := by decide +kernel
theorem dX12_yields_13 : decode cX12_yields 13 = .ok (.iload_n 2, 1) := by decide +kernel
theorem dX12_yields_14 : decode cX12_yields 14 = .ok (.iload 4, 2) := by decide +kernel
theorem dX12_yields_16 : decode cX12_yields 16 = .ok (.invokevirtual 326, 3) := by decide +kernel
theorem dX12_yields_19 : decode cX12_yields 19 = .ok (.ifCond .eq 14, 3) := by decide +kernel
theorem dX12_yields_22 : decode cX12_yields 22 = .ok (.iload 5, 2) := by decide +kernel
theorem dX12_yields_24 : decode cX12_yields 24 = .ok (.i2l, 1) := by decide +kernel
theorem dX12_yields_25 : decode cX12_yields 25 = .ok (.lconst 0, 1) := by decide +kernel
theorem dX12_yields_26 : decode cX12_yields 26 = .ok (.lconst 1, 1) := by decide +kernel
theorem dX12_yields_27 : decode cX12_yields 27 = .ok (.invokestatic 109, 3) := by decide +kernel
theorem dX12_yields_30 : decode cX12_yields 30 = .ok (.ifCond .ne 5, 3) := by decide +kernel
theorem dX12_yields_33 : decode cX12_yields 33 = .ok (.iconst (-1), 1) := by decide +kernel
theorem dX12_yields_34 : decode cX12_yields 34 = .ok (.ireturn, 1) := by decide +kernel
theorem dX12_yields_35 : decode cX12_yields 35 = .ok (.aload_n 0, 1) := by decide +kernel
theorem dX12_yields_36 : decode cX12_yields 36 = .ok (.iload_n 1, 1) := by decide +kernel
theorem dX12_yields_37 : decode cX12_yields 37 = .ok (.iload 4, 2) := by decide +kernel
theorem dX12_yields_39 : decode cX12_yields 39 = .ok (.invokevirtual 454, 3) := by decide +kernel
theorem dX12_yields_42 : decode cX12_yields 42 = .ok (.istore 6, 2) := by decide +kernel
theorem dX12_yields_44 : decode cX12_yields 44 = .ok (.aload_n 0, 1) := by decide +kernel
theorem dX12_yields_45 : decode cX12_yields 45 = .ok (.iload_n 3, 1) := by decide +kernel
theorem dX12_yields_46 : decode cX12_yields 46 = .ok (.iload_n 2, 1) := by decide +kernel
theorem dX12_yields_47 : decode cX12_yields 47 = .ok (.invokevirtual 454, 3) := by decide +kernel
theorem dX12_yields_50 : decode cX12_yields 50 = .ok (.istore 7, 2) := by decide +kernel
theorem dX12_yields_52 : decode cX12_yields 52 = .ok (.iload 5, 2) := by decide +kernel
theorem dX12_yields_54 : decode cX12_yields 54 = .ok (.iconst 1, 1) := by decide +kernel
theorem dX12_yields_55 : decode cX12_yields 55 = .ok (.if_icmp .ne 11, 3) := by decide +kernel
theorem dX12_yields_58 : decode cX12_yields 58 = .ok (.iload 6, 2) := by decide +kernel
theorem dX12_yields_60 : decode cX12_yields 60 = .ok (.iload 7, 2) := by decide +kernel
theorem dX12_yields_62 : decode cX12_yields 62 = .ok (.iadd, 1) := by decide +kernel
theorem dX12_yields_63 : decode cX12_yields 63 = .ok (.iconst 2, 1) := by decide +kernel
theorem dX12_yields_64 : decode cX12_yields 64 = .ok (.idiv, 1) := by decide +kernel
theorem dX12_yields_65 : decode cX12_yields 65 = .ok (.ireturn, 1) := by decide +kernel
theorem dX12_yields_66 : decode cX12_yields 66 = .ok (.iload 6, 2) := by decide +kernel
theorem dX12_yields_68 : decode cX12_yields 68 = .ok (.iload 7, 2) := by decide +kernel
theorem dX12_yields_70 : decode cX12_yields 70 = .ok (.if_icmp .ge 7, 3) := by decide +kernel
theorem dX12_yields_73 : decode cX12_yields 73 = .ok (.iload_n 1, 1) := by decide +kernel
theorem dX12_yields_74 : decode cX12_yields 74 = .ok (.goto 24, 3) := by decide +kernel
theorem dX12_yields_77 : decode cX12_yields 77 = .ok (.iload 7, 2) := by decide +kernel
theorem dX12_yields_79 : decode cX12_yields 79 = .ok (.iload 6, 2) := by decide +kernel
theorem dX12_yields_81 : decode cX12_yields 81 = .ok (.if_icmp .ge 7, 3) := by decide +kernel
theorem dX12_yields_84 : decode cX12_yields 84 = .ok (.iload_n 3, 1) := by decide +kernel
theorem dX12_yields_85 : decode cX12_yields 85 = .ok (.goto 13, 3) := by decide +kernel
theorem dX12_yields_88 : decode cX12_yields 88 = .ok (.iload_n 1, 1) := by decide +kernel
theorem dX12_yields_89 : decode cX12_yields 89 = .ok (.iload_n 3, 1) := by decide +kernel
theorem dX12_yields_90 : decode cX12_yields 90 = .ok (.if_icmp .ge 7, 3) := by decide +kernel
theorem dX12_yields_93 : decode cX12_yields 93 = .ok (.iload_n 1, 1) := by decide +kernel
theorem dX12_yields_94 : decode cX12_yields 94 = .ok (.goto 4, 3) := by decide +kernel
theorem dX12_yields_97 : decode cX12_yields 97 = .ok (.iload_n 3, 1) := by decide +kernel
theorem dX12_yields_98 : decode cX12_yields 98 = .ok (.ireturn, 1) := by decide +kernel
set_option maxHeartbeats 4000000 in
set_option maxRecDepth 100000 in
theorem c_X12_yields (l : Launch) (D : va_G) (cs : Nat → ClassId) (kK kV : Nat → Nat) (a : Nat) (p0 : Int32) (p1 : Int32) (p2 : Int32) (p3 : Int32) (p4 : Int32) (a_said : Nat) (a_said_c : Nat → Int32) (a_tape : Nat) (a__taped : Int32) (a__rules : Int32) (a_sign : Nat) (a_length : Nat) (a_clause : Nat) (a_clauses : Nat) (a_read : Nat) (a__next : Int32) (a__wrong : Int32) (a__number : Int32) (a__text : Int32) (a__made : Int32) (a__deep : Int32) (a__lines : Int32) (a_open : Nat) (a__opened : Int32) (a_stack : Nat) (a__top : Int32) (a_word : Nat) (a__x : Int32) (a_worth : Nat) (a_mate : Nat) (a_wasSaid : Nat) (a__undone : Int32) (a__boughtNow : Int32) (a_wayBy : Nat) (a_wayThen : Nat) (a__walkMost : Int32) (a__walkGoing : Int32) (a__walkSet : Int32) (a_kept : Nat) (a__drawX : Int64) (a_images : Nat) (a_imageX : Nat) (a_isMade : Nat) (a_worth_c : Nat → Int32) (h_a__taped : IV 0 400 a__taped) (h_a__rules : IV 0 6 a__rules) (h_a__next : IV 0 400 a__next) (h_a__text : IV 0 6 a__text) (h_a__made : IV 0 60 a__made) (h_a__lines : IV 0 40 a__lines) (h_a__opened : IV 0 400 a__opened) (h_a__top : IV 0 64 a__top) (h_a__x : IV 0 2147483647 a__x) (h_a__undone : IV 0 20 a__undone) (hf0 : BS a_said_c 200) : Met l yX12_yields (hz_w yX12_yields cX12_yields 8 (some .int)) ({ frames := 3, cells := 0, slots := 0, locals := 67 }) (va_Pc [.ref a, .int p0, .int p1, .int p2, .int p3, .int p4] (hz_P D cs kK kV [(a_said, .inl (cs 0, 123, .inl a_said_c)), (a, .inr (12, [.ref a_tape, .int a__taped, .int a__rules, .ref a_sign, .ref a_length, .ref a_clause, .ref a_clauses, .ref a_read, .int a__next, .int a__wrong, .int a__number, .int a__text, .int a__made, .int a__deep, .int a__lines, .ref a_open, .int a__opened, .ref a_stack, .int a__top, .ref a_word, .ref a_said, .int a__x, .ref a_worth, .ref a_mate, .ref a_wasSaid, .int a__undone, .int a__boughtNow, .ref a_wayBy, .ref a_wayThen, .int a__walkMost, .int a__walkGoing, .int a__walkSet, .ref a_kept, .long a__drawX, .ref a_images, .ref a_imageX, .ref a_isMade])), (a_worth, .inl (cs 0, 4096, .inl a_worth_c))])) (va_Qi (fun (r : Int32) (_ : Unit) => (r = (-1) ∧ IV (-2147483648) 2147483647 p0) ∨ (IV 0 3 p0 ∧ IV 0 11 p1 ∧ IV 0 3 p2 ∧ IV 0 11 p3 ∧ IV 0 1 p4)) (fun _ t => True) (fun _ => False)) 0 0 (fun _ => False) := by
  refine Met.ofW (cc := cX12_yields) (maxL := 8) (ret := (some .int)) (by decide) rfl ?_
  intro p e s m args below meth c s₁ B hml hv
  obtain ⟨rfl, hP, hE⟩ := hv
  have hx := B.exec
  have hb := B.bytes
  have hr := B.returns
  have hT : ∀ w ∈ TB, w.before _ s = true := fun w h => atoms_spec (ws := hz_w yX12_yields cX12_yields 8 (some .int)) B.pre w (List.mem_cons_of_mem _ h)
  have hown : s.vm.findClass RX12 = some m.cls := findClass_of_methodNamed B.named
  have hlocks := B.notSynchronized
  clear B
  have hS : va_S (fun _ => False) s.heap s.heap [] := va_S.rf
  have hK := hE.1
  have hl := lv_entry ([.ref a, .int p0, .int p1, .int p2, .int p3, .int p4]) (n := 8) (Nat.le_of_ble_eq_true rfl)
  rw [lg_entry_eq]
  generalize (lg_sl ([.ref a, .int p0, .int p1, .int p2, .int p3, .int p4]) ++ List.replicate (8 - (lg_sl ([.ref a, .int p0, .int p1, .int p2, .int p3, .int p4])).length) Slot.unset).toArray = ls at hl ⊢
  have hl : lv_has ls 8 [(0, .ref a), (1, .int p0), (2, .int p1), (3, .int p2), (4, .int p3), (5, .int p4)] := hl
  obtain ⟨H, eH⟩ : ∃ z, z = s.heap := ⟨_, rfl⟩
  have hP : va_P D classes [(a_said, .inl (cs 0, 123, .inl a_said_c)), (a, .inr (12, [.ref a_tape, .int a__taped, .int a__rules, .ref a_sign, .ref a_length, .ref a_clause, .ref a_clauses, .ref a_read, .int a__next, .int a__wrong, .int a__number, .int a__text, .int a__made, .int a__deep, .int a__lines, .ref a_open, .int a__opened, .ref a_stack, .int a__top, .ref a_word, .ref a_said, .int a__x, .ref a_worth, .ref a_mate, .ref a_wasSaid, .int a__undone, .int a__boughtNow, .ref a_wayBy, .ref a_wayThen, .int a__walkMost, .int a__walkGoing, .int a__walkSet, .ref a_kept, .long a__drawX, .ref a_images, .ref a_imageX, .ref a_isMade])), (a_worth, .inl (cs 0, 4096, .inl a_worth_c))] H := by rw [eH]; exact hP
  have hS : va_S (fun _ => False) s.heap H [] := by rw [eH]; exact hS
  rw [← eH]
  clear eH
  obtain ⟨locs, el⟩ : ∃ z : List Loc, z = [] := ⟨_, rfl⟩
  rw [← el] at hS ⊢
  clear el
  have z0 : (0 : Int32).toInt = 0 := by decide
  have z1 : (1 : Int32).toInt = 1 := by decide
  have zm1 : (-1 : Int32).toInt = -1 := by decide
  have i_a__lines : 0 ≤ a__lines.toInt ∧ a__lines.toInt ≤ 40 := h_a__lines
  have i_a__made : 0 ≤ a__made.toInt ∧ a__made.toInt ≤ 60 := h_a__made
  have i_a__next : 0 ≤ a__next.toInt ∧ a__next.toInt ≤ 400 := h_a__next
  have i_a__opened : 0 ≤ a__opened.toInt ∧ a__opened.toInt ≤ 400 := h_a__opened
  have i_a__rules : 0 ≤ a__rules.toInt ∧ a__rules.toInt ≤ 6 := h_a__rules
  have i_a__taped : 0 ≤ a__taped.toInt ∧ a__taped.toInt ≤ 400 := h_a__taped
  have i_a__text : 0 ≤ a__text.toInt ∧ a__text.toInt ≤ 6 := h_a__text
  have i_a__top : 0 ≤ a__top.toInt ∧ a__top.toInt ≤ 64 := h_a__top
  have i_a__undone : 0 ≤ a__undone.toInt ∧ a__undone.toInt ≤ 20 := h_a__undone
  have i_a__x : 0 ≤ a__x.toInt ∧ a__x.toInt ≤ 2147483647 := h_a__x
  refine lv_aload_n hx hb dX12_yields_0 rfl (lv_at hl 0 rfl) ?_
  refine lv_iload_n hx hb dX12_yields_1 rfl (lv_at hl 1 rfl) ?_
  refine lv_iload_n hx hb dX12_yields_2 rfl (lv_at hl 2 rfl) ?_
  refine lv_iload_n hx hb dX12_yields_3 rfl (lv_at hl 3 rfl) ?_
  refine lv_iload hx hb dX12_yields_4 (lv_at hl 4 rfl) ?_
  refine va_calli (va_runV (As := [.int p0, .int p1, .int p2, .int p3]) (rest := []) ⟨hx, hb, hml, hown, hT⟩ (c_X12_areTheirs l D cs kK kV a p0 p1 p2 p3 a_said a_said_c a_tape a__taped a__rules a_sign a_length a_clause a_clauses a_read a__next a__wrong a__number a__text a__made a__deep a__lines a_open a__opened a_stack a__top a_word a__x a_worth a_mate a_wasSaid a__undone a__boughtNow a_wayBy a_wayThen a__walkMost a__walkGoing a__walkSet a_kept a__drawX a_images a_imageX a_isMade h_a__taped h_a__rules h_a__next h_a__text h_a__made h_a__lines h_a__opened h_a__top h_a__x h_a__undone hf0) (cwV 4 hT (hz_gV q_1195 q_1196 q_1197 q_701 q_1198) rfl rfl rfl (by decide +kernel) ⟨(Nat.le_of_ble_eq_true rfl), (Nat.le_of_ble_eq_true rfl)⟩) ⟨hz_P.blind, va_recv hK hP (ci := 12) (q0 := 1) rfl rfl, hz_P.mk (hP.sub (ws' := [(a_said, .inl (cs 0, 123, .inl a_said_c)), (a, .inr (12, [.ref a_tape, .int a__taped, .int a__rules, .ref a_sign, .ref a_length, .ref a_clause, .ref a_clauses, .ref a_read, .int a__next, .int a__wrong, .int a__number, .int a__text, .int a__made, .int a__deep, .int a__lines, .ref a_open, .int a__opened, .ref a_stack, .int a__top, .ref a_word, .ref a_said, .int a__x, .ref a_worth, .ref a_mate, .ref a_wasSaid, .int a__undone, .int a__boughtNow, .ref a_wayBy, .ref a_wayThen, .int a__walkMost, .int a__walkGoing, .int a__walkSet, .ref a_kept, .long a__drawX, .ref a_images, .ref a_imageX, .ref a_isMade]))]) [0,1] rfl) hE hS⟩ rfl rfl hl.1 rfl (lv_room (Nat.le_of_ble_eq_true rfl)) dX12_yields_6 ⟨(Nat.le_of_ble_eq_true rfl), (Nat.le_of_ble_eq_true rfl)⟩) hS (fun _ _ h => h.elim) (fun _ h => h.elim) (fun r1 u t H1 locs ht hvm hw hB hz1 hk1 hS => ?_)
  have hP := hz_keep hP hk1
  clear hk1 hB hz1
  generalize H1 = H at hP hS ⊢
  rcases hw with ⟨rfl, h2⟩ | ⟨rfl, h3, h4, h5, h6, x7, x8⟩
  · have ii9 : (-2147483648) ≤ p0.toInt ∧ p0.toInt ≤ 2147483647 := h2
    refine lv_if_eq (tgt := 33) hx hb dX12_yields_9 (by decide) (fun _ => ?_) (fun z => absurd (by decide) z)
    refine lv_iconst (v := (-1)) hx hb dX12_yields_33 (by decide) ?_
    exact W.iret (v := (-1)) hx hb hr (fun t ht hW => ⟨⟨(-1), (), rfl, (Or.inl (⟨rfl, h2⟩)), trivial⟩, hS.F ht⟩) hS.2.2 dX12_yields_34
  · have ii10 : 0 ≤ p0.toInt ∧ p0.toInt ≤ 3 := h3
    have ii11 : 0 ≤ p1.toInt ∧ p1.toInt ≤ 11 := h4
    have ii12 : 0 ≤ p2.toInt ∧ p2.toInt ≤ 3 := h5
    have ii13 : 0 ≤ p3.toInt ∧ p3.toInt ≤ 11 := h6
    refine lv_if_eq (tgt := 33) hx hb dX12_yields_9 (by decide) (fun z => absurd z (by decide)) (fun _ => ?_)
    refine lv_aload_n hx hb dX12_yields_12 rfl (lv_at hl 0 rfl) ?_
    refine lv_iload_n hx hb dX12_yields_13 rfl (lv_at hl 2 rfl) ?_
    refine lv_iload hx hb dX12_yields_14 (lv_at hl 4 rfl) ?_
    refine va_calli (va_runV (As := [.int p1, .int p3]) (rest := []) ⟨hx, hb, hml, hown, hT⟩ (c_X12_fitOf l D cs kK kV a p1 p3 a_tape a__taped a__rules a_sign a_length a_clause a_clauses a_read a__next a__wrong a__number a__text a__made a__deep a__lines a_open a__opened a_stack a__top a_word a_said a__x a_worth a_mate a_wasSaid a__undone a__boughtNow a_wayBy a_wayThen a__walkMost a__walkGoing a__walkSet a_kept a__drawX a_images a_imageX a_isMade a_said_c h4 h6 h_a__taped h_a__rules h_a__next h_a__text h_a__made h_a__lines h_a__opened h_a__top h_a__x h_a__undone) (cwV 2 hT (hz_gV q_1136 q_1137 q_1138 q_701 q_1139) rfl rfl rfl (by decide +kernel) ⟨(Nat.le_of_ble_eq_true rfl), (Nat.le_of_ble_eq_true rfl)⟩) ⟨hz_P.blind, va_recv hK hP (ci := 12) (q0 := 1) rfl rfl, hz_P.mk (hP.sub (ws' := [(a, .inr (12, [.ref a_tape, .int a__taped, .int a__rules, .ref a_sign, .ref a_length, .ref a_clause, .ref a_clauses, .ref a_read, .int a__next, .int a__wrong, .int a__number, .int a__text, .int a__made, .int a__deep, .int a__lines, .ref a_open, .int a__opened, .ref a_stack, .int a__top, .ref a_word, .ref a_said, .int a__x, .ref a_worth, .ref a_mate, .ref a_wasSaid, .int a__undone, .int a__boughtNow, .ref a_wayBy, .ref a_wayThen, .int a__walkMost, .int a__walkGoing, .int a__walkSet, .ref a_kept, .long a__drawX, .ref a_images, .ref a_imageX, .ref a_isMade])), (a_said, .inl (cs 0, 123, .inl a_said_c))]) [1,0] rfl) hE hS⟩ rfl rfl hl.1 rfl (lv_room (Nat.le_of_ble_eq_true rfl)) dX12_yields_16 ⟨(Nat.le_of_ble_eq_true rfl), (Nat.le_of_ble_eq_true rfl)⟩) hS (fun _ _ h => h.elim) (fun _ h => h.elim) (fun r14 u t H1 locs ht hvm hw hB hz1 hk1 hS => ?_)
    have hP := hz_keep hP hk1
    clear hk1 hB hz1
    generalize H1 = H at hP hS ⊢
    rcases hw with rfl | rfl | rfl
    · refine lv_if_eq (tgt := 33) hx hb dX12_yields_19 (by decide) (fun _ => ?_) (fun z => absurd (by decide) z)
      refine lv_iconst (v := (-1)) hx hb dX12_yields_33 (by decide) ?_
      exact W.iret (v := (-1)) hx hb hr (fun t ht hW => ⟨⟨(-1), (), rfl, (Or.inl (⟨rfl, (iv_w h3 (by decide) (by decide))⟩)), trivial⟩, hS.F ht⟩) hS.2.2 dX12_yields_34
    · refine lv_if_eq (tgt := 33) hx hb dX12_yields_19 (by decide) (fun z => absurd z (by decide)) (fun _ => ?_)
      refine lv_iload hx hb dX12_yields_22 (lv_at hl 5 rfl) ?_
      refine lv_i2l (v := p4.toInt64) hx hb dX12_yields_24 rfl ?_
      refine lv_lconst (v := 0) hx hb dX12_yields_25 (by decide) ?_
      refine lv_lconst (v := 1) hx hb dX12_yields_26 (by decide) ?_
      refine va_calli (va_runS (As := [.long p4.toInt64, .long 0, .long 1]) (rest := []) ⟨hx, hb, hml, hown, hT⟩ (c_X12_in l D cs kK kV p4.toInt64 0 1) (va_cwS 3 hT (hz_gS q_964 q_965 q_701 q_966) rfl rfl rfl (by decide +kernel) ⟨(Nat.le_of_ble_eq_true rfl), (Nat.le_of_ble_eq_true rfl)⟩) ⟨hz_P.blind, hz_P.mk (hP.sub (ws' := []) [] rfl) hE hS⟩ rfl rfl hl.1 rfl (lv_room (Nat.le_of_ble_eq_true rfl)) dX12_yields_27 ⟨(Nat.le_of_ble_eq_true rfl), (Nat.le_of_ble_eq_true rfl)⟩) hS (fun _ _ h => h.elim) (fun _ h => h.elim) (fun r15 u t H1 locs ht hvm hw hB hz1 hk1 hS => ?_)
      have hP := hz_keep hP hk1
      clear hk1 hB hz1
      generalize H1 = H at hP hS ⊢
      rcases hw with ⟨rfl, x16⟩ | ⟨rfl, x17, x18⟩
      · have t19 : ¬ (0 ≤ p4.toInt ∧ p4.toInt ≤ 1) := fun z => x16 ⟨l64_clI z.1 (by decide), l64_lcI z.2 (by decide)⟩
        refine lv_if_ne (tgt := 35) hx hb dX12_yields_30 (by decide) (fun z => absurd (by decide) z) (fun _ => ?_)
        refine lv_iconst (v := (-1)) hx hb dX12_yields_33 (by decide) ?_
        exact W.iret (v := (-1)) hx hb hr (fun t ht hW => ⟨⟨(-1), (), rfl, (Or.inl (⟨rfl, (iv_w h3 (by decide) (by decide))⟩)), trivial⟩, hS.F ht⟩) hS.2.2 dX12_yields_34
      · have h20 : IV 0 2147483647 p4 := ⟨l64_cle x17 (by decide), iv_top.2⟩
        have ii21 : 0 ≤ p4.toInt ∧ p4.toInt ≤ 2147483647 := h20
        have h22 : IV 0 1 p4 := ⟨(h20).1, l64_lec x18 (by decide)⟩
        have ii23 : 0 ≤ p4.toInt ∧ p4.toInt ≤ 1 := h22
        refine lv_if_ne (tgt := 35) hx hb dX12_yields_30 (by decide) (fun _ => ?_) (fun z => absurd z (by decide))
        refine lv_aload_n hx hb dX12_yields_35 rfl (lv_at hl 0 rfl) ?_
        refine lv_iload_n hx hb dX12_yields_36 rfl (lv_at hl 1 rfl) ?_
        refine lv_iload hx hb dX12_yields_37 (lv_at hl 4 rfl) ?_
        refine va_calli (va_runV (As := [.int p0, .int p3]) (rest := []) ⟨hx, hb, hml, hown, hT⟩ (c_X12_givesFor l D cs kK kV a p0 p3 a_said a_said_c a_tape a__taped a__rules a_sign a_length a_clause a_clauses a_read a__next a__wrong a__number a__text a__made a__deep a__lines a_open a__opened a_stack a__top a_word a__x a_worth a_mate a_wasSaid a__undone a__boughtNow a_wayBy a_wayThen a__walkMost a__walkGoing a__walkSet a_kept a__drawX a_images a_imageX a_isMade a_worth_c h3 h6 h_a__taped h_a__rules h_a__next h_a__text h_a__made h_a__lines h_a__opened h_a__top h_a__x h_a__undone hf0) (cwV 2 hT (hz_gV q_1269 q_1270 q_1271 q_701 q_1272) rfl rfl rfl (by decide +kernel) ⟨(Nat.le_of_ble_eq_true rfl), (Nat.le_of_ble_eq_true rfl)⟩) ⟨hz_P.blind, va_recv hK hP (ci := 12) (q0 := 1) rfl rfl, hz_P.mk (hP.sub (ws' := [(a_said, .inl (cs 0, 123, .inl a_said_c)), (a, .inr (12, [.ref a_tape, .int a__taped, .int a__rules, .ref a_sign, .ref a_length, .ref a_clause, .ref a_clauses, .ref a_read, .int a__next, .int a__wrong, .int a__number, .int a__text, .int a__made, .int a__deep, .int a__lines, .ref a_open, .int a__opened, .ref a_stack, .int a__top, .ref a_word, .ref a_said, .int a__x, .ref a_worth, .ref a_mate, .ref a_wasSaid, .int a__undone, .int a__boughtNow, .ref a_wayBy, .ref a_wayThen, .int a__walkMost, .int a__walkGoing, .int a__walkSet, .ref a_kept, .long a__drawX, .ref a_images, .ref a_imageX, .ref a_isMade])), (a_worth, .inl (cs 0, 4096, .inl a_worth_c))]) [0,1,2] rfl) hE hS⟩ rfl rfl hl.1 rfl (lv_room (Nat.le_of_ble_eq_true rfl)) dX12_yields_39 ⟨(Nat.le_of_ble_eq_true rfl), (Nat.le_of_ble_eq_true rfl)⟩) hS (fun _ _ h => h.elim) (fun _ h => h.elim) (fun r24 u t H1 locs ht hvm hw hB hz1 hk1 hS => ?_)
        have hP := hz_keep hP hk1
        clear hk1 hB hz1
        generalize H1 = H at hP hS ⊢
        refine lv_istore (lv' := [(6, .int r24), (0, .ref a), (1, .int p0), (2, .int p1), (3, .int p2), (4, .int p3), (5, .int p4)]) hx hb dX12_yields_42 hl (by decide) rfl (fun ls hl => ?_)
        refine lv_aload_n hx hb dX12_yields_44 rfl (lv_at hl 1 rfl) ?_
        refine lv_iload_n hx hb dX12_yields_45 rfl (lv_at hl 4 rfl) ?_
        refine lv_iload_n hx hb dX12_yields_46 rfl (lv_at hl 3 rfl) ?_
        refine va_calli (va_runV (As := [.int p2, .int p1]) (rest := []) ⟨hx, hb, hml, hown, hT⟩ (c_X12_givesFor l D cs kK kV a p2 p1 a_said a_said_c a_tape a__taped a__rules a_sign a_length a_clause a_clauses a_read a__next a__wrong a__number a__text a__made a__deep a__lines a_open a__opened a_stack a__top a_word a__x a_worth a_mate a_wasSaid a__undone a__boughtNow a_wayBy a_wayThen a__walkMost a__walkGoing a__walkSet a_kept a__drawX a_images a_imageX a_isMade a_worth_c h5 h4 h_a__taped h_a__rules h_a__next h_a__text h_a__made h_a__lines h_a__opened h_a__top h_a__x h_a__undone hf0) (cwV 2 hT (hz_gV q_1269 q_1270 q_1271 q_701 q_1272) rfl rfl rfl (by decide +kernel) ⟨(Nat.le_of_ble_eq_true rfl), (Nat.le_of_ble_eq_true rfl)⟩) ⟨hz_P.blind, va_recv hK hP (ci := 12) (q0 := 1) rfl rfl, hz_P.mk (hP.sub (ws' := [(a_said, .inl (cs 0, 123, .inl a_said_c)), (a, .inr (12, [.ref a_tape, .int a__taped, .int a__rules, .ref a_sign, .ref a_length, .ref a_clause, .ref a_clauses, .ref a_read, .int a__next, .int a__wrong, .int a__number, .int a__text, .int a__made, .int a__deep, .int a__lines, .ref a_open, .int a__opened, .ref a_stack, .int a__top, .ref a_word, .ref a_said, .int a__x, .ref a_worth, .ref a_mate, .ref a_wasSaid, .int a__undone, .int a__boughtNow, .ref a_wayBy, .ref a_wayThen, .int a__walkMost, .int a__walkGoing, .int a__walkSet, .ref a_kept, .long a__drawX, .ref a_images, .ref a_imageX, .ref a_isMade])), (a_worth, .inl (cs 0, 4096, .inl a_worth_c))]) [0,1,2] rfl) hE hS⟩ rfl rfl hl.1 rfl (lv_room (Nat.le_of_ble_eq_true rfl)) dX12_yields_47 ⟨(Nat.le_of_ble_eq_true rfl), (Nat.le_of_ble_eq_true rfl)⟩) hS (fun _ _ h => h.elim) (fun _ h => h.elim) (fun r25 u t H1 locs ht hvm hw hB hz1 hk1 hS => ?_)
        have hP := hz_keep hP hk1
        clear hk1 hB hz1
        generalize H1 = H at hP hS ⊢
        refine lv_istore (lv' := [(7, .int r25), (6, .int r24), (0, .ref a), (1, .int p0), (2, .int p1), (3, .int p2), (4, .int p3), (5, .int p4)]) hx hb dX12_yields_50 hl (by decide) rfl (fun ls hl => ?_)
        refine lv_iload hx hb dX12_yields_52 (lv_at hl 7 rfl) ?_
        refine lv_iconst (v := 1) hx hb dX12_yields_54 (by decide) ?_
        refine lv_icmp_ne (tgt := 66) hx hb dX12_yields_55 (by decide) (fun c26 => ?_) (fun c26 => ?_)
        · have t27 : p4.toInt ≠ 1 := lin_ne c26 rfl (by decide)
          have h28 : IV 0 0 p4 := iv_neR c26 h22 (by decide)
          have ii29 : 0 ≤ p4.toInt ∧ p4.toInt ≤ 0 := h28
          refine lv_iload hx hb dX12_yields_66 (lv_at hl 1 rfl) ?_
          refine lv_iload hx hb dX12_yields_68 (lv_at hl 0 rfl) ?_
          refine lv_icmp_ge (tgt := 77) hx hb dX12_yields_70 (by decide) (fun c30 => ?_) (fun c30 => ?_)
          · have t31 : r24.toInt ≥ r25.toInt := lin_ge c30 rfl rfl
            refine lv_iload hx hb dX12_yields_77 (lv_at hl 0 rfl) ?_
            refine lv_iload hx hb dX12_yields_79 (lv_at hl 1 rfl) ?_
            refine lv_icmp_ge (tgt := 88) hx hb dX12_yields_81 (by decide) (fun c32 => ?_) (fun c32 => ?_)
            · have t33 : r25.toInt ≥ r24.toInt := lin_ge c32 rfl rfl
              refine lv_iload_n hx hb dX12_yields_88 rfl (lv_at hl 3 rfl) ?_
              refine lv_iload_n hx hb dX12_yields_89 rfl (lv_at hl 5 rfl) ?_
              refine lv_icmp_ge (tgt := 97) hx hb dX12_yields_90 (by decide) (fun c34 => ?_) (fun c34 => ?_)
              · have t35 : p0.toInt ≥ p2.toInt := lin_ge c34 rfl rfl
                refine lv_iload_n hx hb dX12_yields_97 rfl (lv_at hl 5 rfl) ?_
                exact W.iret (v := p2) hx hb hr (fun t ht hW => ⟨⟨p2, (), rfl, (Or.inr ((⟨h3, h4, h5, h6, (iv_w h28 (by decide) (by decide))⟩))), trivial⟩, hS.F ht⟩) hS.2.2 dX12_yields_98
              · have t36 : p0.toInt < p2.toInt := lin_geN c34 rfl rfl
                have h37 : IV 0 2 p0 := iv_lt1 (Int32.not_le.mp c34) h3 h5 (by decide)
                have ii38 : 0 ≤ p0.toInt ∧ p0.toInt ≤ 2 := h37
                have h39 : IV 1 3 p2 := iv_lt2 (Int32.not_le.mp c34) h3 h5 (by decide)
                have ii40 : 1 ≤ p2.toInt ∧ p2.toInt ≤ 3 := h39
                refine lv_iload_n hx hb dX12_yields_93 rfl (lv_at hl 3 rfl) ?_
                refine lv_goto (tgt := 98) hx hb dX12_yields_94 (by decide) ?_
                exact W.iret (v := p0) hx hb hr (fun t ht hW => ⟨⟨p0, (), rfl, (Or.inr ((⟨(iv_w h37 (by decide) (by decide)), h4, (iv_w h39 (by decide) (by decide)), h6, (iv_w h28 (by decide) (by decide))⟩))), trivial⟩, hS.F ht⟩) hS.2.2 dX12_yields_98
            · have t41 : r25.toInt < r24.toInt := lin_geN c32 rfl rfl
              have h42 : IV (-2147483648) 2147483646 r25 := iv_lt1 (Int32.not_le.mp c32) iv_top iv_top (by decide)
              have ii43 : (-2147483648) ≤ r25.toInt ∧ r25.toInt ≤ 2147483646 := h42
              have h44 : IV (-2147483647) 2147483647 r24 := iv_lt2 (Int32.not_le.mp c32) iv_top iv_top (by decide)
              have ii45 : (-2147483647) ≤ r24.toInt ∧ r24.toInt ≤ 2147483647 := h44
              refine lv_iload_n hx hb dX12_yields_84 rfl (lv_at hl 5 rfl) ?_
              refine lv_goto (tgt := 98) hx hb dX12_yields_85 (by decide) ?_
              exact W.iret (v := p2) hx hb hr (fun t ht hW => ⟨⟨p2, (), rfl, (Or.inr ((⟨h3, h4, h5, h6, (iv_w h28 (by decide) (by decide))⟩))), trivial⟩, hS.F ht⟩) hS.2.2 dX12_yields_98
          · have t46 : r24.toInt < r25.toInt := lin_geN c30 rfl rfl
            have h47 : IV (-2147483648) 2147483646 r24 := iv_lt1 (Int32.not_le.mp c30) iv_top iv_top (by decide)
            have ii48 : (-2147483648) ≤ r24.toInt ∧ r24.toInt ≤ 2147483646 := h47
            have h49 : IV (-2147483647) 2147483647 r25 := iv_lt2 (Int32.not_le.mp c30) iv_top iv_top (by decide)
            have ii50 : (-2147483647) ≤ r25.toInt ∧ r25.toInt ≤ 2147483647 := h49
            refine lv_iload_n hx hb dX12_yields_73 rfl (lv_at hl 3 rfl) ?_
            refine lv_goto (tgt := 98) hx hb dX12_yields_74 (by decide) ?_
            exact W.iret (v := p0) hx hb hr (fun t ht hW => ⟨⟨p0, (), rfl, (Or.inr ((⟨h3, h4, h5, h6, (iv_w h28 (by decide) (by decide))⟩))), trivial⟩, hS.F ht⟩) hS.2.2 dX12_yields_98
        · have t51 : p4.toInt = 1 := lin_eqN c26 rfl (by decide)
          have h52 : IV 1 1 p4 := iv_eq1 c26 h22 (iv_c (a := 1) (b := 1) (by decide)) (by decide) (by decide)
          have ii53 : 1 ≤ p4.toInt ∧ p4.toInt ≤ 1 := h52
          refine lv_iload hx hb dX12_yields_58 (lv_at hl 1 rfl) ?_
          refine lv_iload hx hb dX12_yields_60 (lv_at hl 0 rfl) ?_
          refine lv_iadd hx hb dX12_yields_62 ?_
          refine lv_topi (fun v54 ev54 => ?_)
          refine lv_iconst (v := 2) hx hb dX12_yields_63 (by decide) ?_
          refine lv_idiv hx hb dX12_yields_64 (by decide) ?_
          refine lv_topi (fun v55 ev55 => ?_)
          exact W.iret (v := v55) hx hb hr (fun t ht hW => ⟨⟨v55, (), rfl, (Or.inr ((⟨h3, h4, h5, h6, (iv_w h52 (by decide) (by decide))⟩))), trivial⟩, hS.F ht⟩) hS.2.2 dX12_yields_65
    · refine lv_if_eq (tgt := 33) hx hb dX12_yields_19 (by decide) (fun z => absurd z (by decide)) (fun _ => ?_)
      refine lv_iload hx hb dX12_yields_22 (lv_at hl 5 rfl) ?_
      refine lv_i2l (v := p4.toInt64) hx hb dX12_yields_24 rfl ?_
      refine lv_lconst (v := 0) hx hb dX12_yields_25 (by decide) ?_
      refine lv_lconst (v := 1) hx hb dX12_yields_26 (by decide) ?_
      refine va_calli (va_runS (As := [.long p4.toInt64, .long 0, .long 1]) (rest := []) ⟨hx, hb, hml, hown, hT⟩ (c_X12_in l D cs kK kV p4.toInt64 0 1) (va_cwS 3 hT (hz_gS q_964 q_965 q_701 q_966) rfl rfl rfl (by decide +kernel) ⟨(Nat.le_of_ble_eq_true rfl), (Nat.le_of_ble_eq_true rfl)⟩) ⟨hz_P.blind, hz_P.mk (hP.sub (ws' := []) [] rfl) hE hS⟩ rfl rfl hl.1 rfl (lv_room (Nat.le_of_ble_eq_true rfl)) dX12_yields_27 ⟨(Nat.le_of_ble_eq_true rfl), (Nat.le_of_ble_eq_true rfl)⟩) hS (fun _ _ h => h.elim) (fun _ h => h.elim) (fun r56 u t H1 locs ht hvm hw hB hz1 hk1 hS => ?_)
      have hP := hz_keep hP hk1
      clear hk1 hB hz1
      generalize H1 = H at hP hS ⊢
      rcases hw with ⟨rfl, x57⟩ | ⟨rfl, x58, x59⟩
      · have t60 : ¬ (0 ≤ p4.toInt ∧ p4.toInt ≤ 1) := fun z => x57 ⟨l64_clI z.1 (by decide), l64_lcI z.2 (by decide)⟩
        refine lv_if_ne (tgt := 35) hx hb dX12_yields_30 (by decide) (fun z => absurd (by decide) z) (fun _ => ?_)
        refine lv_iconst (v := (-1)) hx hb dX12_yields_33 (by decide) ?_
        exact W.iret (v := (-1)) hx hb hr (fun t ht hW => ⟨⟨(-1), (), rfl, (Or.inl (⟨rfl, (iv_w h3 (by decide) (by decide))⟩)), trivial⟩, hS.F ht⟩) hS.2.2 dX12_yields_34
      · have h61 : IV 0 2147483647 p4 := ⟨l64_cle x58 (by decide), iv_top.2⟩
        have ii62 : 0 ≤ p4.toInt ∧ p4.toInt ≤ 2147483647 := h61
        have h63 : IV 0 1 p4 := ⟨(h61).1, l64_lec x59 (by decide)⟩
        have ii64 : 0 ≤ p4.toInt ∧ p4.toInt ≤ 1 := h63
        refine lv_if_ne (tgt := 35) hx hb dX12_yields_30 (by decide) (fun _ => ?_) (fun z => absurd z (by decide))
        refine lv_aload_n hx hb dX12_yields_35 rfl (lv_at hl 0 rfl) ?_
        refine lv_iload_n hx hb dX12_yields_36 rfl (lv_at hl 1 rfl) ?_
        refine lv_iload hx hb dX12_yields_37 (lv_at hl 4 rfl) ?_
        refine va_calli (va_runV (As := [.int p0, .int p3]) (rest := []) ⟨hx, hb, hml, hown, hT⟩ (c_X12_givesFor l D cs kK kV a p0 p3 a_said a_said_c a_tape a__taped a__rules a_sign a_length a_clause a_clauses a_read a__next a__wrong a__number a__text a__made a__deep a__lines a_open a__opened a_stack a__top a_word a__x a_worth a_mate a_wasSaid a__undone a__boughtNow a_wayBy a_wayThen a__walkMost a__walkGoing a__walkSet a_kept a__drawX a_images a_imageX a_isMade a_worth_c h3 h6 h_a__taped h_a__rules h_a__next h_a__text h_a__made h_a__lines h_a__opened h_a__top h_a__x h_a__undone hf0) (cwV 2 hT (hz_gV q_1269 q_1270 q_1271 q_701 q_1272) rfl rfl rfl (by decide +kernel) ⟨(Nat.le_of_ble_eq_true rfl), (Nat.le_of_ble_eq_true rfl)⟩) ⟨hz_P.blind, va_recv hK hP (ci := 12) (q0 := 1) rfl rfl, hz_P.mk (hP.sub (ws' := [(a_said, .inl (cs 0, 123, .inl a_said_c)), (a, .inr (12, [.ref a_tape, .int a__taped, .int a__rules, .ref a_sign, .ref a_length, .ref a_clause, .ref a_clauses, .ref a_read, .int a__next, .int a__wrong, .int a__number, .int a__text, .int a__made, .int a__deep, .int a__lines, .ref a_open, .int a__opened, .ref a_stack, .int a__top, .ref a_word, .ref a_said, .int a__x, .ref a_worth, .ref a_mate, .ref a_wasSaid, .int a__undone, .int a__boughtNow, .ref a_wayBy, .ref a_wayThen, .int a__walkMost, .int a__walkGoing, .int a__walkSet, .ref a_kept, .long a__drawX, .ref a_images, .ref a_imageX, .ref a_isMade])), (a_worth, .inl (cs 0, 4096, .inl a_worth_c))]) [0,1,2] rfl) hE hS⟩ rfl rfl hl.1 rfl (lv_room (Nat.le_of_ble_eq_true rfl)) dX12_yields_39 ⟨(Nat.le_of_ble_eq_true rfl), (Nat.le_of_ble_eq_true rfl)⟩) hS (fun _ _ h => h.elim) (fun _ h => h.elim) (fun r65 u t H1 locs ht hvm hw hB hz1 hk1 hS => ?_)
        have hP := hz_keep hP hk1
        clear hk1 hB hz1
        generalize H1 = H at hP hS ⊢
        refine lv_istore (lv' := [(6, .int r65), (0, .ref a), (1, .int p0), (2, .int p1), (3, .int p2), (4, .int p3), (5, .int p4)]) hx hb dX12_yields_42 hl (by decide) rfl (fun ls hl => ?_)
        refine lv_aload_n hx hb dX12_yields_44 rfl (lv_at hl 1 rfl) ?_
        refine lv_iload_n hx hb dX12_yields_45 rfl (lv_at hl 4 rfl) ?_
        refine lv_iload_n hx hb dX12_yields_46 rfl (lv_at hl 3 rfl) ?_
        refine va_calli (va_runV (As := [.int p2, .int p1]) (rest := []) ⟨hx, hb, hml, hown, hT⟩ (c_X12_givesFor l D cs kK kV a p2 p1 a_said a_said_c a_tape a__taped a__rules a_sign a_length a_clause a_clauses a_read a__next a__wrong a__number a__text a__made a__deep a__lines a_open a__opened a_stack a__top a_word a__x a_worth a_mate a_wasSaid a__undone a__boughtNow a_wayBy a_wayThen a__walkMost a__walkGoing a__walkSet a_kept a__drawX a_images a_imageX a_isMade a_worth_c h5 h4 h_a__taped h_a__rules h_a__next h_a__text h_a__made h_a__lines h_a__opened h_a__top h_a__x h_a__undone hf0) (cwV 2 hT (hz_gV q_1269 q_1270 q_1271 q_701 q_1272) rfl rfl rfl (by decide +kernel) ⟨(Nat.le_of_ble_eq_true rfl), (Nat.le_of_ble_eq_true rfl)⟩) ⟨hz_P.blind, va_recv hK hP (ci := 12) (q0 := 1) rfl rfl, hz_P.mk (hP.sub (ws' := [(a_said, .inl (cs 0, 123, .inl a_said_c)), (a, .inr (12, [.ref a_tape, .int a__taped, .int a__rules, .ref a_sign, .ref a_length, .ref a_clause, .ref a_clauses, .ref a_read, .int a__next, .int a__wrong, .int a__number, .int a__text, .int a__made, .int a__deep, .int a__lines, .ref a_open, .int a__opened, .ref a_stack, .int a__top, .ref a_word, .ref a_said, .int a__x, .ref a_worth, .ref a_mate, .ref a_wasSaid, .int a__undone, .int a__boughtNow, .ref a_wayBy, .ref a_wayThen, .int a__walkMost, .int a__walkGoing, .int a__walkSet, .ref a_kept, .long a__drawX, .ref a_images, .ref a_imageX, .ref a_isMade])), (a_worth, .inl (cs 0, 4096, .inl a_worth_c))]) [0,1,2] rfl) hE hS⟩ rfl rfl hl.1 rfl (lv_room (Nat.le_of_ble_eq_true rfl)) dX12_yields_47 ⟨(Nat.le_of_ble_eq_true rfl), (Nat.le_of_ble_eq_true rfl)⟩) hS (fun _ _ h => h.elim) (fun _ h => h.elim) (fun r66 u t H1 locs ht hvm hw hB hz1 hk1 hS => ?_)
        have hP := hz_keep hP hk1
        clear hk1 hB hz1
        generalize H1 = H at hP hS ⊢
        refine lv_istore (lv' := [(7, .int r66), (6, .int r65), (0, .ref a), (1, .int p0), (2, .int p1), (3, .int p2), (4, .int p3), (5, .int p4)]) hx hb dX12_yields_50 hl (by decide) rfl (fun ls hl => ?_)
        refine lv_iload hx hb dX12_yields_52 (lv_at hl 7 rfl) ?_
        refine lv_iconst (v := 1) hx hb dX12_yields_54 (by decide) ?_
        refine lv_icmp_ne (tgt := 66) hx hb dX12_yields_55 (by decide) (fun c67 => ?_) (fun c67 => ?_)
        · have t68 : p4.toInt ≠ 1 := lin_ne c67 rfl (by decide)
          have h69 : IV 0 0 p4 := iv_neR c67 h63 (by decide)
          have ii70 : 0 ≤ p4.toInt ∧ p4.toInt ≤ 0 := h69
          refine lv_iload hx hb dX12_yields_66 (lv_at hl 1 rfl) ?_
          refine lv_iload hx hb dX12_yields_68 (lv_at hl 0 rfl) ?_
          refine lv_icmp_ge (tgt := 77) hx hb dX12_yields_70 (by decide) (fun c71 => ?_) (fun c71 => ?_)
          · have t72 : r65.toInt ≥ r66.toInt := lin_ge c71 rfl rfl
            refine lv_iload hx hb dX12_yields_77 (lv_at hl 0 rfl) ?_
            refine lv_iload hx hb dX12_yields_79 (lv_at hl 1 rfl) ?_
            refine lv_icmp_ge (tgt := 88) hx hb dX12_yields_81 (by decide) (fun c73 => ?_) (fun c73 => ?_)
            · have t74 : r66.toInt ≥ r65.toInt := lin_ge c73 rfl rfl
              refine lv_iload_n hx hb dX12_yields_88 rfl (lv_at hl 3 rfl) ?_
              refine lv_iload_n hx hb dX12_yields_89 rfl (lv_at hl 5 rfl) ?_
              refine lv_icmp_ge (tgt := 97) hx hb dX12_yields_90 (by decide) (fun c75 => ?_) (fun c75 => ?_)
              · have t76 : p0.toInt ≥ p2.toInt := lin_ge c75 rfl rfl
                refine lv_iload_n hx hb dX12_yields_97 rfl (lv_at hl 5 rfl) ?_
                exact W.iret (v := p2) hx hb hr (fun t ht hW => ⟨⟨p2, (), rfl, (Or.inr ((⟨h3, h4, h5, h6, (iv_w h69 (by decide) (by decide))⟩))), trivial⟩, hS.F ht⟩) hS.2.2 dX12_yields_98
              · have t77 : p0.toInt < p2.toInt := lin_geN c75 rfl rfl
                have h78 : IV 0 2 p0 := iv_lt1 (Int32.not_le.mp c75) h3 h5 (by decide)
                have ii79 : 0 ≤ p0.toInt ∧ p0.toInt ≤ 2 := h78
                have h80 : IV 1 3 p2 := iv_lt2 (Int32.not_le.mp c75) h3 h5 (by decide)
                have ii81 : 1 ≤ p2.toInt ∧ p2.toInt ≤ 3 := h80
                refine lv_iload_n hx hb dX12_yields_93 rfl (lv_at hl 3 rfl) ?_
                refine lv_goto (tgt := 98) hx hb dX12_yields_94 (by decide) ?_
                exact W.iret (v := p0) hx hb hr (fun t ht hW => ⟨⟨p0, (), rfl, (Or.inr ((⟨(iv_w h78 (by decide) (by decide)), h4, (iv_w h80 (by decide) (by decide)), h6, (iv_w h69 (by decide) (by decide))⟩))), trivial⟩, hS.F ht⟩) hS.2.2 dX12_yields_98
            · have t82 : r66.toInt < r65.toInt := lin_geN c73 rfl rfl
              have h83 : IV (-2147483648) 2147483646 r66 := iv_lt1 (Int32.not_le.mp c73) iv_top iv_top (by decide)
              have ii84 : (-2147483648) ≤ r66.toInt ∧ r66.toInt ≤ 2147483646 := h83
              have h85 : IV (-2147483647) 2147483647 r65 := iv_lt2 (Int32.not_le.mp c73) iv_top iv_top (by decide)
              have ii86 : (-2147483647) ≤ r65.toInt ∧ r65.toInt ≤ 2147483647 := h85
              refine lv_iload_n hx hb dX12_yields_84 rfl (lv_at hl 5 rfl) ?_
              refine lv_goto (tgt := 98) hx hb dX12_yields_85 (by decide) ?_
              exact W.iret (v := p2) hx hb hr (fun t ht hW => ⟨⟨p2, (), rfl, (Or.inr ((⟨h3, h4, h5, h6, (iv_w h69 (by decide) (by decide))⟩))), trivial⟩, hS.F ht⟩) hS.2.2 dX12_yields_98
          · have t87 : r65.toInt < r66.toInt := lin_geN c71 rfl rfl
            have h88 : IV (-2147483648) 2147483646 r65 := iv_lt1 (Int32.not_le.mp c71) iv_top iv_top (by decide)
            have ii89 : (-2147483648) ≤ r65.toInt ∧ r65.toInt ≤ 2147483646 := h88
            have h90 : IV (-2147483647) 2147483647 r66 := iv_lt2 (Int32.not_le.mp c71) iv_top iv_top (by decide)
            have ii91 : (-2147483647) ≤ r66.toInt ∧ r66.toInt ≤ 2147483647 := h90
            refine lv_iload_n hx hb dX12_yields_73 rfl (lv_at hl 3 rfl) ?_
            refine lv_goto (tgt := 98) hx hb dX12_yields_74 (by decide) ?_
            exact W.iret (v := p0) hx hb hr (fun t ht hW => ⟨⟨p0, (), rfl, (Or.inr ((⟨h3, h4, h5, h6, (iv_w h69 (by decide) (by decide))⟩))), trivial⟩, hS.F ht⟩) hS.2.2 dX12_yields_98
        · have t92 : p4.toInt = 1 := lin_eqN c67 rfl (by decide)
          have h93 : IV 1 1 p4 := iv_eq1 c67 h63 (iv_c (a := 1) (b := 1) (by decide)) (by decide) (by decide)
          have ii94 : 1 ≤ p4.toInt ∧ p4.toInt ≤ 1 := h93
          refine lv_iload hx hb dX12_yields_58 (lv_at hl 1 rfl) ?_
          refine lv_iload hx hb dX12_yields_60 (lv_at hl 0 rfl) ?_
          refine lv_iadd hx hb dX12_yields_62 ?_
          refine lv_topi (fun v95 ev95 => ?_)
          refine lv_iconst (v := 2) hx hb dX12_yields_63 (by decide) ?_
          refine lv_idiv hx hb dX12_yields_64 (by decide) ?_
          refine lv_topi (fun v96 ev96 => ?_)
          exact W.iret (v := v96) hx hb hr (fun t ht hW => ⟨⟨v96, (), rfl, (Or.inr ((⟨h3, h4, h5, h6, (iv_w h93 (by decide) (by decide))⟩))), trivial⟩, hS.F ht⟩) hS.2.2 dX12_yields_65
theorem dX12_isOwnShape_0 : decode cX12_isOwnShape 0 = .ok (.aload_n 0, 1) := by decide +kernel
theorem dX12_isOwnShape_1 : decode cX12_isOwnShape 1 = .ok (.iload_n 1, 1) := by decide +kernel
theorem dX12_isOwnShape_2 : decode cX12_isOwnShape 2 = .ok (.invokevirtual 346, 3) := by decide +kernel
theorem dX12_isOwnShape_5 : decode cX12_isOwnShape 5 = .ok (.iload_n 2, 1) := by decide +kernel
theorem dX12_isOwnShape_6 : decode cX12_isOwnShape 6 = .ok (.invokestatic 215, 3) := by decide +kernel
theorem dX12_isOwnShape_9 : decode cX12_isOwnShape 9 = .ok (.ifCond .eq 26, 3) := by decide +kernel
theorem dX12_isOwnShape_12 : decode cX12_isOwnShape 12 = .ok (.aload_n 0, 1) := by decide +kernel
theorem dX12_isOwnShape_13 : decode cX12_isOwnShape 13 = .ok (.iload_n 2, 1) := by decide +kernel
theorem dX12_isOwnShape_14 : decode cX12_isOwnShape 14 = .ok (.iconst 4, 1) := by decide +kernel
theorem dX12_isOwnShape_15 : decode cX12_isOwnShape 15 = .ok (.invokevirtual 301, 3) := by decide +kernel
theorem dX12_isOwnShape_18 : decode cX12_isOwnShape 18 = .ok (.ifCond .ne 17, 3) := by decide +kernel
theorem dX12_isOwnShape_21 : decode cX12_isOwnShape 21 = .ok (.aload_n 0, 1) := by decide +kernel
theorem dX12_isOwnShape_22 : decode cX12_isOwnShape 22 = .ok (.iload_n 2, 1) := by decide +kernel
theorem dX12_isOwnShape_23 : decode cX12_isOwnShape 23 = .ok (.iconst 0, 1) := by decide +kernel
theorem dX12_isOwnShape_24 : decode cX12_isOwnShape 24 = .ok (.invokevirtual 301, 3) := by decide +kernel
theorem dX12_isOwnShape_27 : decode cX12_isOwnShape 27 = .ok (.iload_n 3, 1) := by decide +kernel
theorem dX12_isOwnShape_28 : decode cX12_isOwnShape 28 = .ok (.if_icmp .ne 7, 3) := by decide +kernel
theorem dX12_isOwnShape_31 : decode cX12_isOwnShape 31 = .ok (.iconst 1, 1) := by decide +kernel
theorem dX12_isOwnShape_32 : decode cX12_isOwnShape 32 = .ok (.goto 4, 3) := by decide +kernel
theorem dX12_isOwnShape_35 : decode cX12_isOwnShape 35 = .ok (.iconst 0, 1) := by decide +kernel
theorem dX12_isOwnShape_36 : decode cX12_isOwnShape 36 = .ok (.ireturn, 1) := by decide +kernel
set_option maxHeartbeats 4000000 in
set_option maxRecDepth 100000 in
theorem c_X12_isOwnShape (l : Launch) (D : va_G) (cs : Nat → ClassId) (kK kV : Nat → Nat) (a : Nat) (p0 : Int32) (p1 : Int32) (p2 : Int32) (a_said : Nat) (a_said_c : Nat → Int32) (a_tape : Nat) (a__taped : Int32) (a__rules : Int32) (a_sign : Nat) (a_length : Nat) (a_clause : Nat) (a_clauses : Nat) (a_read : Nat) (a__next : Int32) (a__wrong : Int32) (a__number : Int32) (a__text : Int32) (a__made : Int32) (a__deep : Int32) (a__lines : Int32) (a_open : Nat) (a__opened : Int32) (a_stack : Nat) (a__top : Int32) (a_word : Nat) (a__x : Int32) (a_worth : Nat) (a_mate : Nat) (a_wasSaid : Nat) (a__undone : Int32) (a__boughtNow : Int32) (a_wayBy : Nat) (a_wayThen : Nat) (a__walkMost : Int32) (a__walkGoing : Int32) (a__walkSet : Int32) (a_kept : Nat) (a__drawX : Int64) (a_images : Nat) (a_imageX : Nat) (a_isMade : Nat) (h_p0 : IV 0 3 p0) (h_p1 : IV 0 11 p1) (h_a__taped : IV 0 400 a__taped) (h_a__rules : IV 0 6 a__rules) (h_a__next : IV 0 400 a__next) (h_a__text : IV 0 6 a__text) (h_a__made : IV 0 60 a__made) (h_a__lines : IV 0 40 a__lines) (h_a__opened : IV 0 400 a__opened) (h_a__top : IV 0 64 a__top) (h_a__x : IV 0 2147483647 a__x) (h_a__undone : IV 0 20 a__undone) (hf0 : BS a_said_c 200) : Met l yX12_isOwnShape (hz_w yX12_isOwnShape cX12_isOwnShape 4 (some .boolean)) ({ frames := 2, cells := 0, slots := 0, locals := 45 }) (va_Pc [.ref a, .int p0, .int p1, .int p2] (hz_P D cs kK kV [(a_said, .inl (cs 0, 123, .inl a_said_c)), (a, .inr (12, [.ref a_tape, .int a__taped, .int a__rules, .ref a_sign, .ref a_length, .ref a_clause, .ref a_clauses, .ref a_read, .int a__next, .int a__wrong, .int a__number, .int a__text, .int a__made, .int a__deep, .int a__lines, .ref a_open, .int a__opened, .ref a_stack, .int a__top, .ref a_word, .ref a_said, .int a__x, .ref a_worth, .ref a_mate, .ref a_wasSaid, .int a__undone, .int a__boughtNow, .ref a_wayBy, .ref a_wayThen, .int a__walkMost, .int a__walkGoing, .int a__walkSet, .ref a_kept, .long a__drawX, .ref a_images, .ref a_imageX, .ref a_isMade]))])) (va_Qi (fun (r : Int32) (_ : Unit) => (r = 0) ∨ (r = 1)) (fun _ t => True) (fun _ => False)) 0 0 (fun _ => False) := by
  refine Met.ofW (cc := cX12_isOwnShape) (maxL := 4) (ret := (some .boolean)) (by decide) rfl ?_
  intro p e s m args below meth c s₁ B hml hv
  obtain ⟨rfl, hP, hE⟩ := hv
  have hx := B.exec
  have hb := B.bytes
  have hr := B.returns
  have hT : ∀ w ∈ TB, w.before _ s = true := fun w h => atoms_spec (ws := hz_w yX12_isOwnShape cX12_isOwnShape 4 (some .boolean)) B.pre w (List.mem_cons_of_mem _ h)
  have hown : s.vm.findClass RX12 = some m.cls := findClass_of_methodNamed B.named
  have hlocks := B.notSynchronized
  clear B
  have hS : va_S (fun _ => False) s.heap s.heap [] := va_S.rf
  have hK := hE.1
  have hl := lv_entry ([.ref a, .int p0, .int p1, .int p2]) (n := 4) (Nat.le_of_ble_eq_true rfl)
  rw [lg_entry_eq]
  generalize (lg_sl ([.ref a, .int p0, .int p1, .int p2]) ++ List.replicate (4 - (lg_sl ([.ref a, .int p0, .int p1, .int p2])).length) Slot.unset).toArray = ls at hl ⊢
  have hl : lv_has ls 4 [(0, .ref a), (1, .int p0), (2, .int p1), (3, .int p2)] := hl
  obtain ⟨H, eH⟩ : ∃ z, z = s.heap := ⟨_, rfl⟩
  have hP : va_P D classes [(a_said, .inl (cs 0, 123, .inl a_said_c)), (a, .inr (12, [.ref a_tape, .int a__taped, .int a__rules, .ref a_sign, .ref a_length, .ref a_clause, .ref a_clauses, .ref a_read, .int a__next, .int a__wrong, .int a__number, .int a__text, .int a__made, .int a__deep, .int a__lines, .ref a_open, .int a__opened, .ref a_stack, .int a__top, .ref a_word, .ref a_said, .int a__x, .ref a_worth, .ref a_mate, .ref a_wasSaid, .int a__undone, .int a__boughtNow, .ref a_wayBy, .ref a_wayThen, .int a__walkMost, .int a__walkGoing, .int a__walkSet, .ref a_kept, .long a__drawX, .ref a_images, .ref a_imageX, .ref a_isMade]))] H := by rw [eH]; exact hP
  have hS : va_S (fun _ => False) s.heap H [] := by rw [eH]; exact hS
  rw [← eH]
  clear eH
  obtain ⟨locs, el⟩ : ∃ z : List Loc, z = [] := ⟨_, rfl⟩
  rw [← el] at hS ⊢
  clear el
  have z0 : (0 : Int32).toInt = 0 := by decide
  have z1 : (1 : Int32).toInt = 1 := by decide
  have zm1 : (-1 : Int32).toInt = -1 := by decide
  have i_a__lines : 0 ≤ a__lines.toInt ∧ a__lines.toInt ≤ 40 := h_a__lines
  have i_a__made : 0 ≤ a__made.toInt ∧ a__made.toInt ≤ 60 := h_a__made
  have i_a__next : 0 ≤ a__next.toInt ∧ a__next.toInt ≤ 400 := h_a__next
  have i_a__opened : 0 ≤ a__opened.toInt ∧ a__opened.toInt ≤ 400 := h_a__opened
  have i_a__rules : 0 ≤ a__rules.toInt ∧ a__rules.toInt ≤ 6 := h_a__rules
  have i_a__taped : 0 ≤ a__taped.toInt ∧ a__taped.toInt ≤ 400 := h_a__taped
  have i_a__text : 0 ≤ a__text.toInt ∧ a__text.toInt ≤ 6 := h_a__text
  have i_a__top : 0 ≤ a__top.toInt ∧ a__top.toInt ≤ 64 := h_a__top
  have i_a__undone : 0 ≤ a__undone.toInt ∧ a__undone.toInt ≤ 20 := h_a__undone
  have i_a__x : 0 ≤ a__x.toInt ∧ a__x.toInt ≤ 2147483647 := h_a__x
  have i_p0 : 0 ≤ p0.toInt ∧ p0.toInt ≤ 3 := h_p0
  have i_p1 : 0 ≤ p1.toInt ∧ p1.toInt ≤ 11 := h_p1
  refine lv_aload_n hx hb dX12_isOwnShape_0 rfl (lv_at hl 0 rfl) ?_
  refine lv_iload_n hx hb dX12_isOwnShape_1 rfl (lv_at hl 1 rfl) ?_
  refine va_calli (va_runV (As := [.int p0]) (rest := []) ⟨hx, hb, hml, hown, hT⟩ (c_X12_hasOf l D cs kK kV a p0 a_said a_said_c a_tape a__taped a__rules a_sign a_length a_clause a_clauses a_read a__next a__wrong a__number a__text a__made a__deep a__lines a_open a__opened a_stack a__top a_word a__x a_worth a_mate a_wasSaid a__undone a__boughtNow a_wayBy a_wayThen a__walkMost a__walkGoing a__walkSet a_kept a__drawX a_images a_imageX a_isMade h_a__taped h_a__rules h_a__next h_a__text h_a__made h_a__lines h_a__opened h_a__top h_a__x h_a__undone hf0) (cwV 1 hT (hz_gV q_1160 q_1161 q_1162 q_701 q_1163) rfl rfl rfl (by decide +kernel) ⟨(Nat.le_of_ble_eq_true rfl), (Nat.le_of_ble_eq_true rfl)⟩) ⟨hz_P.blind, va_recv hK hP (ci := 12) (q0 := 1) rfl rfl, hz_P.mk (hP.sub (ws' := [(a_said, .inl (cs 0, 123, .inl a_said_c)), (a, .inr (12, [.ref a_tape, .int a__taped, .int a__rules, .ref a_sign, .ref a_length, .ref a_clause, .ref a_clauses, .ref a_read, .int a__next, .int a__wrong, .int a__number, .int a__text, .int a__made, .int a__deep, .int a__lines, .ref a_open, .int a__opened, .ref a_stack, .int a__top, .ref a_word, .ref a_said, .int a__x, .ref a_worth, .ref a_mate, .ref a_wasSaid, .int a__undone, .int a__boughtNow, .ref a_wayBy, .ref a_wayThen, .int a__walkMost, .int a__walkGoing, .int a__walkSet, .ref a_kept, .long a__drawX, .ref a_images, .ref a_imageX, .ref a_isMade]))]) [0,1] rfl) hE hS⟩ rfl rfl hl.1 rfl (lv_room (Nat.le_of_ble_eq_true rfl)) dX12_isOwnShape_2 ⟨(Nat.le_of_ble_eq_true rfl), (Nat.le_of_ble_eq_true rfl)⟩) hS (fun _ _ h => h.elim) (fun _ h => h.elim) (fun r1 u t H1 locs ht hvm hw hB hz1 hk1 hS => ?_)
  have hP := hz_keep hP hk1
  clear hk1 hB hz1
  generalize H1 = H at hP hS ⊢
  have hw_r1 := hw
  refine lv_iload_n hx hb dX12_isOwnShape_5 rfl (lv_at hl 2 rfl) ?_
  refine va_calli (va_runS (As := [.int r1, .int p1]) (rest := []) ⟨hx, hb, hml, hown, hT⟩ (c_X12_isOf l D cs kK kV r1 p1) (va_cwS 2 hT (hz_gS q_1034 q_1035 q_701 q_1036) rfl rfl rfl (by decide +kernel) ⟨(Nat.le_of_ble_eq_true rfl), (Nat.le_of_ble_eq_true rfl)⟩) ⟨hz_P.blind, hz_P.mk (hP.sub (ws' := []) [] rfl) hE hS⟩ rfl rfl hl.1 rfl (lv_room (Nat.le_of_ble_eq_true rfl)) dX12_isOwnShape_6 ⟨(Nat.le_of_ble_eq_true rfl), (Nat.le_of_ble_eq_true rfl)⟩) hS (fun _ _ h => h.elim) (fun _ h => h.elim) (fun r2 u t H1 locs ht hvm hw hB hz1 hk1 hS => ?_)
  have hP := hz_keep hP hk1
  clear hk1 hB hz1
  generalize H1 = H at hP hS ⊢
  rcases hw with ⟨rfl, x3⟩ | ⟨rfl, x4⟩
  · refine lv_if_eq (tgt := 35) hx hb dX12_isOwnShape_9 (by decide) (fun _ => ?_) (fun z => absurd (by decide) z)
    refine lv_iconst (v := 0) hx hb dX12_isOwnShape_35 (by decide) ?_
    exact W.zret (v := 0) hx hb hr rfl (fun t ht hW => ⟨⟨0, (), rfl, (Or.inl (rfl)), trivial⟩, hS.F ht⟩) hS.2.2 dX12_isOwnShape_36
  · refine lv_if_eq (tgt := 35) hx hb dX12_isOwnShape_9 (by decide) (fun z => absurd z (by decide)) (fun _ => ?_)
    refine lv_aload_n hx hb dX12_isOwnShape_12 rfl (lv_at hl 0 rfl) ?_
    refine lv_iload_n hx hb dX12_isOwnShape_13 rfl (lv_at hl 2 rfl) ?_
    refine lv_iconst (v := 4) hx hb dX12_isOwnShape_14 (by decide) ?_
    refine va_calli (va_runV (As := [.int p1, .int 4]) (rest := []) ⟨hx, hb, hml, hown, hT⟩ (c_X12_halfOf l D cs kK kV a p1 4 a_tape a__taped a__rules a_sign a_length a_clause a_clauses a_read a__next a__wrong a__number a__text a__made a__deep a__lines a_open a__opened a_stack a__top a_word a_said a__x a_worth a_mate a_wasSaid a__undone a__boughtNow a_wayBy a_wayThen a__walkMost a__walkGoing a__walkSet a_kept a__drawX a_images a_imageX a_isMade a_said_c h_p1 ((iv_c (by decide))) h_a__taped h_a__rules h_a__next h_a__text h_a__made h_a__lines h_a__opened h_a__top h_a__x h_a__undone) (cwV 2 hT (hz_gV q_1104 q_1105 q_1106 q_701 q_1107) rfl rfl rfl (by decide +kernel) ⟨(Nat.le_of_ble_eq_true rfl), (Nat.le_of_ble_eq_true rfl)⟩) ⟨hz_P.blind, va_recv hK hP (ci := 12) (q0 := 1) rfl rfl, hz_P.mk (hP.sub (ws' := [(a, .inr (12, [.ref a_tape, .int a__taped, .int a__rules, .ref a_sign, .ref a_length, .ref a_clause, .ref a_clauses, .ref a_read, .int a__next, .int a__wrong, .int a__number, .int a__text, .int a__made, .int a__deep, .int a__lines, .ref a_open, .int a__opened, .ref a_stack, .int a__top, .ref a_word, .ref a_said, .int a__x, .ref a_worth, .ref a_mate, .ref a_wasSaid, .int a__undone, .int a__boughtNow, .ref a_wayBy, .ref a_wayThen, .int a__walkMost, .int a__walkGoing, .int a__walkSet, .ref a_kept, .long a__drawX, .ref a_images, .ref a_imageX, .ref a_isMade])), (a_said, .inl (cs 0, 123, .inl a_said_c))]) [1,0] rfl) hE hS⟩ rfl rfl hl.1 rfl (lv_room (Nat.le_of_ble_eq_true rfl)) dX12_isOwnShape_15 ⟨(Nat.le_of_ble_eq_true rfl), (Nat.le_of_ble_eq_true rfl)⟩) hS (fun _ _ h => h.elim) (fun _ h => h.elim) (fun r5 u t H1 locs ht hvm hw hB hz1 hk1 hS => ?_)
    have hP := hz_keep hP hk1
    clear hk1 hB hz1
    generalize H1 = H at hP hS ⊢
    have x6 := hw
    have z4 : (4 : Int32).toInt = 4 := by decide
    refine lv_if_ne (tgt := 35) hx hb dX12_isOwnShape_18 (by decide) (fun c7 => ?_) (fun c7 => ?_)
    · have t8 : r5.toInt ≠ 0 := lin_ne c7 rfl (by decide)
      refine lv_iconst (v := 0) hx hb dX12_isOwnShape_35 (by decide) ?_
      exact W.zret (v := 0) hx hb hr rfl (fun t ht hW => ⟨⟨0, (), rfl, (Or.inl (rfl)), trivial⟩, hS.F ht⟩) hS.2.2 dX12_isOwnShape_36
    · have t9 : r5.toInt = 0 := lin_eqN c7 rfl (by decide)
      have h10 : IV 0 0 r5 := iv_eq1 c7 iv_top (iv_c (a := 0) (b := 0) (by decide)) (by decide) (by decide)
      have ii11 : 0 ≤ r5.toInt ∧ r5.toInt ≤ 0 := h10
      refine lv_aload_n hx hb dX12_isOwnShape_21 rfl (lv_at hl 0 rfl) ?_
      refine lv_iload_n hx hb dX12_isOwnShape_22 rfl (lv_at hl 2 rfl) ?_
      refine lv_iconst (v := 0) hx hb dX12_isOwnShape_23 (by decide) ?_
      refine va_calli (va_runV (As := [.int p1, .int 0]) (rest := []) ⟨hx, hb, hml, hown, hT⟩ (c_X12_halfOf l D cs kK kV a p1 0 a_tape a__taped a__rules a_sign a_length a_clause a_clauses a_read a__next a__wrong a__number a__text a__made a__deep a__lines a_open a__opened a_stack a__top a_word a_said a__x a_worth a_mate a_wasSaid a__undone a__boughtNow a_wayBy a_wayThen a__walkMost a__walkGoing a__walkSet a_kept a__drawX a_images a_imageX a_isMade a_said_c h_p1 ((iv_c (by decide))) h_a__taped h_a__rules h_a__next h_a__text h_a__made h_a__lines h_a__opened h_a__top h_a__x h_a__undone) (cwV 2 hT (hz_gV q_1104 q_1105 q_1106 q_701 q_1107) rfl rfl rfl (by decide +kernel) ⟨(Nat.le_of_ble_eq_true rfl), (Nat.le_of_ble_eq_true rfl)⟩) ⟨hz_P.blind, va_recv hK hP (ci := 12) (q0 := 1) rfl rfl, hz_P.mk (hP.sub (ws' := [(a, .inr (12, [.ref a_tape, .int a__taped, .int a__rules, .ref a_sign, .ref a_length, .ref a_clause, .ref a_clauses, .ref a_read, .int a__next, .int a__wrong, .int a__number, .int a__text, .int a__made, .int a__deep, .int a__lines, .ref a_open, .int a__opened, .ref a_stack, .int a__top, .ref a_word, .ref a_said, .int a__x, .ref a_worth, .ref a_mate, .ref a_wasSaid, .int a__undone, .int a__boughtNow, .ref a_wayBy, .ref a_wayThen, .int a__walkMost, .int a__walkGoing, .int a__walkSet, .ref a_kept, .long a__drawX, .ref a_images, .ref a_imageX, .ref a_isMade])), (a_said, .inl (cs 0, 123, .inl a_said_c))]) [1,0] rfl) hE hS⟩ rfl rfl hl.1 rfl (lv_room (Nat.le_of_ble_eq_true rfl)) dX12_isOwnShape_24 ⟨(Nat.le_of_ble_eq_true rfl), (Nat.le_of_ble_eq_true rfl)⟩) hS (fun _ _ h => h.elim) (fun _ h => h.elim) (fun r12 u t H1 locs ht hvm hw hB hz1 hk1 hS => ?_)
      have hP := hz_keep hP hk1
      clear hk1 hB hz1
      generalize H1 = H at hP hS ⊢
      have x13 := hw
      refine lv_iload_n hx hb dX12_isOwnShape_27 rfl (lv_at hl 3 rfl) ?_
      refine lv_icmp_ne (tgt := 35) hx hb dX12_isOwnShape_28 (by decide) (fun c14 => ?_) (fun c14 => ?_)
      · have t15 : r12.toInt ≠ p2.toInt := lin_ne c14 rfl rfl
        refine lv_iconst (v := 0) hx hb dX12_isOwnShape_35 (by decide) ?_
        exact W.zret (v := 0) hx hb hr rfl (fun t ht hW => ⟨⟨0, (), rfl, (Or.inl (rfl)), trivial⟩, hS.F ht⟩) hS.2.2 dX12_isOwnShape_36
      · have t16 : r12.toInt = p2.toInt := lin_eqN c14 rfl rfl
        refine lv_iconst (v := 1) hx hb dX12_isOwnShape_31 (by decide) ?_
        refine lv_goto (tgt := 36) hx hb dX12_isOwnShape_32 (by decide) ?_
        exact W.zret (v := 1) hx hb hr rfl (fun t ht hW => ⟨⟨1, (), rfl, (Or.inr ((rfl))), trivial⟩, hS.F ht⟩) hS.2.2 dX12_isOwnShape_36
theorem dX12_criedFor_0 : decode cX12_criedFor 0 = .ok (.iconst 0, 1) := by decide +kernel
theorem dX12_criedFor_1 : decode cX12_criedFor 1 = .ok (.istore_n 3, 1) := by decide +kernel
theorem dX12_criedFor_2 : decode cX12_criedFor 2 = .ok (.iconst 0, 1) := by decide +kernel
theorem dX12_criedFor_3 : decode cX12_criedFor 3 = .ok (.istore 4, 2) := by decide +kernel
theorem dX12_criedFor_5 : decode cX12_criedFor 5 = .ok (.iconst 0, 1) := by decide +kernel
theorem dX12_criedFor_6 : decode cX12_criedFor 6 = .ok (.istore 5, 2) := by decide +kernel
theorem dX12_criedFor_8 : decode cX12_criedFor 8 = .ok (.iload 5, 2) := by decide +kernel
theorem dX12_criedFor_10 : decode cX12_criedFor 10 = .ok (.aload_n 0, 1) := by decide +kernel
theorem dX12_criedFor_11 : decode cX12_criedFor 11 = .ok (.getfield 39, 3) := by decide +kernel
theorem dX12_criedFor_14 : decode cX12_criedFor 14 = .ok (.iconst 1, 1) := by decide +kernel
theorem dX12_criedFor_15 : decode cX12_criedFor 15 = .ok (.iaload, 1) := by decide +kernel
theorem dX12_criedFor_16 : decode cX12_criedFor 16 = .ok (.if_icmp .ge 32, 3) := by decide +kernel
theorem dX12_criedFor_19 : decode cX12_criedFor 19 = .ok (.iload 4, 2) := by decide +kernel
theorem dX12_criedFor_21 : decode cX12_criedFor 21 = .ok (.ifCond .ne 14, 3) := by decide +kernel
theorem dX12_criedFor_24 : decode cX12_criedFor 24 = .ok (.aload_n 0, 1) := by decide +kernel
theorem dX12_criedFor_25 : decode cX12_criedFor 25 = .ok (.iload_n 1, 1) := by decide +kernel
theorem dX12_criedFor_26 : decode cX12_criedFor 26 = .ok (.iload 5, 2) := by decide +kernel
theorem dX12_criedFor_28 : decode cX12_criedFor 28 = .ok (.iload_n 2, 1) := by decide +kernel
theorem dX12_criedFor_29 : decode cX12_criedFor 29 = .ok (.invokevirtual 457, 3) := by decide +kernel
theorem dX12_criedFor_32 : decode cX12_criedFor 32 = .ok (.ifCond .eq 7, 3) := by decide +kernel
theorem dX12_criedFor_35 : decode cX12_criedFor 35 = .ok (.iconst 1, 1) := by decide +kernel
theorem dX12_criedFor_36 : decode cX12_criedFor 36 = .ok (.goto 4, 3) := by decide +kernel
theorem dX12_criedFor_39 : decode cX12_criedFor 39 = .ok (.iconst 0, 1) := by decide +kernel
theorem dX12_criedFor_40 : decode cX12_criedFor 40 = .ok (.istore 4, 2) := by decide +kernel
theorem dX12_criedFor_42 : decode cX12_criedFor 42 = .ok (.iinc 5 1, 3) := by decide +kernel
theorem dX12_criedFor_45 : decode cX12_criedFor 45 = .ok (.goto (-37), 3) := by decide +kernel
theorem dX12_criedFor_48 : decode cX12_criedFor 48 = .ok (.iconst 0, 1) := by decide +kernel
theorem dX12_criedFor_49 : decode cX12_criedFor 49 = .ok (.istore 5, 2) := by decide +kernel
theorem dX12_criedFor_51 : decode cX12_criedFor 51 = .ok (.iload 5, 2) := by decide +kernel
theorem dX12_criedFor_53 : decode cX12_criedFor 53 = .ok (.aload_n 0, 1) := by decide +kernel
theorem dX12_criedFor_54 : decode cX12_criedFor 54 = .ok (.getfield 39, 3) := by decide +kernel
theorem dX12_criedFor_57 : decode cX12_criedFor 57 = .ok (.iconst 1, 1) := by decide +kernel
theorem dX12_criedFor_58 : decode cX12_criedFor 58 = .ok (.iaload, 1) := by decide +kernel
theorem dX12_criedFor_59 : decode cX12_criedFor 59 = .ok (.if_icmp .ge 93, 3) := by decide +kernel
theorem dX12_criedFor_62 : decode cX12_criedFor 62 = .ok (.iconst 0, 1) := by decide +kernel
theorem dX12_criedFor_63 : decode cX12_criedFor 63 = .ok (.istore 6, 2) := by decide +kernel
theorem dX12_criedFor_65 : decode cX12_criedFor 65 = .ok (.iconst 0, 1) := by decide +kernel
theorem dX12_criedFor_66 : decode cX12_criedFor 66 = .ok (.istore 7, 2) := by decide +kernel
theorem dX12_criedFor_68 : decode cX12_criedFor 68 = .ok (.iload 7, 2) := by decide +kernel
theorem dX12_criedFor_70 : decode cX12_criedFor 70 = .ok (.aload_n 0, 1) := by decide +kernel
theorem dX12_criedFor_71 : decode cX12_criedFor 71 = .ok (.getfield 39, 3) := by decide +kernel
theorem dX12_criedFor_74 : decode cX12_criedFor 74 = .ok (.iconst 1, 1) := by decide +kernel
theorem dX12_criedFor_75 : decode cX12_criedFor 75 = .ok (.iaload, 1) := by decide +kernel
theorem dX12_criedFor_76 : decode cX12_criedFor 76 = .ok (.if_icmp .ge 44, 3) := by decide +kernel
theorem dX12_criedFor_79 : decode cX12_criedFor 79 = .ok (.iload 6, 2) := by decide +kernel
theorem dX12_criedFor_81 : decode cX12_criedFor 81 = .ok (.ifCond .ne 26, 3) := by decide +kernel
theorem dX12_criedFor_84 : decode cX12_criedFor 84 = .ok (.aload_n 0, 1) := by decide +kernel
theorem dX12_criedFor_85 : decode cX12_criedFor 85 = .ok (.iload_n 1, 1) := by decide +kernel
theorem dX12_criedFor_86 : decode cX12_criedFor 86 = .ok (.iload 7, 2) := by decide +kernel
theorem dX12_criedFor_88 : decode cX12_criedFor 88 = .ok (.iload_n 2, 1) := by decide +kernel
theorem dX12_criedFor_89 : decode cX12_criedFor 89 = .ok (.invokevirtual 457, 3) := by decide +kernel
theorem dX12_criedFor_92 : decode cX12_criedFor 92 = .ok (.ifCond .eq 19, 3) := by decide +kernel
theorem dX12_criedFor_95 : decode cX12_criedFor 95 = .ok (.aload_n 0, 1) := by decide +kernel
theorem dX12_criedFor_96 : decode cX12_criedFor 96 = .ok (.iload 7, 2) := by decide +kernel
theorem dX12_criedFor_98 : decode cX12_criedFor 98 = .ok (.iload 5, 2) := by decide +kernel
theorem dX12_criedFor_100 : decode cX12_criedFor 100 = .ok (.invokevirtual 326, 3) := by decide +kernel
theorem dX12_criedFor_103 : decode cX12_criedFor 103 = .ok (.iconst 2, 1) := by decide +kernel
theorem dX12_criedFor_104 : decode cX12_criedFor 104 = .ok (.if_icmp .ne 7, 3) := by decide +kernel
theorem dX12_criedFor_107 : decode cX12_criedFor 107 = .ok (.iconst 1, 1) := by decide +kernel
theorem dX12_criedFor_108 : decode cX12_criedFor 108 = .ok (.goto 4, 3) := by decide +kernel
theorem dX12_criedFor_111 : decode cX12_criedFor 111 = .ok (.iconst 0, 1) := by decide +kernel
theorem dX12_criedFor_112 : decode cX12_criedFor 112 = .ok (.istore 6, 2) := by decide +kernel
theorem dX12_criedFor_114 : decode cX12_criedFor 114 = .ok (.iinc 7 1, 3) := by decide +kernel
theorem dX12_criedFor_117 : decode cX12_criedFor 117 = .ok (.goto (-49), 3) := by decide +kernel
theorem dX12_criedFor_120 : decode cX12_criedFor 120 = .ok (.iload_n 3, 1) := by decide +kernel
theorem dX12_criedFor_121 : decode cX12_criedFor 121 = .ok (.iload 6, 2) := by decide +kernel
theorem dX12_criedFor_123 : decode cX12_criedFor 123 = .ok (.ifCond .eq 20, 3) := by decide +kernel
theorem dX12_criedFor_126 : decode cX12_criedFor 126 = .ok (.aload_n 0, 1) := by decide +kernel
theorem dX12_criedFor_127 : decode cX12_criedFor 127 = .ok (.iload_n 1, 1) := by decide +kernel
theorem dX12_criedFor_128 : decode cX12_criedFor 128 = .ok (.invokevirtual 448, 3) := by decide +kernel
theorem dX12_criedFor_131 : decode cX12_criedFor 131 = .ok (.iload 5, 2) := by decide +kernel
theorem dX12_criedFor_133 : decode cX12_criedFor 133 = .ok (.invokestatic 215, 3) := by decide +kernel
theorem dX12_criedFor_136 : decode cX12_criedFor 136 = .ok (.ifCond .eq 7, 3) := by decide +kernel
theorem dX12_criedFor_139 : decode cX12_criedFor 139 = .ok (.iconst 1, 1) := by decide +kernel
theorem dX12_criedFor_140 : decode cX12_criedFor 140 = .ok (.goto 4, 3) := by decide +kernel
theorem dX12_criedFor_143 : decode cX12_criedFor 143 = .ok (.iconst 0, 1) := by decide +kernel
theorem dX12_criedFor_144 : decode cX12_criedFor 144 = .ok (.iadd, 1) := by decide +kernel
theorem dX12_criedFor_145 : decode cX12_criedFor 145 = .ok (.istore_n 3, 1) := by decide +kernel
theorem dX12_criedFor_146 : decode cX12_criedFor 146 = .ok (.iinc 5 1, 3) := by decide +kernel
theorem dX12_criedFor_149 : decode cX12_criedFor 149 = .ok (.goto (-98), 3) := by decide +kernel
theorem dX12_criedFor_152 : decode cX12_criedFor 152 = .ok (.iload 4, 2) := by decide +kernel
theorem dX12_criedFor_154 : decode cX12_criedFor 154 = .ok (.ifCond .eq 7, 3) := by decide +kernel
theorem dX12_criedFor_157 : decode cX12_criedFor 157 = .ok (.iload_n 3, 1) := by decide +kernel
theorem dX12_criedFor_158 : decode cX12_criedFor 158 = .ok (.goto 4, 3) := by decide +kernel
theorem dX12_criedFor_161 : decode cX12_criedFor 161 = .ok (.iconst (-1), 1) := by decide +kernel
theorem dX12_criedFor_162 : decode cX12_criedFor 162 = .ok (.ireturn, 1) := by decide +kernel
set_option maxHeartbeats 4000000 in
set_option maxRecDepth 100000 in
theorem c_X12_criedFor (l : Launch) (D : va_G) (cs : Nat → ClassId) (kK kV : Nat → Nat) (a : Nat) (p0 : Int32) (p1 : Int32) (a_said : Nat) (a_said_c : Nat → Int32) (a_tape : Nat) (a__taped : Int32) (a__rules : Int32) (a_sign : Nat) (a_length : Nat) (a_clause : Nat) (a_clauses : Nat) (a_read : Nat) (a__next : Int32) (a__wrong : Int32) (a__number : Int32) (a__text : Int32) (a__made : Int32) (a__deep : Int32) (a__lines : Int32) (a_open : Nat) (a__opened : Int32) (a_stack : Nat) (a__top : Int32) (a_word : Nat) (a__x : Int32) (a_worth : Nat) (a_mate : Nat) (a_wasSaid : Nat) (a__undone : Int32) (a__boughtNow : Int32) (a_wayBy : Nat) (a_wayThen : Nat) (a__walkMost : Int32) (a__walkGoing : Int32) (a__walkSet : Int32) (a_kept : Nat) (a__drawX : Int64) (a_images : Nat) (a_imageX : Nat) (a_isMade : Nat) (h_p0 : IV 0 3 p0) (h_a__taped : IV 0 400 a__taped) (h_a__rules : IV 0 6 a__rules) (h_a__next : IV 0 400 a__next) (h_a__text : IV 0 6 a__text) (h_a__made : IV 0 60 a__made) (h_a__lines : IV 0 40 a__lines) (h_a__opened : IV 0 400 a__opened) (h_a__top : IV 0 64 a__top) (h_a__x : IV 0 2147483647 a__x) (h_a__undone : IV 0 20 a__undone) (hf0 : BS a_said_c 200) : Met l yX12_criedFor (hz_w yX12_criedFor cX12_criedFor 8 (some .int)) ({ frames := 3, cells := 0, slots := 0, locals := 68 }) (va_Pc [.ref a, .int p0, .int p1] (hz_P D cs kK kV [(a_said, .inl (cs 0, 123, .inl a_said_c)), (a, .inr (12, [.ref a_tape, .int a__taped, .int a__rules, .ref a_sign, .ref a_length, .ref a_clause, .ref a_clauses, .ref a_read, .int a__next, .int a__wrong, .int a__number, .int a__text, .int a__made, .int a__deep, .int a__lines, .ref a_open, .int a__opened, .ref a_stack, .int a__top, .ref a_word, .ref a_said, .int a__x, .ref a_worth, .ref a_mate, .ref a_wasSaid, .int a__undone, .int a__boughtNow, .ref a_wayBy, .ref a_wayThen, .int a__walkMost, .int a__walkGoing, .int a__walkSet, .ref a_kept, .long a__drawX, .ref a_images, .ref a_imageX, .ref a_isMade]))])) (va_Qi (fun (r : Int32) (_ : Unit) => True) (fun _ t => True) (fun _ => False)) 0 0 (fun _ => False) := by
  refine Met.ofW (cc := cX12_criedFor) (maxL := 8) (ret := (some .int)) (by decide) rfl ?_
  intro p e s m args below meth c s₁ B hml hv
  obtain ⟨rfl, hP, hE⟩ := hv
  have hx := B.exec
  have hb := B.bytes
  have hr := B.returns
  have hT : ∀ w ∈ TB, w.before _ s = true := fun w h => atoms_spec (ws := hz_w yX12_criedFor cX12_criedFor 8 (some .int)) B.pre w (List.mem_cons_of_mem _ h)
  have hown : s.vm.findClass RX12 = some m.cls := findClass_of_methodNamed B.named
  have hlocks := B.notSynchronized
  clear B
  have hS : va_S (fun _ => False) s.heap s.heap [] := va_S.rf
  have hK := hE.1
  have hl := lv_entry ([.ref a, .int p0, .int p1]) (n := 8) (Nat.le_of_ble_eq_true rfl)
  rw [lg_entry_eq]
  generalize (lg_sl ([.ref a, .int p0, .int p1]) ++ List.replicate (8 - (lg_sl ([.ref a, .int p0, .int p1])).length) Slot.unset).toArray = ls at hl ⊢
  have hl : lv_has ls 8 [(0, .ref a), (1, .int p0), (2, .int p1)] := hl
  obtain ⟨H, eH⟩ : ∃ z, z = s.heap := ⟨_, rfl⟩
  have hP : va_P D classes [(a_said, .inl (cs 0, 123, .inl a_said_c)), (a, .inr (12, [.ref a_tape, .int a__taped, .int a__rules, .ref a_sign, .ref a_length, .ref a_clause, .ref a_clauses, .ref a_read, .int a__next, .int a__wrong, .int a__number, .int a__text, .int a__made, .int a__deep, .int a__lines, .ref a_open, .int a__opened, .ref a_stack, .int a__top, .ref a_word, .ref a_said, .int a__x, .ref a_worth, .ref a_mate, .ref a_wasSaid, .int a__undone, .int a__boughtNow, .ref a_wayBy, .ref a_wayThen, .int a__walkMost, .int a__walkGoing, .int a__walkSet, .ref a_kept, .long a__drawX, .ref a_images, .ref a_imageX, .ref a_isMade]))] H := by rw [eH]; exact hP
  have hS : va_S (fun _ => False) s.heap H [] := by rw [eH]; exact hS
  rw [← eH]
  clear eH
  obtain ⟨locs, el⟩ : ∃ z : List Loc, z = [] := ⟨_, rfl⟩
  rw [← el] at hS ⊢
  clear el
  have z0 : (0 : Int32).toInt = 0 := by decide
  have z1 : (1 : Int32).toInt = 1 := by decide
  have zm1 : (-1 : Int32).toInt = -1 := by decide
  have i_a__lines : 0 ≤ a__lines.toInt ∧ a__lines.toInt ≤ 40 := h_a__lines
  have i_a__made : 0 ≤ a__made.toInt ∧ a__made.toInt ≤ 60 := h_a__made
  have i_a__next : 0 ≤ a__next.toInt ∧ a__next.toInt ≤ 400 := h_a__next
  have i_a__opened : 0 ≤ a__opened.toInt ∧ a__opened.toInt ≤ 400 := h_a__opened
  have i_a__rules : 0 ≤ a__rules.toInt ∧ a__rules.toInt ≤ 6 := h_a__rules
  have i_a__taped : 0 ≤ a__taped.toInt ∧ a__taped.toInt ≤ 400 := h_a__taped
  have i_a__text : 0 ≤ a__text.toInt ∧ a__text.toInt ≤ 6 := h_a__text
  have i_a__top : 0 ≤ a__top.toInt ∧ a__top.toInt ≤ 64 := h_a__top
  have i_a__undone : 0 ≤ a__undone.toInt ∧ a__undone.toInt ≤ 20 := h_a__undone
  have i_a__x : 0 ≤ a__x.toInt ∧ a__x.toInt ≤ 2147483647 := h_a__x
  have i_p0 : 0 ≤ p0.toInt ∧ p0.toInt ≤ 3 := h_p0
  have K51 : ∀ (n : Nat) (k51_L_5 : Int32) (k51_L_4 : Int32) (k51_L_3 : Int32), (12 - k51_L_5.toInt + 1).toNat ≤ n → IV 0 1 k51_L_4 → IV 0 12 k51_L_5 → ∀ (H : Heap) (locs : List Loc), va_P D classes [(a_said, .inl (cs 0, 123, .inl a_said_c)), (a, .inr (12, [.ref a_tape, .int a__taped, .int a__rules, .ref a_sign, .ref a_length, .ref a_clause, .ref a_clauses, .ref a_read, .int a__next, .int a__wrong, .int a__number, .int a__text, .int a__made, .int a__deep, .int a__lines, .ref a_open, .int a__opened, .ref a_stack, .int a__top, .ref a_word, .ref a_said, .int a__x, .ref a_worth, .ref a_mate, .ref a_wasSaid, .int a__undone, .int a__boughtNow, .ref a_wayBy, .ref a_wayThen, .int a__walkMost, .int a__walkGoing, .int a__walkSet, .ref a_kept, .long a__drawX, .ref a_images, .ref a_imageX, .ref a_isMade]))] H → va_S (fun _ => False) s.heap H locs → ∀ ls : Array Slot, lv_has ls 8 [(5, .int k51_L_5), (4, .int k51_L_4), (3, .int k51_L_3), (0, .ref a), (1, .int p0), (2, .int p1)] → W p l e (headSpec (hz_w yX12_criedFor cX12_criedFor 8 (some .int)) ({ frames := 3, cells := 0, slots := 0, locals := 68 })).room s m [.ref a, .int p0, .int p1].toArray below meth c H locs 0 0 (MQ below (va_Qi (fun (r : Int32) (_ : Unit) => True) (fun _ t => True) (fun _ => False)) [.ref a, .int p0, .int p1].toArray s 0 0 (fun _ => False)) (F0 m 51 ls []) := by
    intro n
    induction n with
    | zero =>
      intro k51_L_5 k51_L_4 k51_L_3 hn q51_10 q51_11 H locs hP hS ls hl
      exact absurd hn (by unfold IV at q51_11; omega)
    | succ n ih51 =>
      intro k51_L_5 k51_L_4 k51_L_3 hn q51_10 q51_11 H locs hP hS ls hl
      have i_a__lines : 0 ≤ a__lines.toInt ∧ a__lines.toInt ≤ 40 := h_a__lines
      have i_a__made : 0 ≤ a__made.toInt ∧ a__made.toInt ≤ 60 := h_a__made
      have i_a__next : 0 ≤ a__next.toInt ∧ a__next.toInt ≤ 400 := h_a__next
      have i_a__opened : 0 ≤ a__opened.toInt ∧ a__opened.toInt ≤ 400 := h_a__opened
      have i_a__rules : 0 ≤ a__rules.toInt ∧ a__rules.toInt ≤ 6 := h_a__rules
      have i_a__taped : 0 ≤ a__taped.toInt ∧ a__taped.toInt ≤ 400 := h_a__taped
      have i_a__text : 0 ≤ a__text.toInt ∧ a__text.toInt ≤ 6 := h_a__text
      have i_a__top : 0 ≤ a__top.toInt ∧ a__top.toInt ≤ 64 := h_a__top
      have i_a__undone : 0 ≤ a__undone.toInt ∧ a__undone.toInt ≤ 20 := h_a__undone
      have i_a__x : 0 ≤ a__x.toInt ∧ a__x.toInt ≤ 2147483647 := h_a__x
      have i_k51_L_4 : 0 ≤ k51_L_4.toInt ∧ k51_L_4.toInt ≤ 1 := q51_10
      have i_k51_L_5 : 0 ≤ k51_L_5.toInt ∧ k51_L_5.toInt ≤ 12 := q51_11
      have i_p0 : 0 ≤ p0.toInt ∧ p0.toInt ≤ 3 := h_p0
      have K68 : ∀ (n : Nat) (k68_L_7 : Int32) (k68_L_6 : Int32), (12 - k68_L_7.toInt + 1).toNat ≤ n → IV 0 1 k51_L_4 → IV 0 11 k51_L_5 → IV 0 1 k68_L_6 → IV 0 12 k68_L_7 → ∀ (H : Heap) (locs : List Loc), va_P D classes [(a_said, .inl (cs 0, 123, .inl a_said_c)), (a, .inr (12, [.ref a_tape, .int a__taped, .int a__rules, .ref a_sign, .ref a_length, .ref a_clause, .ref a_clauses, .ref a_read, .int a__next, .int a__wrong, .int a__number, .int a__text, .int a__made, .int a__deep, .int a__lines, .ref a_open, .int a__opened, .ref a_stack, .int a__top, .ref a_word, .ref a_said, .int a__x, .ref a_worth, .ref a_mate, .ref a_wasSaid, .int a__undone, .int a__boughtNow, .ref a_wayBy, .ref a_wayThen, .int a__walkMost, .int a__walkGoing, .int a__walkSet, .ref a_kept, .long a__drawX, .ref a_images, .ref a_imageX, .ref a_isMade]))] H → va_S (fun _ => False) s.heap H locs → ∀ ls : Array Slot, lv_has ls 8 [(7, .int k68_L_7), (6, .int k68_L_6), (5, .int k51_L_5), (4, .int k51_L_4), (3, .int k51_L_3), (0, .ref a), (1, .int p0), (2, .int p1)] → W p l e (headSpec (hz_w yX12_criedFor cX12_criedFor 8 (some .int)) ({ frames := 3, cells := 0, slots := 0, locals := 68 })).room s m [.ref a, .int p0, .int p1].toArray below meth c H locs 0 0 (MQ below (va_Qi (fun (r : Int32) (_ : Unit) => True) (fun _ t => True) (fun _ => False)) [.ref a, .int p0, .int p1].toArray s 0 0 (fun _ => False)) (F0 m 68 ls []) := by
        intro n
        induction n with
        | zero =>
          intro k68_L_7 k68_L_6 hn q68_10 q68_11 q68_12 q68_13 H locs hP hS ls hl
          exact absurd hn (by unfold IV at q68_13; omega)
        | succ n ih68 =>
          intro k68_L_7 k68_L_6 hn q68_10 q68_11 q68_12 q68_13 H locs hP hS ls hl
          have i_a__lines : 0 ≤ a__lines.toInt ∧ a__lines.toInt ≤ 40 := h_a__lines
          have i_a__made : 0 ≤ a__made.toInt ∧ a__made.toInt ≤ 60 := h_a__made
          have i_a__next : 0 ≤ a__next.toInt ∧ a__next.toInt ≤ 400 := h_a__next
          have i_a__opened : 0 ≤ a__opened.toInt ∧ a__opened.toInt ≤ 400 := h_a__opened
          have i_a__rules : 0 ≤ a__rules.toInt ∧ a__rules.toInt ≤ 6 := h_a__rules
          have i_a__taped : 0 ≤ a__taped.toInt ∧ a__taped.toInt ≤ 400 := h_a__taped
          have i_a__text : 0 ≤ a__text.toInt ∧ a__text.toInt ≤ 6 := h_a__text
          have i_a__top : 0 ≤ a__top.toInt ∧ a__top.toInt ≤ 64 := h_a__top
          have i_a__undone : 0 ≤ a__undone.toInt ∧ a__undone.toInt ≤ 20 := h_a__undone
          have i_a__x : 0 ≤ a__x.toInt ∧ a__x.toInt ≤ 2147483647 := h_a__x
          have i_k51_L_4 : 0 ≤ k51_L_4.toInt ∧ k51_L_4.toInt ≤ 1 := q68_10
          have i_k51_L_5 : 0 ≤ k51_L_5.toInt ∧ k51_L_5.toInt ≤ 11 := q68_11
          have i_k68_L_6 : 0 ≤ k68_L_6.toInt ∧ k68_L_6.toInt ≤ 1 := q68_12
          have i_k68_L_7 : 0 ≤ k68_L_7.toInt ∧ k68_L_7.toInt ≤ 12 := q68_13
          have i_p0 : 0 ≤ p0.toInt ∧ p0.toInt ≤ 3 := h_p0
          refine lv_iload hx hb dX12_criedFor_68 (lv_at hl 0 rfl) ?_
          refine lv_aload_n hx hb dX12_criedFor_70 rfl (lv_at hl 5 rfl) ?_
          refine va_get (D := D) (ci := 12) (v := .ref a_said) (C := RX12) (T := TX12) (N := 37) hx hb hT i_X12 hown hK hP 1 rfl rfl 20 (by decide) (hT _ q_185) (fun _ h9 => h9) rfl dX12_criedFor_71 ?_
          refine lv_iconst (v := 1) hx hb dX12_criedFor_74 (by decide) ?_
          refine va_iald hx hb hK hP 0 0 rfl rfl (iv_vc (by decide)) dX12_criedFor_75 ?_
          refine lv_topi (fun v1 ev1 => ?_)
          have h2 : IV 0 12 v1 := (by rw [ev1]; exact bs_i1 hf0)
          have ii3 : 0 ≤ v1.toInt ∧ v1.toInt ≤ 12 := h2
          have lv1 : v1.toInt = (a_said_c 1).toInt := by rw [ev1]; rfl
          refine lv_icmp_ge (tgt := 120) hx hb dX12_criedFor_76 (by decide) (fun c4 => ?_) (fun c4 => ?_)
          · have t5 : k68_L_7.toInt ≥ v1.toInt := lin_ge c4 rfl rfl
            refine lv_iload_n hx hb dX12_criedFor_120 rfl (lv_at hl 4 rfl) ?_
            refine lv_iload hx hb dX12_criedFor_121 (lv_at hl 1 rfl) ?_
            refine lv_if_eq (tgt := 143) hx hb dX12_criedFor_123 (by decide) (fun c6 => ?_) (fun c6 => ?_)
            · have t7 : k68_L_6.toInt = 0 := lin_eq c6 rfl (by decide)
              have h8 : IV 0 0 k68_L_6 := iv_eq1 c6 q68_12 (iv_c (a := 0) (b := 0) (by decide)) (by decide) (by decide)
              have ii9 : 0 ≤ k68_L_6.toInt ∧ k68_L_6.toInt ≤ 0 := h8
              refine lv_iconst (v := 0) hx hb dX12_criedFor_143 (by decide) ?_
              refine lv_iadd hx hb dX12_criedFor_144 ?_
              refine lv_topi (fun v10 ev10 => ?_)
              refine lv_istore_n (lv' := [(3, .int v10), (7, .int k68_L_7), (6, .int k68_L_6), (5, .int k51_L_5), (4, .int k51_L_4), (0, .ref a), (1, .int p0), (2, .int p1)]) hx hb dX12_criedFor_145 rfl hl (by decide) rfl (fun ls hl => ?_)
              obtain ⟨v11, ev11⟩ : ∃ z : Int32, z = k51_L_5 + 1 := ⟨_, rfl⟩
              have hv11 : IV 1 12 v11 := iv_add ev11 q68_11 (iv_c (a := 1) (b := 1) (by decide)) (by decide) (by decide)
              have dv11 : v11.toInt = k51_L_5.toInt + 1 := iv_addE ev11 q68_11 (iv_c (a := 1) (b := 1) (by decide)) (by decide) (by decide) (by decide)
              refine lv_iinc (v := v11) (lv' := [(5, .int v11), (3, .int v10), (7, .int k68_L_7), (6, .int k68_L_6), (4, .int k51_L_4), (0, .ref a), (1, .int p0), (2, .int p1)]) hx hb dX12_criedFor_146 hl (k := 3) rfl (by rw [ev11]; rfl) (by decide) rfl (fun ls hl => ?_)
              refine lv_goto (tgt := 51) hx hb dX12_criedFor_149 (by decide) ?_
              exact ih51 v11 k51_L_4 v10 (by have h9 := q68_11; unfold IV at h9; have := dv11; omega) q68_10 (iv_w hv11 (by decide) (by decide)) H locs (hP.sub (ws' := [(a_said, .inl (cs 0, 123, .inl a_said_c)), (a, .inr (12, [.ref a_tape, .int a__taped, .int a__rules, .ref a_sign, .ref a_length, .ref a_clause, .ref a_clauses, .ref a_read, .int a__next, .int a__wrong, .int a__number, .int a__text, .int a__made, .int a__deep, .int a__lines, .ref a_open, .int a__opened, .ref a_stack, .int a__top, .ref a_word, .ref a_said, .int a__x, .ref a_worth, .ref a_mate, .ref a_wasSaid, .int a__undone, .int a__boughtNow, .ref a_wayBy, .ref a_wayThen, .int a__walkMost, .int a__walkGoing, .int a__walkSet, .ref a_kept, .long a__drawX, .ref a_images, .ref a_imageX, .ref a_isMade]))]) [0, 1] rfl) hS ls (lv_sub hl [0, 4, 1, 5, 6, 7] rfl)
            · have t12 : k68_L_6.toInt ≠ 0 := lin_ne c6 rfl (by decide)
              have h13 : IV 1 1 k68_L_6 := iv_neL c6 q68_12 (by decide)
              have ii14 : 1 ≤ k68_L_6.toInt ∧ k68_L_6.toInt ≤ 1 := h13
              refine lv_aload_n hx hb dX12_criedFor_126 rfl (lv_at hl 5 rfl) ?_
              refine lv_iload_n hx hb dX12_criedFor_127 rfl (lv_at hl 6 rfl) ?_
              refine va_calli (va_runV (As := [.int p0]) (rest := [.int k51_L_3]) ⟨hx, hb, hml, hown, hT⟩ (c_X12_unseen l D cs kK kV a p0 a_said a_said_c a_tape a__taped a__rules a_sign a_length a_clause a_clauses a_read a__next a__wrong a__number a__text a__made a__deep a__lines a_open a__opened a_stack a__top a_word a__x a_worth a_mate a_wasSaid a__undone a__boughtNow a_wayBy a_wayThen a__walkMost a__walkGoing a__walkSet a_kept a__drawX a_images a_imageX a_isMade h_p0 h_a__taped h_a__rules h_a__next h_a__text h_a__made h_a__lines h_a__opened h_a__top h_a__x h_a__undone hf0) (cwV 1 hT (hz_gV q_1262 q_1263 q_1264 q_701 q_1265) rfl rfl rfl (by decide +kernel) ⟨(Nat.le_of_ble_eq_true rfl), (Nat.le_of_ble_eq_true rfl)⟩) ⟨hz_P.blind, va_recv hK hP (ci := 12) (q0 := 1) rfl rfl, hz_P.mk (hP.sub (ws' := [(a_said, .inl (cs 0, 123, .inl a_said_c)), (a, .inr (12, [.ref a_tape, .int a__taped, .int a__rules, .ref a_sign, .ref a_length, .ref a_clause, .ref a_clauses, .ref a_read, .int a__next, .int a__wrong, .int a__number, .int a__text, .int a__made, .int a__deep, .int a__lines, .ref a_open, .int a__opened, .ref a_stack, .int a__top, .ref a_word, .ref a_said, .int a__x, .ref a_worth, .ref a_mate, .ref a_wasSaid, .int a__undone, .int a__boughtNow, .ref a_wayBy, .ref a_wayThen, .int a__walkMost, .int a__walkGoing, .int a__walkSet, .ref a_kept, .long a__drawX, .ref a_images, .ref a_imageX, .ref a_isMade]))]) [0,1] rfl) hE hS⟩ rfl rfl hl.1 rfl (lv_room (Nat.le_of_ble_eq_true rfl)) dX12_criedFor_128 ⟨(Nat.le_of_ble_eq_true rfl), (Nat.le_of_ble_eq_true rfl)⟩) hS (fun _ _ h => h.elim) (fun _ h => h.elim) (fun r15 u t H1 locs ht hvm hw hB hz1 hk1 hS => ?_)
              have hP := hz_keep hP hk1
              clear hk1 hB hz1
              generalize H1 = H at hP hS ⊢
              have hw_r15 := hw
              refine lv_iload hx hb dX12_criedFor_131 (lv_at hl 2 rfl) ?_
              refine va_calli (va_runS (As := [.int r15, .int k51_L_5]) (rest := [.int k51_L_3]) ⟨hx, hb, hml, hown, hT⟩ (c_X12_isOf l D cs kK kV r15 k51_L_5) (va_cwS 2 hT (hz_gS q_1034 q_1035 q_701 q_1036) rfl rfl rfl (by decide +kernel) ⟨(Nat.le_of_ble_eq_true rfl), (Nat.le_of_ble_eq_true rfl)⟩) ⟨hz_P.blind, hz_P.mk (hP.sub (ws' := []) [] rfl) hE hS⟩ rfl rfl hl.1 rfl (lv_room (Nat.le_of_ble_eq_true rfl)) dX12_criedFor_133 ⟨(Nat.le_of_ble_eq_true rfl), (Nat.le_of_ble_eq_true rfl)⟩) hS (fun _ _ h => h.elim) (fun _ h => h.elim) (fun r16 u t H1 locs ht hvm hw hB hz1 hk1 hS => ?_)
              have hP := hz_keep hP hk1
              clear hk1 hB hz1
              generalize H1 = H at hP hS ⊢
              rcases hw with ⟨rfl, x17⟩ | ⟨rfl, x18⟩
              · refine lv_if_eq (tgt := 143) hx hb dX12_criedFor_136 (by decide) (fun _ => ?_) (fun z => absurd (by decide) z)
                refine lv_iconst (v := 0) hx hb dX12_criedFor_143 (by decide) ?_
                refine lv_iadd hx hb dX12_criedFor_144 ?_
                refine lv_topi (fun v19 ev19 => ?_)
                refine lv_istore_n (lv' := [(3, .int v19), (7, .int k68_L_7), (6, .int k68_L_6), (5, .int k51_L_5), (4, .int k51_L_4), (0, .ref a), (1, .int p0), (2, .int p1)]) hx hb dX12_criedFor_145 rfl hl (by decide) rfl (fun ls hl => ?_)
                obtain ⟨v20, ev20⟩ : ∃ z : Int32, z = k51_L_5 + 1 := ⟨_, rfl⟩
                have hv20 : IV 1 12 v20 := iv_add ev20 q68_11 (iv_c (a := 1) (b := 1) (by decide)) (by decide) (by decide)
                have dv20 : v20.toInt = k51_L_5.toInt + 1 := iv_addE ev20 q68_11 (iv_c (a := 1) (b := 1) (by decide)) (by decide) (by decide) (by decide)
                refine lv_iinc (v := v20) (lv' := [(5, .int v20), (3, .int v19), (7, .int k68_L_7), (6, .int k68_L_6), (4, .int k51_L_4), (0, .ref a), (1, .int p0), (2, .int p1)]) hx hb dX12_criedFor_146 hl (k := 3) rfl (by rw [ev20]; rfl) (by decide) rfl (fun ls hl => ?_)
                refine lv_goto (tgt := 51) hx hb dX12_criedFor_149 (by decide) ?_
                exact ih51 v20 k51_L_4 v19 (by have h9 := q68_11; unfold IV at h9; have := dv20; omega) q68_10 (iv_w hv20 (by decide) (by decide)) H locs (hP.sub (ws' := [(a_said, .inl (cs 0, 123, .inl a_said_c)), (a, .inr (12, [.ref a_tape, .int a__taped, .int a__rules, .ref a_sign, .ref a_length, .ref a_clause, .ref a_clauses, .ref a_read, .int a__next, .int a__wrong, .int a__number, .int a__text, .int a__made, .int a__deep, .int a__lines, .ref a_open, .int a__opened, .ref a_stack, .int a__top, .ref a_word, .ref a_said, .int a__x, .ref a_worth, .ref a_mate, .ref a_wasSaid, .int a__undone, .int a__boughtNow, .ref a_wayBy, .ref a_wayThen, .int a__walkMost, .int a__walkGoing, .int a__walkSet, .ref a_kept, .long a__drawX, .ref a_images, .ref a_imageX, .ref a_isMade]))]) [0, 1] rfl) hS ls (lv_sub hl [0, 4, 1, 5, 6, 7] rfl)
              · refine lv_if_eq (tgt := 143) hx hb dX12_criedFor_136 (by decide) (fun z => absurd z (by decide)) (fun _ => ?_)
                refine lv_iconst (v := 1) hx hb dX12_criedFor_139 (by decide) ?_
                refine lv_goto (tgt := 144) hx hb dX12_criedFor_140 (by decide) ?_
                refine lv_iadd hx hb dX12_criedFor_144 ?_
                refine lv_topi (fun v21 ev21 => ?_)
                refine lv_istore_n (lv' := [(3, .int v21), (7, .int k68_L_7), (6, .int k68_L_6), (5, .int k51_L_5), (4, .int k51_L_4), (0, .ref a), (1, .int p0), (2, .int p1)]) hx hb dX12_criedFor_145 rfl hl (by decide) rfl (fun ls hl => ?_)
                obtain ⟨v22, ev22⟩ : ∃ z : Int32, z = k51_L_5 + 1 := ⟨_, rfl⟩
                have hv22 : IV 1 12 v22 := iv_add ev22 q68_11 (iv_c (a := 1) (b := 1) (by decide)) (by decide) (by decide)
                have dv22 : v22.toInt = k51_L_5.toInt + 1 := iv_addE ev22 q68_11 (iv_c (a := 1) (b := 1) (by decide)) (by decide) (by decide) (by decide)
                refine lv_iinc (v := v22) (lv' := [(5, .int v22), (3, .int v21), (7, .int k68_L_7), (6, .int k68_L_6), (4, .int k51_L_4), (0, .ref a), (1, .int p0), (2, .int p1)]) hx hb dX12_criedFor_146 hl (k := 3) rfl (by rw [ev22]; rfl) (by decide) rfl (fun ls hl => ?_)
                refine lv_goto (tgt := 51) hx hb dX12_criedFor_149 (by decide) ?_
                exact ih51 v22 k51_L_4 v21 (by have h9 := q68_11; unfold IV at h9; have := dv22; omega) q68_10 (iv_w hv22 (by decide) (by decide)) H locs (hP.sub (ws' := [(a_said, .inl (cs 0, 123, .inl a_said_c)), (a, .inr (12, [.ref a_tape, .int a__taped, .int a__rules, .ref a_sign, .ref a_length, .ref a_clause, .ref a_clauses, .ref a_read, .int a__next, .int a__wrong, .int a__number, .int a__text, .int a__made, .int a__deep, .int a__lines, .ref a_open, .int a__opened, .ref a_stack, .int a__top, .ref a_word, .ref a_said, .int a__x, .ref a_worth, .ref a_mate, .ref a_wasSaid, .int a__undone, .int a__boughtNow, .ref a_wayBy, .ref a_wayThen, .int a__walkMost, .int a__walkGoing, .int a__walkSet, .ref a_kept, .long a__drawX, .ref a_images, .ref a_imageX, .ref a_isMade]))]) [0, 1] rfl) hS ls (lv_sub hl [0, 4, 1, 5, 6, 7] rfl)
          · have t23 : k68_L_7.toInt < v1.toInt := lin_geN c4 rfl rfl
            have h24 : IV 0 11 k68_L_7 := iv_lt1 (Int32.not_le.mp c4) q68_13 h2 (by decide)
            have ii25 : 0 ≤ k68_L_7.toInt ∧ k68_L_7.toInt ≤ 11 := h24
            have h26 : IV 1 12 v1 := iv_lt2 (Int32.not_le.mp c4) q68_13 h2 (by decide)
            have ii27 : 1 ≤ v1.toInt ∧ v1.toInt ≤ 12 := h26
            refine lv_iload hx hb dX12_criedFor_79 (lv_at hl 1 rfl) ?_
            refine lv_if_ne (tgt := 107) hx hb dX12_criedFor_81 (by decide) (fun c28 => ?_) (fun c28 => ?_)
            · have t29 : k68_L_6.toInt ≠ 0 := lin_ne c28 rfl (by decide)
              have h30 : IV 1 1 k68_L_6 := iv_neL c28 q68_12 (by decide)
              have ii31 : 1 ≤ k68_L_6.toInt ∧ k68_L_6.toInt ≤ 1 := h30
              refine lv_iconst (v := 1) hx hb dX12_criedFor_107 (by decide) ?_
              refine lv_goto (tgt := 112) hx hb dX12_criedFor_108 (by decide) ?_
              refine lv_istore (lv' := [(6, .int 1), (7, .int k68_L_7), (5, .int k51_L_5), (4, .int k51_L_4), (3, .int k51_L_3), (0, .ref a), (1, .int p0), (2, .int p1)]) hx hb dX12_criedFor_112 hl (by decide) rfl (fun ls hl => ?_)
              obtain ⟨v32, ev32⟩ : ∃ z : Int32, z = k68_L_7 + 1 := ⟨_, rfl⟩
              have hv32 : IV 1 12 v32 := iv_add ev32 h24 (iv_c (a := 1) (b := 1) (by decide)) (by decide) (by decide)
              have dv32 : v32.toInt = k68_L_7.toInt + 1 := iv_addE ev32 h24 (iv_c (a := 1) (b := 1) (by decide)) (by decide) (by decide) (by decide)
              refine lv_iinc (v := v32) (lv' := [(7, .int v32), (6, .int 1), (5, .int k51_L_5), (4, .int k51_L_4), (3, .int k51_L_3), (0, .ref a), (1, .int p0), (2, .int p1)]) hx hb dX12_criedFor_114 hl (k := 1) rfl (by rw [ev32]; rfl) (by decide) rfl (fun ls hl => ?_)
              refine lv_goto (tgt := 68) hx hb dX12_criedFor_117 (by decide) ?_
              exact ih68 v32 ((1 : Int32)) (by have h9 := h24; unfold IV at h9; have := dv32; omega) q68_10 q68_11 (iv_c (by decide)) (iv_w hv32 (by decide) (by decide)) H locs (hP.sub (ws' := [(a_said, .inl (cs 0, 123, .inl a_said_c)), (a, .inr (12, [.ref a_tape, .int a__taped, .int a__rules, .ref a_sign, .ref a_length, .ref a_clause, .ref a_clauses, .ref a_read, .int a__next, .int a__wrong, .int a__number, .int a__text, .int a__made, .int a__deep, .int a__lines, .ref a_open, .int a__opened, .ref a_stack, .int a__top, .ref a_word, .ref a_said, .int a__x, .ref a_worth, .ref a_mate, .ref a_wasSaid, .int a__undone, .int a__boughtNow, .ref a_wayBy, .ref a_wayThen, .int a__walkMost, .int a__walkGoing, .int a__walkSet, .ref a_kept, .long a__drawX, .ref a_images, .ref a_imageX, .ref a_isMade]))]) [0, 1] rfl) hS ls (lv_sub hl [0, 1, 2, 3, 4, 5, 6, 7] rfl)
            · have t33 : k68_L_6.toInt = 0 := lin_eqN c28 rfl (by decide)
              have h34 : IV 0 0 k68_L_6 := iv_eq1 c28 q68_12 (iv_c (a := 0) (b := 0) (by decide)) (by decide) (by decide)
              have ii35 : 0 ≤ k68_L_6.toInt ∧ k68_L_6.toInt ≤ 0 := h34
              refine lv_aload_n hx hb dX12_criedFor_84 rfl (lv_at hl 5 rfl) ?_
              refine lv_iload_n hx hb dX12_criedFor_85 rfl (lv_at hl 6 rfl) ?_
              refine lv_iload hx hb dX12_criedFor_86 (lv_at hl 0 rfl) ?_
              refine lv_iload_n hx hb dX12_criedFor_88 rfl (lv_at hl 7 rfl) ?_
              refine va_calli (va_runV (As := [.int p0, .int k68_L_7, .int p1]) (rest := []) ⟨hx, hb, hml, hown, hT⟩ (c_X12_isOwnShape l D cs kK kV a p0 k68_L_7 p1 a_said a_said_c a_tape a__taped a__rules a_sign a_length a_clause a_clauses a_read a__next a__wrong a__number a__text a__made a__deep a__lines a_open a__opened a_stack a__top a_word a__x a_worth a_mate a_wasSaid a__undone a__boughtNow a_wayBy a_wayThen a__walkMost a__walkGoing a__walkSet a_kept a__drawX a_images a_imageX a_isMade h_p0 h24 h_a__taped h_a__rules h_a__next h_a__text h_a__made h_a__lines h_a__opened h_a__top h_a__x h_a__undone hf0) (cwV 3 hT (hz_gV q_1273 q_1274 q_1275 q_701 q_1276) rfl rfl rfl (by decide +kernel) ⟨(Nat.le_of_ble_eq_true rfl), (Nat.le_of_ble_eq_true rfl)⟩) ⟨hz_P.blind, va_recv hK hP (ci := 12) (q0 := 1) rfl rfl, hz_P.mk (hP.sub (ws' := [(a_said, .inl (cs 0, 123, .inl a_said_c)), (a, .inr (12, [.ref a_tape, .int a__taped, .int a__rules, .ref a_sign, .ref a_length, .ref a_clause, .ref a_clauses, .ref a_read, .int a__next, .int a__wrong, .int a__number, .int a__text, .int a__made, .int a__deep, .int a__lines, .ref a_open, .int a__opened, .ref a_stack, .int a__top, .ref a_word, .ref a_said, .int a__x, .ref a_worth, .ref a_mate, .ref a_wasSaid, .int a__undone, .int a__boughtNow, .ref a_wayBy, .ref a_wayThen, .int a__walkMost, .int a__walkGoing, .int a__walkSet, .ref a_kept, .long a__drawX, .ref a_images, .ref a_imageX, .ref a_isMade]))]) [0,1] rfl) hE hS⟩ rfl rfl hl.1 rfl (lv_room (Nat.le_of_ble_eq_true rfl)) dX12_criedFor_89 ⟨(Nat.le_of_ble_eq_true rfl), (Nat.le_of_ble_eq_true rfl)⟩) hS (fun _ _ h => h.elim) (fun _ h => h.elim) (fun r36 u t H1 locs ht hvm hw hB hz1 hk1 hS => ?_)
              have hP := hz_keep hP hk1
              clear hk1 hB hz1
              generalize H1 = H at hP hS ⊢
              rcases hw with rfl | rfl
              · refine lv_if_eq (tgt := 111) hx hb dX12_criedFor_92 (by decide) (fun _ => ?_) (fun z => absurd (by decide) z)
                refine lv_iconst (v := 0) hx hb dX12_criedFor_111 (by decide) ?_
                refine lv_istore (lv' := [(6, .int 0), (7, .int k68_L_7), (5, .int k51_L_5), (4, .int k51_L_4), (3, .int k51_L_3), (0, .ref a), (1, .int p0), (2, .int p1)]) hx hb dX12_criedFor_112 hl (by decide) rfl (fun ls hl => ?_)
                obtain ⟨v37, ev37⟩ : ∃ z : Int32, z = k68_L_7 + 1 := ⟨_, rfl⟩
                have hv37 : IV 1 12 v37 := iv_add ev37 h24 (iv_c (a := 1) (b := 1) (by decide)) (by decide) (by decide)
                have dv37 : v37.toInt = k68_L_7.toInt + 1 := iv_addE ev37 h24 (iv_c (a := 1) (b := 1) (by decide)) (by decide) (by decide) (by decide)
                refine lv_iinc (v := v37) (lv' := [(7, .int v37), (6, .int 0), (5, .int k51_L_5), (4, .int k51_L_4), (3, .int k51_L_3), (0, .ref a), (1, .int p0), (2, .int p1)]) hx hb dX12_criedFor_114 hl (k := 1) rfl (by rw [ev37]; rfl) (by decide) rfl (fun ls hl => ?_)
                refine lv_goto (tgt := 68) hx hb dX12_criedFor_117 (by decide) ?_
                exact ih68 v37 ((0 : Int32)) (by have h9 := h24; unfold IV at h9; have := dv37; omega) q68_10 q68_11 (iv_c (by decide)) (iv_w hv37 (by decide) (by decide)) H locs (hP.sub (ws' := [(a_said, .inl (cs 0, 123, .inl a_said_c)), (a, .inr (12, [.ref a_tape, .int a__taped, .int a__rules, .ref a_sign, .ref a_length, .ref a_clause, .ref a_clauses, .ref a_read, .int a__next, .int a__wrong, .int a__number, .int a__text, .int a__made, .int a__deep, .int a__lines, .ref a_open, .int a__opened, .ref a_stack, .int a__top, .ref a_word, .ref a_said, .int a__x, .ref a_worth, .ref a_mate, .ref a_wasSaid, .int a__undone, .int a__boughtNow, .ref a_wayBy, .ref a_wayThen, .int a__walkMost, .int a__walkGoing, .int a__walkSet, .ref a_kept, .long a__drawX, .ref a_images, .ref a_imageX, .ref a_isMade]))]) [0, 1] rfl) hS ls (lv_sub hl [0, 1, 2, 3, 4, 5, 6, 7] rfl)
              · refine lv_if_eq (tgt := 111) hx hb dX12_criedFor_92 (by decide) (fun z => absurd z (by decide)) (fun _ => ?_)
                refine lv_aload_n hx hb dX12_criedFor_95 rfl (lv_at hl 5 rfl) ?_
                refine lv_iload hx hb dX12_criedFor_96 (lv_at hl 0 rfl) ?_
                refine lv_iload hx hb dX12_criedFor_98 (lv_at hl 2 rfl) ?_
                refine va_calli (va_runV (As := [.int k68_L_7, .int k51_L_5]) (rest := []) ⟨hx, hb, hml, hown, hT⟩ (c_X12_fitOf l D cs kK kV a k68_L_7 k51_L_5 a_tape a__taped a__rules a_sign a_length a_clause a_clauses a_read a__next a__wrong a__number a__text a__made a__deep a__lines a_open a__opened a_stack a__top a_word a_said a__x a_worth a_mate a_wasSaid a__undone a__boughtNow a_wayBy a_wayThen a__walkMost a__walkGoing a__walkSet a_kept a__drawX a_images a_imageX a_isMade a_said_c h24 q68_11 h_a__taped h_a__rules h_a__next h_a__text h_a__made h_a__lines h_a__opened h_a__top h_a__x h_a__undone) (cwV 2 hT (hz_gV q_1136 q_1137 q_1138 q_701 q_1139) rfl rfl rfl (by decide +kernel) ⟨(Nat.le_of_ble_eq_true rfl), (Nat.le_of_ble_eq_true rfl)⟩) ⟨hz_P.blind, va_recv hK hP (ci := 12) (q0 := 1) rfl rfl, hz_P.mk (hP.sub (ws' := [(a, .inr (12, [.ref a_tape, .int a__taped, .int a__rules, .ref a_sign, .ref a_length, .ref a_clause, .ref a_clauses, .ref a_read, .int a__next, .int a__wrong, .int a__number, .int a__text, .int a__made, .int a__deep, .int a__lines, .ref a_open, .int a__opened, .ref a_stack, .int a__top, .ref a_word, .ref a_said, .int a__x, .ref a_worth, .ref a_mate, .ref a_wasSaid, .int a__undone, .int a__boughtNow, .ref a_wayBy, .ref a_wayThen, .int a__walkMost, .int a__walkGoing, .int a__walkSet, .ref a_kept, .long a__drawX, .ref a_images, .ref a_imageX, .ref a_isMade])), (a_said, .inl (cs 0, 123, .inl a_said_c))]) [1,0] rfl) hE hS⟩ rfl rfl hl.1 rfl (lv_room (Nat.le_of_ble_eq_true rfl)) dX12_criedFor_100 ⟨(Nat.le_of_ble_eq_true rfl), (Nat.le_of_ble_eq_true rfl)⟩) hS (fun _ _ h => h.elim) (fun _ h => h.elim) (fun r38 u t H1 locs ht hvm hw hB hz1 hk1 hS => ?_)
                have hP := hz_keep hP hk1
                clear hk1 hB hz1
                generalize H1 = H at hP hS ⊢
                rcases hw with rfl | rfl | rfl
                · refine lv_iconst (v := 2) hx hb dX12_criedFor_103 (by decide) ?_
                  refine lv_icmp_ne (tgt := 111) hx hb dX12_criedFor_104 (by decide) (fun _ => ?_) (fun z => absurd z (by decide))
                  refine lv_iconst (v := 0) hx hb dX12_criedFor_111 (by decide) ?_
                  refine lv_istore (lv' := [(6, .int 0), (7, .int k68_L_7), (5, .int k51_L_5), (4, .int k51_L_4), (3, .int k51_L_3), (0, .ref a), (1, .int p0), (2, .int p1)]) hx hb dX12_criedFor_112 hl (by decide) rfl (fun ls hl => ?_)
                  obtain ⟨v39, ev39⟩ : ∃ z : Int32, z = k68_L_7 + 1 := ⟨_, rfl⟩
                  have hv39 : IV 1 12 v39 := iv_add ev39 h24 (iv_c (a := 1) (b := 1) (by decide)) (by decide) (by decide)
                  have dv39 : v39.toInt = k68_L_7.toInt + 1 := iv_addE ev39 h24 (iv_c (a := 1) (b := 1) (by decide)) (by decide) (by decide) (by decide)
                  refine lv_iinc (v := v39) (lv' := [(7, .int v39), (6, .int 0), (5, .int k51_L_5), (4, .int k51_L_4), (3, .int k51_L_3), (0, .ref a), (1, .int p0), (2, .int p1)]) hx hb dX12_criedFor_114 hl (k := 1) rfl (by rw [ev39]; rfl) (by decide) rfl (fun ls hl => ?_)
                  refine lv_goto (tgt := 68) hx hb dX12_criedFor_117 (by decide) ?_
                  exact ih68 v39 ((0 : Int32)) (by have h9 := h24; unfold IV at h9; have := dv39; omega) q68_10 q68_11 (iv_c (by decide)) (iv_w hv39 (by decide) (by decide)) H locs (hP.sub (ws' := [(a_said, .inl (cs 0, 123, .inl a_said_c)), (a, .inr (12, [.ref a_tape, .int a__taped, .int a__rules, .ref a_sign, .ref a_length, .ref a_clause, .ref a_clauses, .ref a_read, .int a__next, .int a__wrong, .int a__number, .int a__text, .int a__made, .int a__deep, .int a__lines, .ref a_open, .int a__opened, .ref a_stack, .int a__top, .ref a_word, .ref a_said, .int a__x, .ref a_worth, .ref a_mate, .ref a_wasSaid, .int a__undone, .int a__boughtNow, .ref a_wayBy, .ref a_wayThen, .int a__walkMost, .int a__walkGoing, .int a__walkSet, .ref a_kept, .long a__drawX, .ref a_images, .ref a_imageX, .ref a_isMade]))]) [0, 1] rfl) hS ls (lv_sub hl [0, 1, 2, 3, 4, 5, 6, 7] rfl)
                · refine lv_iconst (v := 2) hx hb dX12_criedFor_103 (by decide) ?_
                  refine lv_icmp_ne (tgt := 111) hx hb dX12_criedFor_104 (by decide) (fun _ => ?_) (fun z => absurd z (by decide))
                  refine lv_iconst (v := 0) hx hb dX12_criedFor_111 (by decide) ?_
                  refine lv_istore (lv' := [(6, .int 0), (7, .int k68_L_7), (5, .int k51_L_5), (4, .int k51_L_4), (3, .int k51_L_3), (0, .ref a), (1, .int p0), (2, .int p1)]) hx hb dX12_criedFor_112 hl (by decide) rfl (fun ls hl => ?_)
                  obtain ⟨v40, ev40⟩ : ∃ z : Int32, z = k68_L_7 + 1 := ⟨_, rfl⟩
                  have hv40 : IV 1 12 v40 := iv_add ev40 h24 (iv_c (a := 1) (b := 1) (by decide)) (by decide) (by decide)
                  have dv40 : v40.toInt = k68_L_7.toInt + 1 := iv_addE ev40 h24 (iv_c (a := 1) (b := 1) (by decide)) (by decide) (by decide) (by decide)
                  refine lv_iinc (v := v40) (lv' := [(7, .int v40), (6, .int 0), (5, .int k51_L_5), (4, .int k51_L_4), (3, .int k51_L_3), (0, .ref a), (1, .int p0), (2, .int p1)]) hx hb dX12_criedFor_114 hl (k := 1) rfl (by rw [ev40]; rfl) (by decide) rfl (fun ls hl => ?_)
                  refine lv_goto (tgt := 68) hx hb dX12_criedFor_117 (by decide) ?_
                  exact ih68 v40 ((0 : Int32)) (by have h9 := h24; unfold IV at h9; have := dv40; omega) q68_10 q68_11 (iv_c (by decide)) (iv_w hv40 (by decide) (by decide)) H locs (hP.sub (ws' := [(a_said, .inl (cs 0, 123, .inl a_said_c)), (a, .inr (12, [.ref a_tape, .int a__taped, .int a__rules, .ref a_sign, .ref a_length, .ref a_clause, .ref a_clauses, .ref a_read, .int a__next, .int a__wrong, .int a__number, .int a__text, .int a__made, .int a__deep, .int a__lines, .ref a_open, .int a__opened, .ref a_stack, .int a__top, .ref a_word, .ref a_said, .int a__x, .ref a_worth, .ref a_mate, .ref a_wasSaid, .int a__undone, .int a__boughtNow, .ref a_wayBy, .ref a_wayThen, .int a__walkMost, .int a__walkGoing, .int a__walkSet, .ref a_kept, .long a__drawX, .ref a_images, .ref a_imageX, .ref a_isMade]))]) [0, 1] rfl) hS ls (lv_sub hl [0, 1, 2, 3, 4, 5, 6, 7] rfl)
                · refine lv_iconst (v := 2) hx hb dX12_criedFor_103 (by decide) ?_
                  refine lv_icmp_ne (tgt := 111) hx hb dX12_criedFor_104 (by decide) (fun z => absurd (by decide) z) (fun _ => ?_)
                  refine lv_iconst (v := 1) hx hb dX12_criedFor_107 (by decide) ?_
                  refine lv_goto (tgt := 112) hx hb dX12_criedFor_108 (by decide) ?_
                  refine lv_istore (lv' := [(6, .int 1), (7, .int k68_L_7), (5, .int k51_L_5), (4, .int k51_L_4), (3, .int k51_L_3), (0, .ref a), (1, .int p0), (2, .int p1)]) hx hb dX12_criedFor_112 hl (by decide) rfl (fun ls hl => ?_)
                  obtain ⟨v41, ev41⟩ : ∃ z : Int32, z = k68_L_7 + 1 := ⟨_, rfl⟩
                  have hv41 : IV 1 12 v41 := iv_add ev41 h24 (iv_c (a := 1) (b := 1) (by decide)) (by decide) (by decide)
                  have dv41 : v41.toInt = k68_L_7.toInt + 1 := iv_addE ev41 h24 (iv_c (a := 1) (b := 1) (by decide)) (by decide) (by decide) (by decide)
                  refine lv_iinc (v := v41) (lv' := [(7, .int v41), (6, .int 1), (5, .int k51_L_5), (4, .int k51_L_4), (3, .int k51_L_3), (0, .ref a), (1, .int p0), (2, .int p1)]) hx hb dX12_criedFor_114 hl (k := 1) rfl (by rw [ev41]; rfl) (by decide) rfl (fun ls hl => ?_)
                  refine lv_goto (tgt := 68) hx hb dX12_criedFor_117 (by decide) ?_
                  exact ih68 v41 ((1 : Int32)) (by have h9 := h24; unfold IV at h9; have := dv41; omega) q68_10 q68_11 (iv_c (by decide)) (iv_w hv41 (by decide) (by decide)) H locs (hP.sub (ws' := [(a_said, .inl (cs 0, 123, .inl a_said_c)), (a, .inr (12, [.ref a_tape, .int a__taped, .int a__rules, .ref a_sign, .ref a_length, .ref a_clause, .ref a_clauses, .ref a_read, .int a__next, .int a__wrong, .int a__number, .int a__text, .int a__made, .int a__deep, .int a__lines, .ref a_open, .int a__opened, .ref a_stack, .int a__top, .ref a_word, .ref a_said, .int a__x, .ref a_worth, .ref a_mate, .ref a_wasSaid, .int a__undone, .int a__boughtNow, .ref a_wayBy, .ref a_wayThen, .int a__walkMost, .int a__walkGoing, .int a__walkSet, .ref a_kept, .long a__drawX, .ref a_images, .ref a_imageX, .ref a_isMade]))]) [0, 1] rfl) hS ls (lv_sub hl [0, 1, 2, 3, 4, 5, 6, 7] rfl)
      refine lv_iload hx hb dX12_criedFor_51 (lv_at hl 0 rfl) ?_
      refine lv_aload_n hx hb dX12_criedFor_53 rfl (lv_at hl 3 rfl) ?_
      refine va_get (D := D) (ci := 12) (v := .ref a_said) (C := RX12) (T := TX12) (N := 37) hx hb hT i_X12 hown hK hP 1 rfl rfl 20 (by decide) (hT _ q_185) (fun _ h9 => h9) rfl dX12_criedFor_54 ?_
      refine lv_iconst (v := 1) hx hb dX12_criedFor_57 (by decide) ?_
      refine va_iald hx hb hK hP 0 0 rfl rfl (iv_vc (by decide)) dX12_criedFor_58 ?_
      refine lv_topi (fun v42 ev42 => ?_)
      have h43 : IV 0 12 v42 := (by rw [ev42]; exact bs_i1 hf0)
      have ii44 : 0 ≤ v42.toInt ∧ v42.toInt ≤ 12 := h43
      have lv42 : v42.toInt = (a_said_c 1).toInt := by rw [ev42]; rfl
      refine lv_icmp_ge (tgt := 152) hx hb dX12_criedFor_59 (by decide) (fun c45 => ?_) (fun c45 => ?_)
      · have t46 : k51_L_5.toInt ≥ v42.toInt := lin_ge c45 rfl rfl
        refine lv_iload hx hb dX12_criedFor_152 (lv_at hl 1 rfl) ?_
        refine lv_if_eq (tgt := 161) hx hb dX12_criedFor_154 (by decide) (fun c47 => ?_) (fun c47 => ?_)
        · have t48 : k51_L_4.toInt = 0 := lin_eq c47 rfl (by decide)
          have h49 : IV 0 0 k51_L_4 := iv_eq1 c47 q51_10 (iv_c (a := 0) (b := 0) (by decide)) (by decide) (by decide)
          have ii50 : 0 ≤ k51_L_4.toInt ∧ k51_L_4.toInt ≤ 0 := h49
          refine lv_iconst (v := (-1)) hx hb dX12_criedFor_161 (by decide) ?_
          exact W.iret (v := (-1)) hx hb hr (fun t ht hW => ⟨⟨(-1), (), rfl, trivial, trivial⟩, hS.F ht⟩) hS.2.2 dX12_criedFor_162
        · have t51 : k51_L_4.toInt ≠ 0 := lin_ne c47 rfl (by decide)
          have h52 : IV 1 1 k51_L_4 := iv_neL c47 q51_10 (by decide)
          have ii53 : 1 ≤ k51_L_4.toInt ∧ k51_L_4.toInt ≤ 1 := h52
          refine lv_iload_n hx hb dX12_criedFor_157 rfl (lv_at hl 2 rfl) ?_
          refine lv_goto (tgt := 162) hx hb dX12_criedFor_158 (by decide) ?_
          exact W.iret (v := k51_L_3) hx hb hr (fun t ht hW => ⟨⟨k51_L_3, (), rfl, trivial, trivial⟩, hS.F ht⟩) hS.2.2 dX12_criedFor_162
      · have t54 : k51_L_5.toInt < v42.toInt := lin_geN c45 rfl rfl
        have h55 : IV 0 11 k51_L_5 := iv_lt1 (Int32.not_le.mp c45) q51_11 h43 (by decide)
        have ii56 : 0 ≤ k51_L_5.toInt ∧ k51_L_5.toInt ≤ 11 := h55
        have h57 : IV 1 12 v42 := iv_lt2 (Int32.not_le.mp c45) q51_11 h43 (by decide)
        have ii58 : 1 ≤ v42.toInt ∧ v42.toInt ≤ 12 := h57
        refine lv_iconst (v := 0) hx hb dX12_criedFor_62 (by decide) ?_
        refine lv_istore (lv' := [(6, .int 0), (5, .int k51_L_5), (4, .int k51_L_4), (3, .int k51_L_3), (0, .ref a), (1, .int p0), (2, .int p1)]) hx hb dX12_criedFor_63 hl (by decide) rfl (fun ls hl => ?_)
        refine lv_iconst (v := 0) hx hb dX12_criedFor_65 (by decide) ?_
        refine lv_istore (lv' := [(7, .int 0), (6, .int 0), (5, .int k51_L_5), (4, .int k51_L_4), (3, .int k51_L_3), (0, .ref a), (1, .int p0), (2, .int p1)]) hx hb dX12_criedFor_66 hl (by decide) rfl (fun ls hl => ?_)
        exact K68 _ ((0 : Int32)) ((0 : Int32)) (Nat.le_refl _) q51_10 h55 (iv_c (by decide)) (iv_c (by decide)) H locs (hP.sub (ws' := [(a_said, .inl (cs 0, 123, .inl a_said_c)), (a, .inr (12, [.ref a_tape, .int a__taped, .int a__rules, .ref a_sign, .ref a_length, .ref a_clause, .ref a_clauses, .ref a_read, .int a__next, .int a__wrong, .int a__number, .int a__text, .int a__made, .int a__deep, .int a__lines, .ref a_open, .int a__opened, .ref a_stack, .int a__top, .ref a_word, .ref a_said, .int a__x, .ref a_worth, .ref a_mate, .ref a_wasSaid, .int a__undone, .int a__boughtNow, .ref a_wayBy, .ref a_wayThen, .int a__walkMost, .int a__walkGoing, .int a__walkSet, .ref a_kept, .long a__drawX, .ref a_images, .ref a_imageX, .ref a_isMade]))]) [0, 1] rfl) hS ls (lv_sub hl [0, 1, 2, 3, 4, 5, 6, 7] rfl)
  have K8 : ∀ (n : Nat) (k8_L_5 : Int32) (k8_L_4 : Int32), (12 - k8_L_5.toInt + 1).toNat ≤ n → IV 0 1 k8_L_4 → IV 0 12 k8_L_5 → ∀ (H : Heap) (locs : List Loc), va_P D classes [(a_said, .inl (cs 0, 123, .inl a_said_c)), (a, .inr (12, [.ref a_tape, .int a__taped, .int a__rules, .ref a_sign, .ref a_length, .ref a_clause, .ref a_clauses, .ref a_read, .int a__next, .int a__wrong, .int a__number, .int a__text, .int a__made, .int a__deep, .int a__lines, .ref a_open, .int a__opened, .ref a_stack, .int a__top, .ref a_word, .ref a_said, .int a__x, .ref a_worth, .ref a_mate, .ref a_wasSaid, .int a__undone, .int a__boughtNow, .ref a_wayBy, .ref a_wayThen, .int a__walkMost, .int a__walkGoing, .int a__walkSet, .ref a_kept, .long a__drawX, .ref a_images, .ref a_imageX, .ref a_isMade]))] H → va_S (fun _ => False) s.heap H locs → ∀ ls : Array Slot, lv_has ls 8 [(5, .int k8_L_5), (4, .int k8_L_4), (3, .int 0), (0, .ref a), (1, .int p0), (2, .int p1)] → W p l e (headSpec (hz_w yX12_criedFor cX12_criedFor 8 (some .int)) ({ frames := 3, cells := 0, slots := 0, locals := 68 })).room s m [.ref a, .int p0, .int p1].toArray below meth c H locs 0 0 (MQ below (va_Qi (fun (r : Int32) (_ : Unit) => True) (fun _ t => True) (fun _ => False)) [.ref a, .int p0, .int p1].toArray s 0 0 (fun _ => False)) (F0 m 8 ls []) := by
    intro n
    induction n with
    | zero =>
      intro k8_L_5 k8_L_4 hn q8_10 q8_11 H locs hP hS ls hl
      exact absurd hn (by unfold IV at q8_11; omega)
    | succ n ih8 =>
      intro k8_L_5 k8_L_4 hn q8_10 q8_11 H locs hP hS ls hl
      have i_a__lines : 0 ≤ a__lines.toInt ∧ a__lines.toInt ≤ 40 := h_a__lines
      have i_a__made : 0 ≤ a__made.toInt ∧ a__made.toInt ≤ 60 := h_a__made
      have i_a__next : 0 ≤ a__next.toInt ∧ a__next.toInt ≤ 400 := h_a__next
      have i_a__opened : 0 ≤ a__opened.toInt ∧ a__opened.toInt ≤ 400 := h_a__opened
      have i_a__rules : 0 ≤ a__rules.toInt ∧ a__rules.toInt ≤ 6 := h_a__rules
      have i_a__taped : 0 ≤ a__taped.toInt ∧ a__taped.toInt ≤ 400 := h_a__taped
      have i_a__text : 0 ≤ a__text.toInt ∧ a__text.toInt ≤ 6 := h_a__text
      have i_a__top : 0 ≤ a__top.toInt ∧ a__top.toInt ≤ 64 := h_a__top
      have i_a__undone : 0 ≤ a__undone.toInt ∧ a__undone.toInt ≤ 20 := h_a__undone
      have i_a__x : 0 ≤ a__x.toInt ∧ a__x.toInt ≤ 2147483647 := h_a__x
      have i_k8_L_4 : 0 ≤ k8_L_4.toInt ∧ k8_L_4.toInt ≤ 1 := q8_10
      have i_k8_L_5 : 0 ≤ k8_L_5.toInt ∧ k8_L_5.toInt ≤ 12 := q8_11
      have i_p0 : 0 ≤ p0.toInt ∧ p0.toInt ≤ 3 := h_p0
      refine lv_iload hx hb dX12_criedFor_8 (lv_at hl 0 rfl) ?_
      refine lv_aload_n hx hb dX12_criedFor_10 rfl (lv_at hl 3 rfl) ?_
      refine va_get (D := D) (ci := 12) (v := .ref a_said) (C := RX12) (T := TX12) (N := 37) hx hb hT i_X12 hown hK hP 1 rfl rfl 20 (by decide) (hT _ q_185) (fun _ h9 => h9) rfl dX12_criedFor_11 ?_
      refine lv_iconst (v := 1) hx hb dX12_criedFor_14 (by decide) ?_
      refine va_iald hx hb hK hP 0 0 rfl rfl (iv_vc (by decide)) dX12_criedFor_15 ?_
      refine lv_topi (fun v59 ev59 => ?_)
      have h60 : IV 0 12 v59 := (by rw [ev59]; exact bs_i1 hf0)
      have ii61 : 0 ≤ v59.toInt ∧ v59.toInt ≤ 12 := h60
      have lv59 : v59.toInt = (a_said_c 1).toInt := by rw [ev59]; rfl
      refine lv_icmp_ge (tgt := 48) hx hb dX12_criedFor_16 (by decide) (fun c62 => ?_) (fun c62 => ?_)
      · have t63 : k8_L_5.toInt ≥ v59.toInt := lin_ge c62 rfl rfl
        refine lv_iconst (v := 0) hx hb dX12_criedFor_48 (by decide) ?_
        refine lv_istore (lv' := [(5, .int 0), (4, .int k8_L_4), (3, .int 0), (0, .ref a), (1, .int p0), (2, .int p1)]) hx hb dX12_criedFor_49 hl (by decide) rfl (fun ls hl => ?_)
        exact K51 _ ((0 : Int32)) k8_L_4 ((0 : Int32)) (Nat.le_refl _) q8_10 (iv_c (by decide)) H locs (hP.sub (ws' := [(a_said, .inl (cs 0, 123, .inl a_said_c)), (a, .inr (12, [.ref a_tape, .int a__taped, .int a__rules, .ref a_sign, .ref a_length, .ref a_clause, .ref a_clauses, .ref a_read, .int a__next, .int a__wrong, .int a__number, .int a__text, .int a__made, .int a__deep, .int a__lines, .ref a_open, .int a__opened, .ref a_stack, .int a__top, .ref a_word, .ref a_said, .int a__x, .ref a_worth, .ref a_mate, .ref a_wasSaid, .int a__undone, .int a__boughtNow, .ref a_wayBy, .ref a_wayThen, .int a__walkMost, .int a__walkGoing, .int a__walkSet, .ref a_kept, .long a__drawX, .ref a_images, .ref a_imageX, .ref a_isMade]))]) [0, 1] rfl) hS ls (lv_sub hl [0, 1, 2, 3, 4, 5] rfl)
      · have t64 : k8_L_5.toInt < v59.toInt := lin_geN c62 rfl rfl
        have h65 : IV 0 11 k8_L_5 := iv_lt1 (Int32.not_le.mp c62) q8_11 h60 (by decide)
        have ii66 : 0 ≤ k8_L_5.toInt ∧ k8_L_5.toInt ≤ 11 := h65
        have h67 : IV 1 12 v59 := iv_lt2 (Int32.not_le.mp c62) q8_11 h60 (by decide)
        have ii68 : 1 ≤ v59.toInt ∧ v59.toInt ≤ 12 := h67
        refine lv_iload hx hb dX12_criedFor_19 (lv_at hl 1 rfl) ?_
        refine lv_if_ne (tgt := 35) hx hb dX12_criedFor_21 (by decide) (fun c69 => ?_) (fun c69 => ?_)
        · have t70 : k8_L_4.toInt ≠ 0 := lin_ne c69 rfl (by decide)
          have h71 : IV 1 1 k8_L_4 := iv_neL c69 q8_10 (by decide)
          have ii72 : 1 ≤ k8_L_4.toInt ∧ k8_L_4.toInt ≤ 1 := h71
          refine lv_iconst (v := 1) hx hb dX12_criedFor_35 (by decide) ?_
          refine lv_goto (tgt := 40) hx hb dX12_criedFor_36 (by decide) ?_
          refine lv_istore (lv' := [(4, .int 1), (5, .int k8_L_5), (3, .int 0), (0, .ref a), (1, .int p0), (2, .int p1)]) hx hb dX12_criedFor_40 hl (by decide) rfl (fun ls hl => ?_)
          obtain ⟨v73, ev73⟩ : ∃ z : Int32, z = k8_L_5 + 1 := ⟨_, rfl⟩
          have hv73 : IV 1 12 v73 := iv_add ev73 h65 (iv_c (a := 1) (b := 1) (by decide)) (by decide) (by decide)
          have dv73 : v73.toInt = k8_L_5.toInt + 1 := iv_addE ev73 h65 (iv_c (a := 1) (b := 1) (by decide)) (by decide) (by decide) (by decide)
          refine lv_iinc (v := v73) (lv' := [(5, .int v73), (4, .int 1), (3, .int 0), (0, .ref a), (1, .int p0), (2, .int p1)]) hx hb dX12_criedFor_42 hl (k := 1) rfl (by rw [ev73]; rfl) (by decide) rfl (fun ls hl => ?_)
          refine lv_goto (tgt := 8) hx hb dX12_criedFor_45 (by decide) ?_
          exact ih8 v73 ((1 : Int32)) (by have h9 := h65; unfold IV at h9; have := dv73; omega) (iv_c (by decide)) (iv_w hv73 (by decide) (by decide)) H locs (hP.sub (ws' := [(a_said, .inl (cs 0, 123, .inl a_said_c)), (a, .inr (12, [.ref a_tape, .int a__taped, .int a__rules, .ref a_sign, .ref a_length, .ref a_clause, .ref a_clauses, .ref a_read, .int a__next, .int a__wrong, .int a__number, .int a__text, .int a__made, .int a__deep, .int a__lines, .ref a_open, .int a__opened, .ref a_stack, .int a__top, .ref a_word, .ref a_said, .int a__x, .ref a_worth, .ref a_mate, .ref a_wasSaid, .int a__undone, .int a__boughtNow, .ref a_wayBy, .ref a_wayThen, .int a__walkMost, .int a__walkGoing, .int a__walkSet, .ref a_kept, .long a__drawX, .ref a_images, .ref a_imageX, .ref a_isMade]))]) [0, 1] rfl) hS ls (lv_sub hl [0, 1, 2, 3, 4, 5] rfl)
        · have t74 : k8_L_4.toInt = 0 := lin_eqN c69 rfl (by decide)
          have h75 : IV 0 0 k8_L_4 := iv_eq1 c69 q8_10 (iv_c (a := 0) (b := 0) (by decide)) (by decide) (by decide)
          have ii76 : 0 ≤ k8_L_4.toInt ∧ k8_L_4.toInt ≤ 0 := h75
          refine lv_aload_n hx hb dX12_criedFor_24 rfl (lv_at hl 3 rfl) ?_
          refine lv_iload_n hx hb dX12_criedFor_25 rfl (lv_at hl 4 rfl) ?_
          refine lv_iload hx hb dX12_criedFor_26 (lv_at hl 0 rfl) ?_
          refine lv_iload_n hx hb dX12_criedFor_28 rfl (lv_at hl 5 rfl) ?_
          refine va_calli (va_runV (As := [.int p0, .int k8_L_5, .int p1]) (rest := []) ⟨hx, hb, hml, hown, hT⟩ (c_X12_isOwnShape l D cs kK kV a p0 k8_L_5 p1 a_said a_said_c a_tape a__taped a__rules a_sign a_length a_clause a_clauses a_read a__next a__wrong a__number a__text a__made a__deep a__lines a_open a__opened a_stack a__top a_word a__x a_worth a_mate a_wasSaid a__undone a__boughtNow a_wayBy a_wayThen a__walkMost a__walkGoing a__walkSet a_kept a__drawX a_images a_imageX a_isMade h_p0 h65 h_a__taped h_a__rules h_a__next h_a__text h_a__made h_a__lines h_a__opened h_a__top h_a__x h_a__undone hf0) (cwV 3 hT (hz_gV q_1273 q_1274 q_1275 q_701 q_1276) rfl rfl rfl (by decide +kernel) ⟨(Nat.le_of_ble_eq_true rfl), (Nat.le_of_ble_eq_true rfl)⟩) ⟨hz_P.blind, va_recv hK hP (ci := 12) (q0 := 1) rfl rfl, hz_P.mk (hP.sub (ws' := [(a_said, .inl (cs 0, 123, .inl a_said_c)), (a, .inr (12, [.ref a_tape, .int a__taped, .int a__rules, .ref a_sign, .ref a_length, .ref a_clause, .ref a_clauses, .ref a_read, .int a__next, .int a__wrong, .int a__number, .int a__text, .int a__made, .int a__deep, .int a__lines, .ref a_open, .int a__opened, .ref a_stack, .int a__top, .ref a_word, .ref a_said, .int a__x, .ref a_worth, .ref a_mate, .ref a_wasSaid, .int a__undone, .int a__boughtNow, .ref a_wayBy, .ref a_wayThen, .int a__walkMost, .int a__walkGoing, .int a__walkSet, .ref a_kept, .long a__drawX, .ref a_images, .ref a_imageX, .ref a_isMade]))]) [0,1] rfl) hE hS⟩ rfl rfl hl.1 rfl (lv_room (Nat.le_of_ble_eq_true rfl)) dX12_criedFor_29 ⟨(Nat.le_of_ble_eq_true rfl), (Nat.le_of_ble_eq_true rfl)⟩) hS (fun _ _ h => h.elim) (fun _ h => h.elim) (fun r77 u t H1 locs ht hvm hw hB hz1 hk1 hS => ?_)
          have hP := hz_keep hP hk1
          clear hk1 hB hz1
          generalize H1 = H at hP hS ⊢
          rcases hw with rfl | rfl
          · refine lv_if_eq (tgt := 39) hx hb dX12_criedFor_32 (by decide) (fun _ => ?_) (fun z => absurd (by decide) z)
            refine lv_iconst (v := 0) hx hb dX12_criedFor_39 (by decide) ?_
            refine lv_istore (lv' := [(4, .int 0), (5, .int k8_L_5), (3, .int 0), (0, .ref a), (1, .int p0), (2, .int p1)]) hx hb dX12_criedFor_40 hl (by decide) rfl (fun ls hl => ?_)
            obtain ⟨v78, ev78⟩ : ∃ z : Int32, z = k8_L_5 + 1 := ⟨_, rfl⟩
            have hv78 : IV 1 12 v78 := iv_add ev78 h65 (iv_c (a := 1) (b := 1) (by decide)) (by decide) (by decide)
            have dv78 : v78.toInt = k8_L_5.toInt + 1 := iv_addE ev78 h65 (iv_c (a := 1) (b := 1) (by decide)) (by decide) (by decide) (by decide)
            refine lv_iinc (v := v78) (lv' := [(5, .int v78), (4, .int 0), (3, .int 0), (0, .ref a), (1, .int p0), (2, .int p1)]) hx hb dX12_criedFor_42 hl (k := 1) rfl (by rw [ev78]; rfl) (by decide) rfl (fun ls hl => ?_)
            refine lv_goto (tgt := 8) hx hb dX12_criedFor_45 (by decide) ?_
            exact ih8 v78 ((0 : Int32)) (by have h9 := h65; unfold IV at h9; have := dv78; omega) (iv_c (by decide)) (iv_w hv78 (by decide) (by decide)) H locs (hP.sub (ws' := [(a_said, .inl (cs 0, 123, .inl a_said_c)), (a, .inr (12, [.ref a_tape, .int a__taped, .int a__rules, .ref a_sign, .ref a_length, .ref a_clause, .ref a_clauses, .ref a_read, .int a__next, .int a__wrong, .int a__number, .int a__text, .int a__made, .int a__deep, .int a__lines, .ref a_open, .int a__opened, .ref a_stack, .int a__top, .ref a_word, .ref a_said, .int a__x, .ref a_worth, .ref a_mate, .ref a_wasSaid, .int a__undone, .int a__boughtNow, .ref a_wayBy, .ref a_wayThen, .int a__walkMost, .int a__walkGoing, .int a__walkSet, .ref a_kept, .long a__drawX, .ref a_images, .ref a_imageX, .ref a_isMade]))]) [0, 1] rfl) hS ls (lv_sub hl [0, 1, 2, 3, 4, 5] rfl)
          · refine lv_if_eq (tgt := 39) hx hb dX12_criedFor_32 (by decide) (fun z => absurd z (by decide)) (fun _ => ?_)
            refine lv_iconst (v := 1) hx hb dX12_criedFor_35 (by decide) ?_
            refine lv_goto (tgt := 40) hx hb dX12_criedFor_36 (by decide) ?_
            refine lv_istore (lv' := [(4, .int 1), (5, .int k8_L_5), (3, .int 0), (0, .ref a), (1, .int p0), (2, .int p1)]) hx hb dX12_criedFor_40 hl (by decide) rfl (fun ls hl => ?_)
            obtain ⟨v79, ev79⟩ : ∃ z : Int32, z = k8_L_5 + 1 := ⟨_, rfl⟩
            have hv79 : IV 1 12 v79 := iv_add ev79 h65 (iv_c (a := 1) (b := 1) (by decide)) (by decide) (by decide)
            have dv79 : v79.toInt = k8_L_5.toInt + 1 := iv_addE ev79 h65 (iv_c (a := 1) (b := 1) (by decide)) (by decide) (by decide) (by decide)
            refine lv_iinc (v := v79) (lv' := [(5, .int v79), (4, .int 1), (3, .int 0), (0, .ref a), (1, .int p0), (2, .int p1)]) hx hb dX12_criedFor_42 hl (k := 1) rfl (by rw [ev79]; rfl) (by decide) rfl (fun ls hl => ?_)
            refine lv_goto (tgt := 8) hx hb dX12_criedFor_45 (by decide) ?_
            exact ih8 v79 ((1 : Int32)) (by have h9 := h65; unfold IV at h9; have := dv79; omega) (iv_c (by decide)) (iv_w hv79 (by decide) (by decide)) H locs (hP.sub (ws' := [(a_said, .inl (cs 0, 123, .inl a_said_c)), (a, .inr (12, [.ref a_tape, .int a__taped, .int a__rules, .ref a_sign, .ref a_length, .ref a_clause, .ref a_clauses, .ref a_read, .int a__next, .int a__wrong, .int a__number, .int a__text, .int a__made, .int a__deep, .int a__lines, .ref a_open, .int a__opened, .ref a_stack, .int a__top, .ref a_word, .ref a_said, .int a__x, .ref a_worth, .ref a_mate, .ref a_wasSaid, .int a__undone, .int a__boughtNow, .ref a_wayBy, .ref a_wayThen, .int a__walkMost, .int a__walkGoing, .int a__walkSet, .ref a_kept, .long a__drawX, .ref a_images, .ref a_imageX, .ref a_isMade]))]) [0, 1] rfl) hS ls (lv_sub hl [0, 1, 2, 3, 4, 5] rfl)
  refine lv_iconst (v := 0) hx hb dX12_criedFor_0 (by decide) ?_
  refine lv_istore_n (lv' := [(3, .int 0), (0, .ref a), (1, .int p0), (2, .int p1)]) hx hb dX12_criedFor_1 rfl hl (by decide) rfl (fun ls hl => ?_)
  refine lv_iconst (v := 0) hx hb dX12_criedFor_2 (by decide) ?_
  refine lv_istore (lv' := [(4, .int 0), (3, .int 0), (0, .ref a), (1, .int p0), (2, .int p1)]) hx hb dX12_criedFor_3 hl (by decide) rfl (fun ls hl => ?_)
  refine lv_iconst (v := 0) hx hb dX12_criedFor_5 (by decide) ?_
  refine lv_istore (lv' := [(5, .int 0), (4, .int 0), (3, .int 0), (0, .ref a), (1, .int p0), (2, .int p1)]) hx hb dX12_criedFor_6 hl (by decide) rfl (fun ls hl => ?_)
  exact K8 _ ((0 : Int32)) ((0 : Int32)) (Nat.le_refl _) (iv_c (by decide)) (iv_c (by decide)) H locs (hP.sub (ws' := [(a_said, .inl (cs 0, 123, .inl a_said_c)), (a, .inr (12, [.ref a_tape, .int a__taped, .int a__rules, .ref a_sign, .ref a_length, .ref a_clause, .ref a_clauses, .ref a_read, .int a__next, .int a__wrong, .int a__number, .int a__text, .int a__made, .int a__deep, .int a__lines, .ref a_open, .int a__opened, .ref a_stack, .int a__top, .ref a_word, .ref a_said, .int a__x, .ref a_worth, .ref a_mate, .ref a_wasSaid, .int a__undone, .int a__boughtNow, .ref a_wayBy, .ref a_wayThen, .int a__walkMost, .int a__walkGoing, .int a__walkSet, .ref a_kept, .long a__drawX, .ref a_images, .ref a_imageX, .ref a_isMade]))]) [0, 1] rfl) hS ls (lv_sub hl [0, 1, 2, 3, 4, 5] rfl)
theorem dX12_cry_0 : decode cX12_cry 0 = .ok (.aload_n 0, 1) := by decide +kernel
theorem dX12_cry_1 : decode cX12_cry 1 = .ok (.iload_n 1, 1) := by decide +kernel
theorem dX12_cry_2 : decode cX12_cry 2 = .ok (.invokevirtual 343, 3) := by decide +kernel
theorem dX12_cry_5 : decode cX12_cry 5 = .ok (.ifCond .eq 13, 3) := by decide +kernel
theorem dX12_cry_8 : decode cX12_cry 8 = .ok (.iload_n 2, 1) := by decide +kernel
theorem dX12_cry_9 : decode cX12_cry 9 = .ok (.i2l, 1) := by decide +kernel
theorem dX12_cry_10 : decode cX12_cry 10 = .ok (.lconst 0, 1) := by decide +kernel
theorem dX12_cry_11 : decode cX12_cry 11 = .ok (.lconst 1, 1) := by decide +kernel
theorem dX12_cry_12 : decode cX12_cry 12 = .ok (.invokestatic 109, 3) := by decide +kernel
theorem dX12_cry_15 : decode cX12_cry 15 = .ok (.ifCond .ne 5, 3) := by decide +kernel
theorem dX12_cry_18 : decode cX12_cry 18 = .ok (.iconst (-1), 1) := by decide +kernel
theorem dX12_cry_19 : decode cX12_cry 19 = .ok (.ireturn, 1) := by decide +kernel
theorem dX12_cry_20 : decode cX12_cry 20 = .ok (.bipush (-2), 2) := by decide +kernel
theorem dX12_cry_22 : decode cX12_cry 22 = .ok (.istore_n 3, 1) := by decide +kernel
theorem dX12_cry_23 : decode cX12_cry 23 = .ok (.iconst (-1), 1) := by decide +kernel
theorem dX12_cry_24 : decode cX12_cry 24 = .ok (.istore 4, 2) := by decide +kernel
theorem dX12_cry_26 : decode cX12_cry 26 = .ok (.iconst 0, 1) := by decide +kernel
theorem dX12_cry_27 : decode cX12_cry 27 = .ok (.istore 5, 2) := by decide +kernel
theorem dX12_cry_29 : decode cX12_cry 29 = .ok (.iload 5, 2) := by decide +kernel
theorem dX12_cry_31 : decode cX12_cry 31 = .ok (.bipush 100, 2) := by decide +kernel
theorem dX12_cry_33 : decode cX12_cry 33 = .ok (.if_icmp .ge 35, 3) := by decide +kernel
theorem dX12_cry_36 : decode cX12_cry 36 = .ok (.aload_n 0, 1) := by decide +kernel
theorem dX12_cry_37 : decode cX12_cry 37 = .ok (.iload_n 1, 1) := by decide +kernel
theorem dX12_cry_38 : decode cX12_cry 38 = .ok (.iload 5, 2) := by decide +kernel
theorem dX12_cry_40 : decode cX12_cry 40 = .ok (.invokevirtual 460, 3) := by decide +kernel
theorem dX12_cry_43 : decode cX12_cry 43 = .ok (.istore 6, 2) := by decide +kernel
theorem dX12_cry_45 : decode cX12_cry 45 = .ok (.iload 6, 2) := by decide +kernel
theorem dX12_cry_47 : decode cX12_cry 47 = .ok (.iload 4, 2) := by decide +kernel
theorem dX12_cry_49 : decode cX12_cry 49 = .ok (.if_icmp .gt 6, 3) := by decide +kernel
theorem dX12_cry_52 : decode cX12_cry 52 = .ok (.goto 10, 3) := by decide +kernel
theorem dX12_cry_55 : decode cX12_cry 55 = .ok (.iload 5, 2) := by decide +kernel
theorem dX12_cry_57 : decode cX12_cry 57 = .ok (.istore_n 3, 1) := by decide +kernel
theorem dX12_cry_58 : decode cX12_cry 58 = .ok (.iload 6, 2) := by decide +kernel
theorem dX12_cry_60 : decode cX12_cry 60 = .ok (.istore 4, 2) := by decide +kernel
theorem dX12_cry_62 : decode cX12_cry 62 = .ok (.iinc 5 1, 3) := by decide +kernel
theorem dX12_cry_65 : decode cX12_cry 65 = .ok (.goto (-36), 3) := by decide +kernel
theorem dX12_cry_68 : decode cX12_cry 68 = .ok (.iload_n 2, 1) := by decide +kernel
theorem dX12_cry_69 : decode cX12_cry 69 = .ok (.ifCond .ne 7, 3) := by decide +kernel
theorem dX12_cry_72 : decode cX12_cry 72 = .ok (.iload_n 3, 1) := by decide +kernel
theorem dX12_cry_73 : decode cX12_cry 73 = .ok (.goto 14, 3) := by decide +kernel
theorem dX12_cry_76 : decode cX12_cry 76 = .ok (.iload 4, 2) := by decide +kernel
theorem dX12_cry_78 : decode cX12_cry 78 = .ok (.ifCond .ge 7, 3) := by decide +kernel
theorem dX12_cry_81 : decode cX12_cry 81 = .ok (.iconst 0, 1) := by decide +kernel
theorem dX12_cry_82 : decode cX12_cry 82 = .ok (.goto 5, 3) := by decide +kernel
theorem dX12_cry_85 : decode cX12_cry 85 = .ok (.iload 4, 2) := by decide +kernel
theorem dX12_cry_87 : decode cX12_cry 87 = .ok (.ireturn, 1) := by decide +kernel
set_option maxHeartbeats 4000000 in
set_option maxRecDepth 100000 in
theorem c_X12_cry (l : Launch) (D : va_G) (cs : Nat → ClassId) (kK kV : Nat → Nat) (a : Nat) (p0 : Int32) (p1 : Int32) (a_said : Nat) (a_said_c : Nat → Int32) (a_tape : Nat) (a__taped : Int32) (a__rules : Int32) (a_sign : Nat) (a_length : Nat) (a_clause : Nat) (a_clauses : Nat) (a_read : Nat) (a__next : Int32) (a__wrong : Int32) (a__number : Int32) (a__text : Int32) (a__made : Int32) (a__deep : Int32) (a__lines : Int32) (a_open : Nat) (a__opened : Int32) (a_stack : Nat) (a__top : Int32) (a_word : Nat) (a__x : Int32) (a_worth : Nat) (a_mate : Nat) (a_wasSaid : Nat) (a__undone : Int32) (a__boughtNow : Int32) (a_wayBy : Nat) (a_wayThen : Nat) (a__walkMost : Int32) (a__walkGoing : Int32) (a__walkSet : Int32) (a_kept : Nat) (a__drawX : Int64) (a_images : Nat) (a_imageX : Nat) (a_isMade : Nat) (h_a__taped : IV 0 400 a__taped) (h_a__rules : IV 0 6 a__rules) (h_a__next : IV 0 400 a__next) (h_a__text : IV 0 6 a__text) (h_a__made : IV 0 60 a__made) (h_a__lines : IV 0 40 a__lines) (h_a__opened : IV 0 400 a__opened) (h_a__top : IV 0 64 a__top) (h_a__x : IV 0 2147483647 a__x) (h_a__undone : IV 0 20 a__undone) (hf0 : BS a_said_c 200) : Met l yX12_cry (hz_w yX12_cry cX12_cry 7 (some .int)) ({ frames := 4, cells := 0, slots := 0, locals := 95 }) (va_Pc [.ref a, .int p0, .int p1] (hz_P D cs kK kV [(a_said, .inl (cs 0, 123, .inl a_said_c)), (a, .inr (12, [.ref a_tape, .int a__taped, .int a__rules, .ref a_sign, .ref a_length, .ref a_clause, .ref a_clauses, .ref a_read, .int a__next, .int a__wrong, .int a__number, .int a__text, .int a__made, .int a__deep, .int a__lines, .ref a_open, .int a__opened, .ref a_stack, .int a__top, .ref a_word, .ref a_said, .int a__x, .ref a_worth, .ref a_mate, .ref a_wasSaid, .int a__undone, .int a__boughtNow, .ref a_wayBy, .ref a_wayThen, .int a__walkMost, .int a__walkGoing, .int a__walkSet, .ref a_kept, .long a__drawX, .ref a_images, .ref a_imageX, .ref a_isMade]))])) (va_Qi (fun (r : Int32) (_ : Unit) => (r = (-1) ∧ IV (-2147483648) 2147483647 p0) ∨ (r = 0 ∧ IV 0 3 p0 ∧ IV 1 1 p1) ∨ (IV (-2) 2147483647 r ∧ IV 0 3 p0 ∧ IV 0 1 p1)) (fun _ t => True) (fun _ => False)) 0 0 (fun _ => False) := by
  refine Met.ofW (cc := cX12_cry) (maxL := 7) (ret := (some .int)) (by decide) rfl ?_
  intro p e s m args below meth c s₁ B hml hv
  obtain ⟨rfl, hP, hE⟩ := hv
  have hx := B.exec
  have hb := B.bytes
  have hr := B.returns
  have hT : ∀ w ∈ TB, w.before _ s = true := fun w h => atoms_spec (ws := hz_w yX12_cry cX12_cry 7 (some .int)) B.pre w (List.mem_cons_of_mem _ h)
  have hown : s.vm.findClass RX12 = some m.cls := findClass_of_methodNamed B.named
  have hlocks := B.notSynchronized
  clear B
  have hS : va_S (fun _ => False) s.heap s.heap [] := va_S.rf
  have hK := hE.1
  have hl := lv_entry ([.ref a, .int p0, .int p1]) (n := 7) (Nat.le_of_ble_eq_true rfl)
  rw [lg_entry_eq]
  generalize (lg_sl ([.ref a, .int p0, .int p1]) ++ List.replicate (7 - (lg_sl ([.ref a, .int p0, .int p1])).length) Slot.unset).toArray = ls at hl ⊢
  have hl : lv_has ls 7 [(0, .ref a), (1, .int p0), (2, .int p1)] := hl
  obtain ⟨H, eH⟩ : ∃ z, z = s.heap := ⟨_, rfl⟩
  have hP : va_P D classes [(a_said, .inl (cs 0, 123, .inl a_said_c)), (a, .inr (12, [.ref a_tape, .int a__taped, .int a__rules, .ref a_sign, .ref a_length, .ref a_clause, .ref a_clauses, .ref a_read, .int a__next, .int a__wrong, .int a__number, .int a__text, .int a__made, .int a__deep, .int a__lines, .ref a_open, .int a__opened, .ref a_stack, .int a__top, .ref a_word, .ref a_said, .int a__x, .ref a_worth, .ref a_mate, .ref a_wasSaid, .int a__undone, .int a__boughtNow, .ref a_wayBy, .ref a_wayThen, .int a__walkMost, .int a__walkGoing, .int a__walkSet, .ref a_kept, .long a__drawX, .ref a_images, .ref a_imageX, .ref a_isMade]))] H := by rw [eH]; exact hP
  have hS : va_S (fun _ => False) s.heap H [] := by rw [eH]; exact hS
  rw [← eH]
  clear eH
  obtain ⟨locs, el⟩ : ∃ z : List Loc, z = [] := ⟨_, rfl⟩
  rw [← el] at hS ⊢
  clear el
  have z0 : (0 : Int32).toInt = 0 := by decide
  have z1 : (1 : Int32).toInt = 1 := by decide
  have zm1 : (-1 : Int32).toInt = -1 := by decide
  have i_a__lines : 0 ≤ a__lines.toInt ∧ a__lines.toInt ≤ 40 := h_a__lines
  have i_a__made : 0 ≤ a__made.toInt ∧ a__made.toInt ≤ 60 := h_a__made
  have i_a__next : 0 ≤ a__next.toInt ∧ a__next.toInt ≤ 400 := h_a__next
  have i_a__opened : 0 ≤ a__opened.toInt ∧ a__opened.toInt ≤ 400 := h_a__opened
  have i_a__rules : 0 ≤ a__rules.toInt ∧ a__rules.toInt ≤ 6 := h_a__rules
  have i_a__taped : 0 ≤ a__taped.toInt ∧ a__taped.toInt ≤ 400 := h_a__taped
  have i_a__text : 0 ≤ a__text.toInt ∧ a__text.toInt ≤ 6 := h_a__text
  have i_a__top : 0 ≤ a__top.toInt ∧ a__top.toInt ≤ 64 := h_a__top
  have i_a__undone : 0 ≤ a__undone.toInt ∧ a__undone.toInt ≤ 20 := h_a__undone
  have i_a__x : 0 ≤ a__x.toInt ∧ a__x.toInt ≤ 2147483647 := h_a__x
  have K29 : ∀ (n : Nat) (k29_L_5 : Int32) (k29_L_4 : Int32) (k29_L_3 : Int32), (100 - k29_L_5.toInt + 1).toNat ≤ n → IV (-2) 99 k29_L_3 → IV (-1) 2147483647 k29_L_4 → IV 0 100 k29_L_5 → IV 0 3 p0 → IV 0 1 p1 → ∀ (H : Heap) (locs : List Loc), va_P D classes [(a_said, .inl (cs 0, 123, .inl a_said_c)), (a, .inr (12, [.ref a_tape, .int a__taped, .int a__rules, .ref a_sign, .ref a_length, .ref a_clause, .ref a_clauses, .ref a_read, .int a__next, .int a__wrong, .int a__number, .int a__text, .int a__made, .int a__deep, .int a__lines, .ref a_open, .int a__opened, .ref a_stack, .int a__top, .ref a_word, .ref a_said, .int a__x, .ref a_worth, .ref a_mate, .ref a_wasSaid, .int a__undone, .int a__boughtNow, .ref a_wayBy, .ref a_wayThen, .int a__walkMost, .int a__walkGoing, .int a__walkSet, .ref a_kept, .long a__drawX, .ref a_images, .ref a_imageX, .ref a_isMade]))] H → va_S (fun _ => False) s.heap H locs → ∀ ls : Array Slot, lv_has ls 7 [(5, .int k29_L_5), (4, .int k29_L_4), (3, .int k29_L_3), (0, .ref a), (1, .int p0), (2, .int p1)] → W p l e (headSpec (hz_w yX12_cry cX12_cry 7 (some .int)) ({ frames := 4, cells := 0, slots := 0, locals := 95 })).room s m [.ref a, .int p0, .int p1].toArray below meth c H locs 0 0 (MQ below (va_Qi (fun (r : Int32) (_ : Unit) => (r = (-1) ∧ IV (-2147483648) 2147483647 p0) ∨ (r = 0 ∧ IV 0 3 p0 ∧ IV 1 1 p1) ∨ (IV (-2) 2147483647 r ∧ IV 0 3 p0 ∧ IV 0 1 p1)) (fun _ t => True) (fun _ => False)) [.ref a, .int p0, .int p1].toArray s 0 0 (fun _ => False)) (F0 m 29 ls []) := by
    intro n
    induction n with
    | zero =>
      intro k29_L_5 k29_L_4 k29_L_3 hn q29_10 q29_11 q29_12 q29_13 q29_14 H locs hP hS ls hl
      exact absurd hn (by unfold IV at q29_12; omega)
    | succ n ih29 =>
      intro k29_L_5 k29_L_4 k29_L_3 hn q29_10 q29_11 q29_12 q29_13 q29_14 H locs hP hS ls hl
      have i_a__lines : 0 ≤ a__lines.toInt ∧ a__lines.toInt ≤ 40 := h_a__lines
      have i_a__made : 0 ≤ a__made.toInt ∧ a__made.toInt ≤ 60 := h_a__made
      have i_a__next : 0 ≤ a__next.toInt ∧ a__next.toInt ≤ 400 := h_a__next
      have i_a__opened : 0 ≤ a__opened.toInt ∧ a__opened.toInt ≤ 400 := h_a__opened
      have i_a__rules : 0 ≤ a__rules.toInt ∧ a__rules.toInt ≤ 6 := h_a__rules
      have i_a__taped : 0 ≤ a__taped.toInt ∧ a__taped.toInt ≤ 400 := h_a__taped
      have i_a__text : 0 ≤ a__text.toInt ∧ a__text.toInt ≤ 6 := h_a__text
      have i_a__top : 0 ≤ a__top.toInt ∧ a__top.toInt ≤ 64 := h_a__top
      have i_a__undone : 0 ≤ a__undone.toInt ∧ a__undone.toInt ≤ 20 := h_a__undone
      have i_a__x : 0 ≤ a__x.toInt ∧ a__x.toInt ≤ 2147483647 := h_a__x
      have i_k29_L_3 : (-2) ≤ k29_L_3.toInt ∧ k29_L_3.toInt ≤ 99 := q29_10
      have i_k29_L_4 : (-1) ≤ k29_L_4.toInt ∧ k29_L_4.toInt ≤ 2147483647 := q29_11
      have i_k29_L_5 : 0 ≤ k29_L_5.toInt ∧ k29_L_5.toInt ≤ 100 := q29_12
      have i_p0 : 0 ≤ p0.toInt ∧ p0.toInt ≤ 3 := q29_13
      have i_p1 : 0 ≤ p1.toInt ∧ p1.toInt ≤ 1 := q29_14
      refine lv_iload hx hb dX12_cry_29 (lv_at hl 0 rfl) ?_
      refine lv_bipush (v := 100) hx hb dX12_cry_31 (by decide) ?_
      refine lv_icmp_ge (tgt := 68) hx hb dX12_cry_33 (by decide) (fun c1 => ?_) (fun c1 => ?_)
      · have t2 : k29_L_5.toInt ≥ 100 := lin_ge c1 rfl (by decide)
        have h3 : IV 100 100 k29_L_5 := iv_le2 c1 (iv_c (a := 100) (b := 100) (by decide)) q29_12 (by decide)
        have ii4 : 100 ≤ k29_L_5.toInt ∧ k29_L_5.toInt ≤ 100 := h3
        refine lv_iload_n hx hb dX12_cry_68 rfl (lv_at hl 5 rfl) ?_
        refine lv_if_ne (tgt := 76) hx hb dX12_cry_69 (by decide) (fun c5 => ?_) (fun c5 => ?_)
        · have t6 : p1.toInt ≠ 0 := lin_ne c5 rfl (by decide)
          have h7 : IV 1 1 p1 := iv_neL c5 q29_14 (by decide)
          have ii8 : 1 ≤ p1.toInt ∧ p1.toInt ≤ 1 := h7
          refine lv_iload hx hb dX12_cry_76 (lv_at hl 1 rfl) ?_
          refine lv_if_ge (tgt := 85) hx hb dX12_cry_78 (by decide) (fun c9 => ?_) (fun c9 => ?_)
          · have t10 : k29_L_4.toInt ≥ 0 := lin_ge c9 rfl (by decide)
            have h11 : IV 0 2147483647 k29_L_4 := iv_le2 c9 (iv_c (a := 0) (b := 0) (by decide)) q29_11 (by decide)
            have ii12 : 0 ≤ k29_L_4.toInt ∧ k29_L_4.toInt ≤ 2147483647 := h11
            refine lv_iload hx hb dX12_cry_85 (lv_at hl 1 rfl) ?_
            exact W.iret (v := k29_L_4) hx hb hr (fun t ht hW => ⟨⟨k29_L_4, (), rfl, (Or.inr (Or.inr ((⟨(iv_w h11 (by decide) (by decide)), q29_13, (iv_w h7 (by decide) (by decide))⟩)))), trivial⟩, hS.F ht⟩) hS.2.2 dX12_cry_87
          · have t13 : k29_L_4.toInt < 0 := lin_geN c9 rfl (by decide)
            have h14 : IV (-1) (-1) k29_L_4 := iv_lt1 (Int32.not_le.mp c9) q29_11 (iv_c (a := 0) (b := 0) (by decide)) (by decide)
            have ii15 : (-1) ≤ k29_L_4.toInt ∧ k29_L_4.toInt ≤ (-1) := h14
            refine lv_iconst (v := 0) hx hb dX12_cry_81 (by decide) ?_
            refine lv_goto (tgt := 87) hx hb dX12_cry_82 (by decide) ?_
            exact W.iret (v := 0) hx hb hr (fun t ht hW => ⟨⟨0, (), rfl, (Or.inr (Or.inl (⟨rfl, q29_13, h7⟩))), trivial⟩, hS.F ht⟩) hS.2.2 dX12_cry_87
        · have t16 : p1.toInt = 0 := lin_eqN c5 rfl (by decide)
          have h17 : IV 0 0 p1 := iv_eq1 c5 q29_14 (iv_c (a := 0) (b := 0) (by decide)) (by decide) (by decide)
          have ii18 : 0 ≤ p1.toInt ∧ p1.toInt ≤ 0 := h17
          refine lv_iload_n hx hb dX12_cry_72 rfl (lv_at hl 2 rfl) ?_
          refine lv_goto (tgt := 87) hx hb dX12_cry_73 (by decide) ?_
          exact W.iret (v := k29_L_3) hx hb hr (fun t ht hW => ⟨⟨k29_L_3, (), rfl, (Or.inr (Or.inr ((⟨(iv_w q29_10 (by decide) (by decide)), q29_13, (iv_w h17 (by decide) (by decide))⟩)))), trivial⟩, hS.F ht⟩) hS.2.2 dX12_cry_87
      · have t19 : k29_L_5.toInt < 100 := lin_geN c1 rfl (by decide)
        have h20 : IV 0 99 k29_L_5 := iv_lt1 (Int32.not_le.mp c1) q29_12 (iv_c (a := 100) (b := 100) (by decide)) (by decide)
        have ii21 : 0 ≤ k29_L_5.toInt ∧ k29_L_5.toInt ≤ 99 := h20
        refine lv_aload_n hx hb dX12_cry_36 rfl (lv_at hl 3 rfl) ?_
        refine lv_iload_n hx hb dX12_cry_37 rfl (lv_at hl 4 rfl) ?_
        refine lv_iload hx hb dX12_cry_38 (lv_at hl 0 rfl) ?_
        refine va_calli (va_runV (As := [.int p0, .int k29_L_5]) (rest := []) ⟨hx, hb, hml, hown, hT⟩ (c_X12_criedFor l D cs kK kV a p0 k29_L_5 a_said a_said_c a_tape a__taped a__rules a_sign a_length a_clause a_clauses a_read a__next a__wrong a__number a__text a__made a__deep a__lines a_open a__opened a_stack a__top a_word a__x a_worth a_mate a_wasSaid a__undone a__boughtNow a_wayBy a_wayThen a__walkMost a__walkGoing a__walkSet a_kept a__drawX a_images a_imageX a_isMade q29_13 h_a__taped h_a__rules h_a__next h_a__text h_a__made h_a__lines h_a__opened h_a__top h_a__x h_a__undone hf0) (cwV 2 hT (hz_gV q_1277 q_1278 q_1279 q_701 q_1280) rfl rfl rfl (by decide +kernel) ⟨(Nat.le_of_ble_eq_true rfl), (Nat.le_of_ble_eq_true rfl)⟩) ⟨hz_P.blind, va_recv hK hP (ci := 12) (q0 := 1) rfl rfl, hz_P.mk (hP.sub (ws' := [(a_said, .inl (cs 0, 123, .inl a_said_c)), (a, .inr (12, [.ref a_tape, .int a__taped, .int a__rules, .ref a_sign, .ref a_length, .ref a_clause, .ref a_clauses, .ref a_read, .int a__next, .int a__wrong, .int a__number, .int a__text, .int a__made, .int a__deep, .int a__lines, .ref a_open, .int a__opened, .ref a_stack, .int a__top, .ref a_word, .ref a_said, .int a__x, .ref a_worth, .ref a_mate, .ref a_wasSaid, .int a__undone, .int a__boughtNow, .ref a_wayBy, .ref a_wayThen, .int a__walkMost, .int a__walkGoing, .int a__walkSet, .ref a_kept, .long a__drawX, .ref a_images, .ref a_imageX, .ref a_isMade]))]) [0,1] rfl) hE hS⟩ rfl rfl hl.1 rfl (lv_room (Nat.le_of_ble_eq_true rfl)) dX12_cry_40 ⟨(Nat.le_of_ble_eq_true rfl), (Nat.le_of_ble_eq_true rfl)⟩) hS (fun _ _ h => h.elim) (fun _ h => h.elim) (fun r22 u t H1 locs ht hvm hw hB hz1 hk1 hS => ?_)
        have hP := hz_keep hP hk1
        clear hk1 hB hz1
        generalize H1 = H at hP hS ⊢
        refine lv_istore (lv' := [(6, .int r22), (5, .int k29_L_5), (4, .int k29_L_4), (3, .int k29_L_3), (0, .ref a), (1, .int p0), (2, .int p1)]) hx hb dX12_cry_43 hl (by decide) rfl (fun ls hl => ?_)
        refine lv_iload hx hb dX12_cry_45 (lv_at hl 0 rfl) ?_
        refine lv_iload hx hb dX12_cry_47 (lv_at hl 2 rfl) ?_
        refine lv_icmp_gt (tgt := 55) hx hb dX12_cry_49 (by decide) (fun c23 => ?_) (fun c23 => ?_)
        · have t24 : r22.toInt > k29_L_4.toInt := lin_gt c23 rfl rfl
          have h25 : IV (-1) 2147483646 k29_L_4 := iv_lt1 c23 q29_11 iv_top (by decide)
          have ii26 : (-1) ≤ k29_L_4.toInt ∧ k29_L_4.toInt ≤ 2147483646 := h25
          have h27 : IV 0 2147483647 r22 := iv_lt2 c23 q29_11 iv_top (by decide)
          have ii28 : 0 ≤ r22.toInt ∧ r22.toInt ≤ 2147483647 := h27
          refine lv_iload hx hb dX12_cry_55 (lv_at hl 1 rfl) ?_
          refine lv_istore_n (lv' := [(3, .int k29_L_5), (6, .int r22), (5, .int k29_L_5), (4, .int k29_L_4), (0, .ref a), (1, .int p0), (2, .int p1)]) hx hb dX12_cry_57 rfl hl (by decide) rfl (fun ls hl => ?_)
          refine lv_iload hx hb dX12_cry_58 (lv_at hl 1 rfl) ?_
          refine lv_istore (lv' := [(4, .int r22), (3, .int k29_L_5), (6, .int r22), (5, .int k29_L_5), (0, .ref a), (1, .int p0), (2, .int p1)]) hx hb dX12_cry_60 hl (by decide) rfl (fun ls hl => ?_)
          obtain ⟨v29, ev29⟩ : ∃ z : Int32, z = k29_L_5 + 1 := ⟨_, rfl⟩
          have hv29 : IV 1 100 v29 := iv_add ev29 h20 (iv_c (a := 1) (b := 1) (by decide)) (by decide) (by decide)
          have dv29 : v29.toInt = k29_L_5.toInt + 1 := iv_addE ev29 h20 (iv_c (a := 1) (b := 1) (by decide)) (by decide) (by decide) (by decide)
          refine lv_iinc (v := v29) (lv' := [(5, .int v29), (4, .int r22), (3, .int k29_L_5), (6, .int r22), (0, .ref a), (1, .int p0), (2, .int p1)]) hx hb dX12_cry_62 hl (k := 3) rfl (by rw [ev29]; rfl) (by decide) rfl (fun ls hl => ?_)
          refine lv_goto (tgt := 29) hx hb dX12_cry_65 (by decide) ?_
          exact ih29 v29 r22 k29_L_5 (by have h9 := h20; unfold IV at h9; have := dv29; omega) (iv_w h20 (by decide) (by decide)) (iv_w h27 (by decide) (by decide)) (iv_w hv29 (by decide) (by decide)) q29_13 q29_14 H locs (hP.sub (ws' := [(a_said, .inl (cs 0, 123, .inl a_said_c)), (a, .inr (12, [.ref a_tape, .int a__taped, .int a__rules, .ref a_sign, .ref a_length, .ref a_clause, .ref a_clauses, .ref a_read, .int a__next, .int a__wrong, .int a__number, .int a__text, .int a__made, .int a__deep, .int a__lines, .ref a_open, .int a__opened, .ref a_stack, .int a__top, .ref a_word, .ref a_said, .int a__x, .ref a_worth, .ref a_mate, .ref a_wasSaid, .int a__undone, .int a__boughtNow, .ref a_wayBy, .ref a_wayThen, .int a__walkMost, .int a__walkGoing, .int a__walkSet, .ref a_kept, .long a__drawX, .ref a_images, .ref a_imageX, .ref a_isMade]))]) [0, 1] rfl) hS ls (lv_sub hl [0, 1, 2, 4, 5, 6] rfl)
        · have t30 : r22.toInt ≤ k29_L_4.toInt := lin_gtN c23 rfl rfl
          refine lv_goto (tgt := 62) hx hb dX12_cry_52 (by decide) ?_
          obtain ⟨v31, ev31⟩ : ∃ z : Int32, z = k29_L_5 + 1 := ⟨_, rfl⟩
          have hv31 : IV 1 100 v31 := iv_add ev31 h20 (iv_c (a := 1) (b := 1) (by decide)) (by decide) (by decide)
          have dv31 : v31.toInt = k29_L_5.toInt + 1 := iv_addE ev31 h20 (iv_c (a := 1) (b := 1) (by decide)) (by decide) (by decide) (by decide)
          refine lv_iinc (v := v31) (lv' := [(5, .int v31), (6, .int r22), (4, .int k29_L_4), (3, .int k29_L_3), (0, .ref a), (1, .int p0), (2, .int p1)]) hx hb dX12_cry_62 hl (k := 1) rfl (by rw [ev31]; rfl) (by decide) rfl (fun ls hl => ?_)
          refine lv_goto (tgt := 29) hx hb dX12_cry_65 (by decide) ?_
          exact ih29 v31 k29_L_4 k29_L_3 (by have h9 := h20; unfold IV at h9; have := dv31; omega) q29_10 q29_11 (iv_w hv31 (by decide) (by decide)) q29_13 q29_14 H locs (hP.sub (ws' := [(a_said, .inl (cs 0, 123, .inl a_said_c)), (a, .inr (12, [.ref a_tape, .int a__taped, .int a__rules, .ref a_sign, .ref a_length, .ref a_clause, .ref a_clauses, .ref a_read, .int a__next, .int a__wrong, .int a__number, .int a__text, .int a__made, .int a__deep, .int a__lines, .ref a_open, .int a__opened, .ref a_stack, .int a__top, .ref a_word, .ref a_said, .int a__x, .ref a_worth, .ref a_mate, .ref a_wasSaid, .int a__undone, .int a__boughtNow, .ref a_wayBy, .ref a_wayThen, .int a__walkMost, .int a__walkGoing, .int a__walkSet, .ref a_kept, .long a__drawX, .ref a_images, .ref a_imageX, .ref a_isMade]))]) [0, 1] rfl) hS ls (lv_sub hl [0, 2, 3, 4, 5, 6] rfl)
  refine lv_aload_n hx hb dX12_cry_0 rfl (lv_at hl 0 rfl) ?_
  refine lv_iload_n hx hb dX12_cry_1 rfl (lv_at hl 1 rfl) ?_
  refine va_calli (va_runV (As := [.int p0]) (rest := []) ⟨hx, hb, hml, hown, hT⟩ (c_X12_isBuyer l D cs kK kV a p0 a_said a_said_c a_tape a__taped a__rules a_sign a_length a_clause a_clauses a_read a__next a__wrong a__number a__text a__made a__deep a__lines a_open a__opened a_stack a__top a_word a__x a_worth a_mate a_wasSaid a__undone a__boughtNow a_wayBy a_wayThen a__walkMost a__walkGoing a__walkSet a_kept a__drawX a_images a_imageX a_isMade h_a__taped h_a__rules h_a__next h_a__text h_a__made h_a__lines h_a__opened h_a__top h_a__x h_a__undone hf0) (cwV 1 hT (hz_gV q_1156 q_1157 q_1158 q_701 q_1159) rfl rfl rfl (by decide +kernel) ⟨(Nat.le_of_ble_eq_true rfl), (Nat.le_of_ble_eq_true rfl)⟩) ⟨hz_P.blind, va_recv hK hP (ci := 12) (q0 := 1) rfl rfl, hz_P.mk (hP.sub (ws' := [(a_said, .inl (cs 0, 123, .inl a_said_c)), (a, .inr (12, [.ref a_tape, .int a__taped, .int a__rules, .ref a_sign, .ref a_length, .ref a_clause, .ref a_clauses, .ref a_read, .int a__next, .int a__wrong, .int a__number, .int a__text, .int a__made, .int a__deep, .int a__lines, .ref a_open, .int a__opened, .ref a_stack, .int a__top, .ref a_word, .ref a_said, .int a__x, .ref a_worth, .ref a_mate, .ref a_wasSaid, .int a__undone, .int a__boughtNow, .ref a_wayBy, .ref a_wayThen, .int a__walkMost, .int a__walkGoing, .int a__walkSet, .ref a_kept, .long a__drawX, .ref a_images, .ref a_imageX, .ref a_isMade]))]) [0,1] rfl) hE hS⟩ rfl rfl hl.1 rfl (lv_room (Nat.le_of_ble_eq_true rfl)) dX12_cry_2 ⟨(Nat.le_of_ble_eq_true rfl), (Nat.le_of_ble_eq_true rfl)⟩) hS (fun _ _ h => h.elim) (fun _ h => h.elim) (fun r32 u t H1 locs ht hvm hw hB hz1 hk1 hS => ?_)
  have hP := hz_keep hP hk1
  clear hk1 hB hz1
  generalize H1 = H at hP hS ⊢
  rcases hw with ⟨rfl, h33⟩ | ⟨rfl, h34, x35, x36⟩
  · have ii37 : (-2147483648) ≤ p0.toInt ∧ p0.toInt ≤ 2147483647 := h33
    refine lv_if_eq (tgt := 18) hx hb dX12_cry_5 (by decide) (fun _ => ?_) (fun z => absurd (by decide) z)
    refine lv_iconst (v := (-1)) hx hb dX12_cry_18 (by decide) ?_
    exact W.iret (v := (-1)) hx hb hr (fun t ht hW => ⟨⟨(-1), (), rfl, (Or.inl (⟨rfl, h33⟩)), trivial⟩, hS.F ht⟩) hS.2.2 dX12_cry_19
  · have ii38 : 0 ≤ p0.toInt ∧ p0.toInt ≤ 3 := h34
    refine lv_if_eq (tgt := 18) hx hb dX12_cry_5 (by decide) (fun z => absurd z (by decide)) (fun _ => ?_)
    refine lv_iload_n hx hb dX12_cry_8 rfl (lv_at hl 2 rfl) ?_
    refine lv_i2l (v := p1.toInt64) hx hb dX12_cry_9 rfl ?_
    refine lv_lconst (v := 0) hx hb dX12_cry_10 (by decide) ?_
    refine lv_lconst (v := 1) hx hb dX12_cry_11 (by decide) ?_
    refine va_calli (va_runS (As := [.long p1.toInt64, .long 0, .long 1]) (rest := []) ⟨hx, hb, hml, hown, hT⟩ (c_X12_in l D cs kK kV p1.toInt64 0 1) (va_cwS 3 hT (hz_gS q_964 q_965 q_701 q_966) rfl rfl rfl (by decide +kernel) ⟨(Nat.le_of_ble_eq_true rfl), (Nat.le_of_ble_eq_true rfl)⟩) ⟨hz_P.blind, hz_P.mk (hP.sub (ws' := []) [] rfl) hE hS⟩ rfl rfl hl.1 rfl (lv_room (Nat.le_of_ble_eq_true rfl)) dX12_cry_12 ⟨(Nat.le_of_ble_eq_true rfl), (Nat.le_of_ble_eq_true rfl)⟩) hS (fun _ _ h => h.elim) (fun _ h => h.elim) (fun r39 u t H1 locs ht hvm hw hB hz1 hk1 hS => ?_)
    have hP := hz_keep hP hk1
    clear hk1 hB hz1
    generalize H1 = H at hP hS ⊢
    rcases hw with ⟨rfl, x40⟩ | ⟨rfl, x41, x42⟩
    · have t43 : ¬ (0 ≤ p1.toInt ∧ p1.toInt ≤ 1) := fun z => x40 ⟨l64_clI z.1 (by decide), l64_lcI z.2 (by decide)⟩
      refine lv_if_ne (tgt := 20) hx hb dX12_cry_15 (by decide) (fun z => absurd (by decide) z) (fun _ => ?_)
      refine lv_iconst (v := (-1)) hx hb dX12_cry_18 (by decide) ?_
      exact W.iret (v := (-1)) hx hb hr (fun t ht hW => ⟨⟨(-1), (), rfl, (Or.inl (⟨rfl, (iv_w h34 (by decide) (by decide))⟩)), trivial⟩, hS.F ht⟩) hS.2.2 dX12_cry_19
    · have h44 : IV 0 2147483647 p1 := ⟨l64_cle x41 (by decide), iv_top.2⟩
      have ii45 : 0 ≤ p1.toInt ∧ p1.toInt ≤ 2147483647 := h44
      have h46 : IV 0 1 p1 := ⟨(h44).1, l64_lec x42 (by decide)⟩
      have ii47 : 0 ≤ p1.toInt ∧ p1.toInt ≤ 1 := h46
      refine lv_if_ne (tgt := 20) hx hb dX12_cry_15 (by decide) (fun _ => ?_) (fun z => absurd z (by decide))
      refine lv_bipush (v := (-2)) hx hb dX12_cry_20 (by decide) ?_
      refine lv_istore_n (lv' := [(3, .int (-2)), (0, .ref a), (1, .int p0), (2, .int p1)]) hx hb dX12_cry_22 rfl hl (by decide) rfl (fun ls hl => ?_)
      refine lv_iconst (v := (-1)) hx hb dX12_cry_23 (by decide) ?_
      refine lv_istore (lv' := [(4, .int (-1)), (3, .int (-2)), (0, .ref a), (1, .int p0), (2, .int p1)]) hx hb dX12_cry_24 hl (by decide) rfl (fun ls hl => ?_)
      refine lv_iconst (v := 0) hx hb dX12_cry_26 (by decide) ?_
      refine lv_istore (lv' := [(5, .int 0), (4, .int (-1)), (3, .int (-2)), (0, .ref a), (1, .int p0), (2, .int p1)]) hx hb dX12_cry_27 hl (by decide) rfl (fun ls hl => ?_)
      exact K29 _ ((0 : Int32)) (((-1) : Int32)) (((-2) : Int32)) (Nat.le_refl _) (iv_c (by decide)) (iv_c (by decide)) (iv_c (by decide)) h34 h46 H locs (hP.sub (ws' := [(a_said, .inl (cs 0, 123, .inl a_said_c)), (a, .inr (12, [.ref a_tape, .int a__taped, .int a__rules, .ref a_sign, .ref a_length, .ref a_clause, .ref a_clauses, .ref a_read, .int a__next, .int a__wrong, .int a__number, .int a__text, .int a__made, .int a__deep, .int a__lines, .ref a_open, .int a__opened, .ref a_stack, .int a__top, .ref a_word, .ref a_said, .int a__x, .ref a_worth, .ref a_mate, .ref a_wasSaid, .int a__undone, .int a__boughtNow, .ref a_wayBy, .ref a_wayThen, .int a__walkMost, .int a__walkGoing, .int a__walkSet, .ref a_kept, .long a__drawX, .ref a_images, .ref a_imageX, .ref a_isMade]))]) [0, 1] rfl) hS ls (lv_sub hl [0, 1, 2, 3, 4, 5] rfl)
theorem dX12_keeps_0 : decode cX12_keeps 0 = .ok (.iconst 0, 1) := by decide +kernel
theorem dX12_keeps_1 : decode cX12_keeps 1 = .ok (.istore_n 1, 1) := by decide +kernel
theorem dX12_keeps_2 : decode cX12_keeps 2 = .ok (.iload_n 1, 1) := by decide +kernel
theorem dX12_keeps_3 : decode cX12_keeps 3 = .ok (.bipush 86, 2) := by decide +kernel
theorem dX12_keeps_5 : decode cX12_keeps 5 = .ok (.if_icmp .ge 21, 3) := by decide +kernel
theorem dX12_keeps_8 : decode cX12_keeps 8 = .ok (.aload_n 0, 1) := by decide +kernel
theorem dX12_keeps_9 : decode cX12_keeps 9 = .ok (.getfield 57, 3) := by decide +kernel
theorem dX12_keeps_12 : decode cX12_keeps 12 = .ok (.iload_n 1, 1) := by decide +kernel
theorem dX12_keeps_13 : decode cX12_keeps 13 = .ok (.aload_n 0, 1) := by decide +kernel
theorem dX12_keeps_14 : decode cX12_keeps 14 = .ok (.getfield 39, 3) := by decide +kernel
theorem dX12_keeps_17 : decode cX12_keeps 17 = .ok (.iload_n 1, 1) := by decide +kernel
theorem dX12_keeps_18 : decode cX12_keeps 18 = .ok (.iaload, 1) := by decide +kernel
theorem dX12_keeps_19 : decode cX12_keeps 19 = .ok (.iastore, 1) := by decide +kernel
theorem dX12_keeps_20 : decode cX12_keeps 20 = .ok (.iinc 1 1, 3) := by decide +kernel
theorem dX12_keeps_23 : decode cX12_keeps 23 = .ok (.goto (-21), 3) := by decide +kernel
theorem dX12_keeps_26 : decode cX12_keeps 26 = .ok (.return_, 1) := by decide +kernel
set_option maxHeartbeats 4000000 in
set_option maxRecDepth 100000 in
theorem c_X12_keeps (l : Launch) (D : va_G) (cs : Nat → ClassId) (kK kV : Nat → Nat) (a : Nat) (a_kept : Nat) (a_kept_c : Nat → Int32) (a_said : Nat) (a_said_c : Nat → Int32) (a_tape : Nat) (a__taped : Int32) (a__rules : Int32) (a_sign : Nat) (a_length : Nat) (a_clause : Nat) (a_clauses : Nat) (a_read : Nat) (a__next : Int32) (a__wrong : Int32) (a__number : Int32) (a__text : Int32) (a__made : Int32) (a__deep : Int32) (a__lines : Int32) (a_open : Nat) (a__opened : Int32) (a_stack : Nat) (a__top : Int32) (a_word : Nat) (a__x : Int32) (a_worth : Nat) (a_mate : Nat) (a_wasSaid : Nat) (a__undone : Int32) (a__boughtNow : Int32) (a_wayBy : Nat) (a_wayThen : Nat) (a__walkMost : Int32) (a__walkGoing : Int32) (a__walkSet : Int32) (a__drawX : Int64) (a_images : Nat) (a_imageX : Nat) (a_isMade : Nat) (h_a__taped : IV 0 400 a__taped) (h_a__rules : IV 0 6 a__rules) (h_a__next : IV 0 400 a__next) (h_a__text : IV 0 6 a__text) (h_a__made : IV 0 60 a__made) (h_a__lines : IV 0 40 a__lines) (h_a__opened : IV 0 400 a__opened) (h_a__top : IV 0 64 a__top) (h_a__x : IV 0 2147483647 a__x) (h_a__undone : IV 0 20 a__undone) (sz : Nat) : Met l yX12_keeps (hz_w yX12_keeps cX12_keeps 2 none) ({ frames := 0, cells := 0, slots := 0, locals := 0 }) (va_Pc [.ref a] (hz_C D cs kK kV sz [(a_kept, .inl (cs 0, 86, .inl a_kept_c)), (a_said, .inl (cs 0, 123, .inl a_said_c)), (a, .inr (12, [.ref a_tape, .int a__taped, .int a__rules, .ref a_sign, .ref a_length, .ref a_clause, .ref a_clauses, .ref a_read, .int a__next, .int a__wrong, .int a__number, .int a__text, .int a__made, .int a__deep, .int a__lines, .ref a_open, .int a__opened, .ref a_stack, .int a__top, .ref a_word, .ref a_said, .int a__x, .ref a_worth, .ref a_mate, .ref a_wasSaid, .int a__undone, .int a__boughtNow, .ref a_wayBy, .ref a_wayThen, .int a__walkMost, .int a__walkGoing, .int a__walkSet, .ref a_kept, .long a__drawX, .ref a_images, .ref a_imageX, .ref a_isMade]))])) (va_Qv (fun (u : (Nat → Int32) × (Nat → Nat → Int32)) => ((∀ j : Nat, j < 86 → (u.2 0) j = a_said_c j))) (fun u t => va_P D classes [(a_kept, .inl (cs 0, 86, .inl (u.2 0))), (a_said, .inl (cs 0, 123, .inl a_said_c)), (a, .inr (12, [.ref a_tape, .int a__taped, .int a__rules, .ref a_sign, .ref a_length, .ref a_clause, .ref a_clauses, .ref a_read, .int a__next, .int a__wrong, .int a__number, .int a__text, .int a__made, .int a__deep, .int a__lines, .ref a_open, .int a__opened, .ref a_stack, .int a__top, .ref a_word, .ref a_said, .int a__x, .ref a_worth, .ref a_mate, .ref a_wasSaid, .int a__undone, .int a__boughtNow, .ref a_wayBy, .ref a_wayThen, .int a__walkMost, .int a__walkGoing, .int a__walkSet, .ref a_kept, .long a__drawX, .ref a_images, .ref a_imageX, .ref a_isMade]))] t.heap ∧ va_D (va_A [(a_kept, .inl (cs 0, 86, .inl a_kept_c)), (a_said, .inl (cs 0, 123, .inl a_said_c)), (a, .inr (12, [.ref a_tape, .int a__taped, .int a__rules, .ref a_sign, .ref a_length, .ref a_clause, .ref a_clauses, .ref a_read, .int a__next, .int a__wrong, .int a__number, .int a__text, .int a__made, .int a__deep, .int a__lines, .ref a_open, .int a__opened, .ref a_stack, .int a__top, .ref a_word, .ref a_said, .int a__x, .ref a_worth, .ref a_mate, .ref a_wasSaid, .int a__undone, .int a__boughtNow, .ref a_wayBy, .ref a_wayThen, .int a__walkMost, .int a__walkGoing, .int a__walkSet, .ref a_kept, .long a__drawX, .ref a_images, .ref a_imageX, .ref a_isMade]))] sz) [(a_kept, .inl (cs 0, 86, .inl (u.2 0))), (a_said, .inl (cs 0, 123, .inl a_said_c)), (a, .inr (12, [.ref a_tape, .int a__taped, .int a__rules, .ref a_sign, .ref a_length, .ref a_clause, .ref a_clauses, .ref a_read, .int a__next, .int a__wrong, .int a__number, .int a__text, .int a__made, .int a__deep, .int a__lines, .ref a_open, .int a__opened, .ref a_stack, .int a__top, .ref a_word, .ref a_said, .int a__x, .ref a_worth, .ref a_mate, .ref a_wasSaid, .int a__undone, .int a__boughtNow, .ref a_wayBy, .ref a_wayThen, .int a__walkMost, .int a__walkGoing, .int a__walkSet, .ref a_kept, .long a__drawX, .ref a_images, .ref a_imageX, .ref a_isMade]))]) (va_A [(a_kept, .inl (cs 0, 86, .inl a_kept_c)), (a_said, .inl (cs 0, 123, .inl a_said_c)), (a, .inr (12, [.ref a_tape, .int a__taped, .int a__rules, .ref a_sign, .ref a_length, .ref a_clause, .ref a_clauses, .ref a_read, .int a__next, .int a__wrong, .int a__number, .int a__text, .int a__made, .int a__deep, .int a__lines, .ref a_open, .int a__opened, .ref a_stack, .int a__top, .ref a_word, .ref a_said, .int a__x, .ref a_worth, .ref a_mate, .ref a_wasSaid, .int a__undone, .int a__boughtNow, .ref a_wayBy, .ref a_wayThen, .int a__walkMost, .int a__walkGoing, .int a__walkSet, .ref a_kept, .long a__drawX, .ref a_images, .ref a_imageX, .ref a_isMade]))] sz)) 0 0 (va_A [(a_kept, .inl (cs 0, 86, .inl a_kept_c)), (a_said, .inl (cs 0, 123, .inl a_said_c)), (a, .inr (12, [.ref a_tape, .int a__taped, .int a__rules, .ref a_sign, .ref a_length, .ref a_clause, .ref a_clauses, .ref a_read, .int a__next, .int a__wrong, .int a__number, .int a__text, .int a__made, .int a__deep, .int a__lines, .ref a_open, .int a__opened, .ref a_stack, .int a__top, .ref a_word, .ref a_said, .int a__x, .ref a_worth, .ref a_mate, .ref a_wasSaid, .int a__undone, .int a__boughtNow, .ref a_wayBy, .ref a_wayThen, .int a__walkMost, .int a__walkGoing, .int a__walkSet, .ref a_kept, .long a__drawX, .ref a_images, .ref a_imageX, .ref a_isMade]))] sz) := by
  refine Met.ofW (cc := cX12_keeps) (maxL := 2) (ret := none) (by decide) rfl ?_
  intro p e s m args below meth c s₁ B hml hv
  obtain ⟨rfl, hsz, hP, hD0, hE⟩ := hv
  have hx := B.exec
  have hb := B.bytes
  have hr := B.returns
  have hT : ∀ w ∈ TB, w.before _ s = true := fun w h => atoms_spec (ws := hz_w yX12_keeps cX12_keeps 2 none) B.pre w (List.mem_cons_of_mem _ h)
  have hown : s.vm.findClass RX12 = some m.cls := findClass_of_methodNamed B.named
  have hlocks := B.notSynchronized
  clear B
  subst hsz
  have hD := hD0.self (sz := s.heap.size)
  generalize hAe : va_A [(a_kept, .inl (cs 0, 86, .inl a_kept_c)), (a_said, .inl (cs 0, 123, .inl a_said_c)), (a, .inr (12, [.ref a_tape, .int a__taped, .int a__rules, .ref a_sign, .ref a_length, .ref a_clause, .ref a_clauses, .ref a_read, .int a__next, .int a__wrong, .int a__number, .int a__text, .int a__made, .int a__deep, .int a__lines, .ref a_open, .int a__opened, .ref a_stack, .int a__top, .ref a_word, .ref a_said, .int a__x, .ref a_worth, .ref a_mate, .ref a_wasSaid, .int a__undone, .int a__boughtNow, .ref a_wayBy, .ref a_wayThen, .int a__walkMost, .int a__walkGoing, .int a__walkSet, .ref a_kept, .long a__drawX, .ref a_images, .ref a_imageX, .ref a_isMade]))] s.heap.size = A at hD hE ⊢
  have hA : ∀ q : Nat, s.heap.size ≤ q → A q := fun q h => by rw [← hAe]; exact Or.inr h
  clear hAe hD0
  have hS : va_S A s.heap s.heap [] := va_S.rf
  have hK := hE.1
  have hl := lv_entry ([.ref a]) (n := 2) (Nat.le_of_ble_eq_true rfl)
  rw [lg_entry_eq]
  generalize (lg_sl ([.ref a]) ++ List.replicate (2 - (lg_sl ([.ref a])).length) Slot.unset).toArray = ls at hl ⊢
  have hl : lv_has ls 2 [(0, .ref a)] := hl
  obtain ⟨H, eH⟩ : ∃ z, z = s.heap := ⟨_, rfl⟩
  have hP : va_P D classes [(a_kept, .inl (cs 0, 86, .inl a_kept_c)), (a_said, .inl (cs 0, 123, .inl a_said_c)), (a, .inr (12, [.ref a_tape, .int a__taped, .int a__rules, .ref a_sign, .ref a_length, .ref a_clause, .ref a_clauses, .ref a_read, .int a__next, .int a__wrong, .int a__number, .int a__text, .int a__made, .int a__deep, .int a__lines, .ref a_open, .int a__opened, .ref a_stack, .int a__top, .ref a_word, .ref a_said, .int a__x, .ref a_worth, .ref a_mate, .ref a_wasSaid, .int a__undone, .int a__boughtNow, .ref a_wayBy, .ref a_wayThen, .int a__walkMost, .int a__walkGoing, .int a__walkSet, .ref a_kept, .long a__drawX, .ref a_images, .ref a_imageX, .ref a_isMade]))] H := by rw [eH]; exact hP
  have hS : va_S A s.heap H [] := by rw [eH]; exact hS
  rw [← eH]
  clear eH
  obtain ⟨locs, el⟩ : ∃ z : List Loc, z = [] := ⟨_, rfl⟩
  rw [← el] at hS ⊢
  clear el
  have z0 : (0 : Int32).toInt = 0 := by decide
  have z1 : (1 : Int32).toInt = 1 := by decide
  have zm1 : (-1 : Int32).toInt = -1 := by decide
  have i_a__lines : 0 ≤ a__lines.toInt ∧ a__lines.toInt ≤ 40 := h_a__lines
  have i_a__made : 0 ≤ a__made.toInt ∧ a__made.toInt ≤ 60 := h_a__made
  have i_a__next : 0 ≤ a__next.toInt ∧ a__next.toInt ≤ 400 := h_a__next
  have i_a__opened : 0 ≤ a__opened.toInt ∧ a__opened.toInt ≤ 400 := h_a__opened
  have i_a__rules : 0 ≤ a__rules.toInt ∧ a__rules.toInt ≤ 6 := h_a__rules
  have i_a__taped : 0 ≤ a__taped.toInt ∧ a__taped.toInt ≤ 400 := h_a__taped
  have i_a__text : 0 ≤ a__text.toInt ∧ a__text.toInt ≤ 6 := h_a__text
  have i_a__top : 0 ≤ a__top.toInt ∧ a__top.toInt ≤ 64 := h_a__top
  have i_a__undone : 0 ≤ a__undone.toInt ∧ a__undone.toInt ≤ 20 := h_a__undone
  have i_a__x : 0 ≤ a__x.toInt ∧ a__x.toInt ≤ 2147483647 := h_a__x
  have K2 : ∀ (n : Nat) (k2_L_1 : Int32) (k2_C_a_kept : Nat → Int32), (86 - k2_L_1.toInt + 1).toNat ≤ n → IV 0 86 k2_L_1 → (CPT k2_C_a_kept a_said_c 0 k2_L_1.toInt.toNat) → ∀ (H : Heap) (locs : List Loc), va_P D classes [(a_kept, .inl (cs 0, 86, .inl k2_C_a_kept)), (a_said, .inl (cs 0, 123, .inl a_said_c)), (a, .inr (12, [.ref a_tape, .int a__taped, .int a__rules, .ref a_sign, .ref a_length, .ref a_clause, .ref a_clauses, .ref a_read, .int a__next, .int a__wrong, .int a__number, .int a__text, .int a__made, .int a__deep, .int a__lines, .ref a_open, .int a__opened, .ref a_stack, .int a__top, .ref a_word, .ref a_said, .int a__x, .ref a_worth, .ref a_mate, .ref a_wasSaid, .int a__undone, .int a__boughtNow, .ref a_wayBy, .ref a_wayThen, .int a__walkMost, .int a__walkGoing, .int a__walkSet, .ref a_kept, .long a__drawX, .ref a_images, .ref a_imageX, .ref a_isMade]))] H → va_D A [(a_kept, .inl (cs 0, 86, .inl k2_C_a_kept)), (a_said, .inl (cs 0, 123, .inl a_said_c)), (a, .inr (12, [.ref a_tape, .int a__taped, .int a__rules, .ref a_sign, .ref a_length, .ref a_clause, .ref a_clauses, .ref a_read, .int a__next, .int a__wrong, .int a__number, .int a__text, .int a__made, .int a__deep, .int a__lines, .ref a_open, .int a__opened, .ref a_stack, .int a__top, .ref a_word, .ref a_said, .int a__x, .ref a_worth, .ref a_mate, .ref a_wasSaid, .int a__undone, .int a__boughtNow, .ref a_wayBy, .ref a_wayThen, .int a__walkMost, .int a__walkGoing, .int a__walkSet, .ref a_kept, .long a__drawX, .ref a_images, .ref a_imageX, .ref a_isMade]))] → va_S A s.heap H locs → ∀ ls : Array Slot, lv_has ls 2 [(1, .int k2_L_1), (0, .ref a)] → W p l e (headSpec (hz_w yX12_keeps cX12_keeps 2 none) ({ frames := 0, cells := 0, slots := 0, locals := 0 })).room s m [.ref a].toArray below meth c H locs 0 0 (MQ below (va_Qv (fun (u : (Nat → Int32) × (Nat → Nat → Int32)) => ((∀ j : Nat, j < 86 → (u.2 0) j = a_said_c j))) (fun u t => va_P D classes [(a_kept, .inl (cs 0, 86, .inl (u.2 0))), (a_said, .inl (cs 0, 123, .inl a_said_c)), (a, .inr (12, [.ref a_tape, .int a__taped, .int a__rules, .ref a_sign, .ref a_length, .ref a_clause, .ref a_clauses, .ref a_read, .int a__next, .int a__wrong, .int a__number, .int a__text, .int a__made, .int a__deep, .int a__lines, .ref a_open, .int a__opened, .ref a_stack, .int a__top, .ref a_word, .ref a_said, .int a__x, .ref a_worth, .ref a_mate, .ref a_wasSaid, .int a__undone, .int a__boughtNow, .ref a_wayBy, .ref a_wayThen, .int a__walkMost, .int a__walkGoing, .int a__walkSet, .ref a_kept, .long a__drawX, .ref a_images, .ref a_imageX, .ref a_isMade]))] t.heap ∧ va_D A [(a_kept, .inl (cs 0, 86, .inl (u.2 0))), (a_said, .inl (cs 0, 123, .inl a_said_c)), (a, .inr (12, [.ref a_tape, .int a__taped, .int a__rules, .ref a_sign, .ref a_length, .ref a_clause, .ref a_clauses, .ref a_read, .int a__next, .int a__wrong, .int a__number, .int a__text, .int a__made, .int a__deep, .int a__lines, .ref a_open, .int a__opened, .ref a_stack, .int a__top, .ref a_word, .ref a_said, .int a__x, .ref a_worth, .ref a_mate, .ref a_wasSaid, .int a__undone, .int a__boughtNow, .ref a_wayBy, .ref a_wayThen, .int a__walkMost, .int a__walkGoing, .int a__walkSet, .ref a_kept, .long a__drawX, .ref a_images, .ref a_imageX, .ref a_isMade]))]) A) [.ref a].toArray s 0 0 A) (F0 m 2 ls []) := by
    intro n
    induction n with
    | zero =>
      intro k2_L_1 k2_C_a_kept hn q2_10 x2_0 H locs hP hD hS ls hl
      exact absurd hn (by unfold IV at q2_10; omega)
    | succ n ih2 =>
      intro k2_L_1 k2_C_a_kept hn q2_10 x2_0 H locs hP hD hS ls hl
      have i_a__lines : 0 ≤ a__lines.toInt ∧ a__lines.toInt ≤ 40 := h_a__lines
      have i_a__made : 0 ≤ a__made.toInt ∧ a__made.toInt ≤ 60 := h_a__made
      have i_a__next : 0 ≤ a__next.toInt ∧ a__next.toInt ≤ 400 := h_a__next
      have i_a__opened : 0 ≤ a__opened.toInt ∧ a__opened.toInt ≤ 400 := h_a__opened
      have i_a__rules : 0 ≤ a__rules.toInt ∧ a__rules.toInt ≤ 6 := h_a__rules
      have i_a__taped : 0 ≤ a__taped.toInt ∧ a__taped.toInt ≤ 400 := h_a__taped
      have i_a__text : 0 ≤ a__text.toInt ∧ a__text.toInt ≤ 6 := h_a__text
      have i_a__top : 0 ≤ a__top.toInt ∧ a__top.toInt ≤ 64 := h_a__top
      have i_a__undone : 0 ≤ a__undone.toInt ∧ a__undone.toInt ≤ 20 := h_a__undone
      have i_a__x : 0 ≤ a__x.toInt ∧ a__x.toInt ≤ 2147483647 := h_a__x
      have i_k2_L_1 : 0 ≤ k2_L_1.toInt ∧ k2_L_1.toInt ≤ 86 := q2_10
      refine lv_iload_n hx hb dX12_keeps_2 rfl (lv_at hl 0 rfl) ?_
      refine lv_bipush (v := 86) hx hb dX12_keeps_3 (by decide) ?_
      refine lv_icmp_ge (tgt := 26) hx hb dX12_keeps_5 (by decide) (fun c1 => ?_) (fun c1 => ?_)
      · have t2 : k2_L_1.toInt ≥ 86 := lin_ge c1 rfl (by decide)
        have h3 : IV 86 86 k2_L_1 := iv_le2 c1 (iv_c (a := 86) (b := 86) (by decide)) q2_10 (by decide)
        have ii4 : 86 ≤ k2_L_1.toInt ∧ k2_L_1.toInt ≤ 86 := h3
        refine W.widen (k := 0) (n := 0) (Nat.le_of_ble_eq_true rfl) (Nat.le_of_ble_eq_true rfl) ?_
        have g5 : ∀ j : Nat, j < 86 → k2_C_a_kept j = a_said_c j := (fun j hj => by have q := x2_0 j (by omega); rw [Nat.zero_add] at q; exact q)
        exact W.vret hx hb hr (fun t ht hW => ⟨⟨(fun k => match k with | 0 => 0 | _ => 0, fun k => match k with | 0 => k2_C_a_kept | _ => fun _ => 0), rfl, (g5), by rw [ht]; exact hP.sub [0, 1, 2] rfl, hD.sub [0, 1, 2] (by decide) rfl⟩, hS.F ht⟩) hS.2.2 dX12_keeps_26
      · have t6 : k2_L_1.toInt < 86 := lin_geN c1 rfl (by decide)
        have h7 : IV 0 85 k2_L_1 := iv_lt1 (Int32.not_le.mp c1) q2_10 (iv_c (a := 86) (b := 86) (by decide)) (by decide)
        have ii8 : 0 ≤ k2_L_1.toInt ∧ k2_L_1.toInt ≤ 85 := h7
        refine lv_aload_n hx hb dX12_keeps_8 rfl (lv_at hl 1 rfl) ?_
        refine va_get (D := D) (ci := 12) (v := .ref a_kept) (C := RX12) (T := TX12) (N := 37) hx hb hT i_X12 hown hK hP 2 rfl rfl 32 (by decide) (hT _ q_191) (fun _ h9 => h9) rfl dX12_keeps_9 ?_
        refine lv_iload_n hx hb dX12_keeps_12 rfl (lv_at hl 0 rfl) ?_
        refine lv_aload_n hx hb dX12_keeps_13 rfl (lv_at hl 1 rfl) ?_
        refine va_get (D := D) (ci := 12) (v := .ref a_said) (C := RX12) (T := TX12) (N := 37) hx hb hT i_X12 hown hK hP 2 rfl rfl 20 (by decide) (hT _ q_185) (fun _ h9 => h9) rfl dX12_keeps_14 ?_
        refine lv_iload_n hx hb dX12_keeps_17 rfl (lv_at hl 0 rfl) ?_
        refine va_iald hx hb hK hP 1 0 rfl rfl (iv_v h7 (by decide) (by decide)) dX12_keeps_18 ?_
        refine lv_topi (fun v9 ev9 => ?_)
        have lv9 : v9.toInt = (a_said_c (Int32.toNatClampNeg k2_L_1)).toInt := by rw [ev9]
        refine va_iast hx hb hK hP hD hS 0 0 rfl rfl (iv_v h7 (by decide) (by decide)) dX12_keeps_19 (fun H locs hP hD hS => ?_)
        have hP : va_P D classes [(a_kept, .inl (cs 0, 86, .inl (upd k2_C_a_kept (Int32.toNatClampNeg k2_L_1) v9))), (a_said, .inl (cs 0, 123, .inl a_said_c)), (a, .inr (12, [.ref a_tape, .int a__taped, .int a__rules, .ref a_sign, .ref a_length, .ref a_clause, .ref a_clauses, .ref a_read, .int a__next, .int a__wrong, .int a__number, .int a__text, .int a__made, .int a__deep, .int a__lines, .ref a_open, .int a__opened, .ref a_stack, .int a__top, .ref a_word, .ref a_said, .int a__x, .ref a_worth, .ref a_mate, .ref a_wasSaid, .int a__undone, .int a__boughtNow, .ref a_wayBy, .ref a_wayThen, .int a__walkMost, .int a__walkGoing, .int a__walkSet, .ref a_kept, .long a__drawX, .ref a_images, .ref a_imageX, .ref a_isMade]))] H := hP
        have hD : va_D A [(a_kept, .inl (cs 0, 86, .inl (upd k2_C_a_kept (Int32.toNatClampNeg k2_L_1) v9))), (a_said, .inl (cs 0, 123, .inl a_said_c)), (a, .inr (12, [.ref a_tape, .int a__taped, .int a__rules, .ref a_sign, .ref a_length, .ref a_clause, .ref a_clauses, .ref a_read, .int a__next, .int a__wrong, .int a__number, .int a__text, .int a__made, .int a__deep, .int a__lines, .ref a_open, .int a__opened, .ref a_stack, .int a__top, .ref a_word, .ref a_said, .int a__x, .ref a_worth, .ref a_mate, .ref a_wasSaid, .int a__undone, .int a__boughtNow, .ref a_wayBy, .ref a_wayThen, .int a__walkMost, .int a__walkGoing, .int a__walkSet, .ref a_kept, .long a__drawX, .ref a_images, .ref a_imageX, .ref a_isMade]))] := hD
        obtain ⟨f10, uf10⟩ : ∃ z, z = upd k2_C_a_kept (Int32.toNatClampNeg k2_L_1) v9 := ⟨_, rfl⟩
        rw [← uf10] at hP hD
        have wf10 : (f10 (Int32.toNatClampNeg k2_L_1)).toInt = v9.toInt := lin_us uf10 rfl
        obtain ⟨v11, ev11⟩ : ∃ z : Int32, z = k2_L_1 + 1 := ⟨_, rfl⟩
        have hv11 : IV 1 86 v11 := iv_add ev11 h7 (iv_c (a := 1) (b := 1) (by decide)) (by decide) (by decide)
        have dv11 : v11.toInt = k2_L_1.toInt + 1 := iv_addE ev11 h7 (iv_c (a := 1) (b := 1) (by decide)) (by decide) (by decide) (by decide)
        refine lv_iinc (v := v11) (lv' := [(1, .int v11), (0, .ref a)]) hx hb dX12_keeps_20 hl (k := 0) rfl (by rw [ev11]; rfl) (by decide) rfl (fun ls hl => ?_)
        refine lv_goto (tgt := 2) hx hb dX12_keeps_23 (by decide) ?_
        exact ih2 v11 f10 (by have h9 := h7; unfold IV at h9; have := dv11; omega) (iv_w hv11 (by decide) (by decide)) (cpt_step x2_0 uf10 ev9 (by omega) (by omega) (by omega)) H locs (hP.sub (ws' := [(a_kept, .inl (cs 0, 86, .inl f10)), (a_said, .inl (cs 0, 123, .inl a_said_c)), (a, .inr (12, [.ref a_tape, .int a__taped, .int a__rules, .ref a_sign, .ref a_length, .ref a_clause, .ref a_clauses, .ref a_read, .int a__next, .int a__wrong, .int a__number, .int a__text, .int a__made, .int a__deep, .int a__lines, .ref a_open, .int a__opened, .ref a_stack, .int a__top, .ref a_word, .ref a_said, .int a__x, .ref a_worth, .ref a_mate, .ref a_wasSaid, .int a__undone, .int a__boughtNow, .ref a_wayBy, .ref a_wayThen, .int a__walkMost, .int a__walkGoing, .int a__walkSet, .ref a_kept, .long a__drawX, .ref a_images, .ref a_imageX, .ref a_isMade]))]) [0, 1, 2] rfl) (hD.sub (ws' := [(a_kept, .inl (cs 0, 86, .inl f10)), (a_said, .inl (cs 0, 123, .inl a_said_c)), (a, .inr (12, [.ref a_tape, .int a__taped, .int a__rules, .ref a_sign, .ref a_length, .ref a_clause, .ref a_clauses, .ref a_read, .int a__next, .int a__wrong, .int a__number, .int a__text, .int a__made, .int a__deep, .int a__lines, .ref a_open, .int a__opened, .ref a_stack, .int a__top, .ref a_word, .ref a_said, .int a__x, .ref a_worth, .ref a_mate, .ref a_wasSaid, .int a__undone, .int a__boughtNow, .ref a_wayBy, .ref a_wayThen, .int a__walkMost, .int a__walkGoing, .int a__walkSet, .ref a_kept, .long a__drawX, .ref a_images, .ref a_imageX, .ref a_isMade]))]) [0, 1, 2] (by decide) rfl) hS ls (lv_sub hl [0, 1] rfl)
  refine lv_iconst (v := 0) hx hb dX12_keeps_0 (by decide) ?_
  refine lv_istore_n (lv' := [(1, .int 0), (0, .ref a)]) hx hb dX12_keeps_1 rfl hl (by decide) rfl (fun ls hl => ?_)
  exact K2 _ ((0 : Int32)) a_kept_c (Nat.le_refl _) (iv_c (by decide)) (cpt_0) H locs (hP.sub (ws' := [(a_kept, .inl (cs 0, 86, .inl a_kept_c)), (a_said, .inl (cs 0, 123, .inl a_said_c)), (a, .inr (12, [.ref a_tape, .int a__taped, .int a__rules, .ref a_sign, .ref a_length, .ref a_clause, .ref a_clauses, .ref a_read, .int a__next, .int a__wrong, .int a__number, .int a__text, .int a__made, .int a__deep, .int a__lines, .ref a_open, .int a__opened, .ref a_stack, .int a__top, .ref a_word, .ref a_said, .int a__x, .ref a_worth, .ref a_mate, .ref a_wasSaid, .int a__undone, .int a__boughtNow, .ref a_wayBy, .ref a_wayThen, .int a__walkMost, .int a__walkGoing, .int a__walkSet, .ref a_kept, .long a__drawX, .ref a_images, .ref a_imageX, .ref a_isMade]))]) [0, 1, 2] rfl) (hD.sub (ws' := [(a_kept, .inl (cs 0, 86, .inl a_kept_c)), (a_said, .inl (cs 0, 123, .inl a_said_c)), (a, .inr (12, [.ref a_tape, .int a__taped, .int a__rules, .ref a_sign, .ref a_length, .ref a_clause, .ref a_clauses, .ref a_read, .int a__next, .int a__wrong, .int a__number, .int a__text, .int a__made, .int a__deep, .int a__lines, .ref a_open, .int a__opened, .ref a_stack, .int a__top, .ref a_word, .ref a_said, .int a__x, .ref a_worth, .ref a_mate, .ref a_wasSaid, .int a__undone, .int a__boughtNow, .ref a_wayBy, .ref a_wayThen, .int a__walkMost, .int a__walkGoing, .int a__walkSet, .ref a_kept, .long a__drawX, .ref a_images, .ref a_imageX, .ref a_isMade]))]) [0, 1, 2] (by decide) rfl) hS ls (lv_sub hl [0, 1] rfl)
