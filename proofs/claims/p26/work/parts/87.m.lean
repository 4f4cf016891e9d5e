theorem dX12_count_0 : decode cX12_count 0 = .ok (.iload_n 1, 1) := by decide +kernel
theorem dX12_count_1 : decode cX12_count 1 = .ok (.tableswitch 146 0 10 #[59, 59, 59, 66, 71, 78, 115, 123, 131, 136, 141], 59) := by decide +kernel
theorem dX12_count_60 : decode cX12_count 60 = .ok (.aload_n 0, 1) := by decide +kernel
theorem dX12_count_61 : decode cX12_count 61 = .ok (.getfield 39, 3) := by decide +kernel
theorem dX12_count_64 : decode cX12_count 64 = .ok (.iload_n 1, 1) := by decide +kernel
theorem dX12_count_65 : decode cX12_count 65 = .ok (.iaload, 1) := by decide +kernel
theorem dX12_count_66 : decode cX12_count 66 = .ok (.ireturn, 1) := by decide +kernel
theorem dX12_count_67 : decode cX12_count 67 = .ok (.aload_n 0, 1) := by decide +kernel
theorem dX12_count_68 : decode cX12_count 68 = .ok (.getfield 268, 3) := by decide +kernel
theorem dX12_count_71 : decode cX12_count 71 = .ok (.ireturn, 1) := by decide +kernel
theorem dX12_count_72 : decode cX12_count 72 = .ok (.aload_n 0, 1) := by decide +kernel
theorem dX12_count_73 : decode cX12_count 73 = .ok (.getfield 39, 3) := by decide +kernel
theorem dX12_count_76 : decode cX12_count 76 = .ok (.iconst 3, 1) := by decide +kernel
theorem dX12_count_77 : decode cX12_count 77 = .ok (.iaload, 1) := by decide +kernel
theorem dX12_count_78 : decode cX12_count 78 = .ok (.ireturn, 1) := by decide +kernel
theorem dX12_count_79 : decode cX12_count 79 = .ok (.aload_n 0, 1) := by decide +kernel
theorem dX12_count_80 : decode cX12_count 80 = .ok (.invokevirtual 329, 3) := by decide +kernel
theorem dX12_count_83 : decode cX12_count 83 = .ok (.ifCond .ne 7, 3) := by decide +kernel
theorem dX12_count_86 : decode cX12_count 86 = .ok (.iconst (-1), 1) := by decide +kernel
theorem dX12_count_87 : decode cX12_count 87 = .ok (.goto 28, 3) := by decide +kernel
theorem dX12_count_90 : decode cX12_count 90 = .ok (.aload_n 0, 1) := by decide +kernel
theorem dX12_count_91 : decode cX12_count 91 = .ok (.invokevirtual 298, 3) := by decide +kernel
theorem dX12_count_94 : decode cX12_count 94 = .ok (.ifCond .eq 7, 3) := by decide +kernel
theorem dX12_count_97 : decode cX12_count 97 = .ok (.iconst 0, 1) := by decide +kernel
theorem dX12_count_98 : decode cX12_count 98 = .ok (.goto 17, 3) := by decide +kernel
theorem dX12_count_101 : decode cX12_count 101 = .ok (.aload_n 0, 1) := by decide +kernel
theorem dX12_count_102 : decode cX12_count 102 = .ok (.getfield 39, 3) := by decide +kernel
theorem dX12_count_105 : decode cX12_count 105 = .ok (.bipush 6, 2) := by decide +kernel
theorem dX12_count_107 : decode cX12_count 107 = .ok (.iaload, 1) := by decide +kernel
theorem dX12_count_108 : decode cX12_count 108 = .ok (.aload_n 0, 1) := by decide +kernel
theorem dX12_count_109 : decode cX12_count 109 = .ok (.getfield 39, 3) := by decide +kernel
theorem dX12_count_112 : decode cX12_count 112 = .ok (.iconst 3, 1) := by decide +kernel
theorem dX12_count_113 : decode cX12_count 113 = .ok (.iaload, 1) := by decide +kernel
theorem dX12_count_114 : decode cX12_count 114 = .ok (.isub, 1) := by decide +kernel
theorem dX12_count_115 : decode cX12_count 115 = .ok (.ireturn, 1) := by decide +kernel
theorem dX12_count_116 : decode cX12_count 116 = .ok (.aload_n 0, 1) := by decide +kernel
theorem dX12_count_117 : decode cX12_count 117 = .ok (.invokevirtual 387, 3) := by decide +kernel
theorem dX12_count_120 : decode cX12_count 120 = .ok (.invokestatic 374, 3) := by decide +kernel
theorem dX12_count_123 : decode cX12_count 123 = .ok (.ireturn, 1) := by decide +kernel
theorem dX12_count_124 : decode cX12_count 124 = .ok (.aload_n 0, 1) := by decide +kernel
theorem dX12_count_125 : decode cX12_count 125 = .ok (.getfield 39, 3) := by decide +kernel
theorem dX12_count_128 : decode cX12_count 128 = .ok (.bipush 122, 2) := by decide +kernel
theorem dX12_count_130 : decode cX12_count 130 = .ok (.iaload, 1) := by decide +kernel
theorem dX12_count_131 : decode cX12_count 131 = .ok (.ireturn, 1) := by decide +kernel
theorem dX12_count_132 : decode cX12_count 132 = .ok (.aload_n 0, 1) := by decide +kernel
theorem dX12_count_133 : decode cX12_count 133 = .ok (.getfield 274, 3) := by decide +kernel
theorem dX12_count_136 : decode cX12_count 136 = .ok (.ireturn, 1) := by decide +kernel
theorem dX12_count_137 : decode cX12_count 137 = .ok (.aload_n 0, 1) := by decide +kernel
theorem dX12_count_138 : decode cX12_count 138 = .ok (.getfield 479, 3) := by decide +kernel
theorem dX12_count_141 : decode cX12_count 141 = .ok (.ireturn, 1) := by decide +kernel
theorem dX12_count_142 : decode cX12_count 142 = .ok (.aload_n 0, 1) := by decide +kernel
theorem dX12_count_143 : decode cX12_count 143 = .ok (.getfield 70, 3) := by decide +kernel
theorem dX12_count_146 : decode cX12_count 146 = .ok (.ireturn, 1) := by decide +kernel
theorem dX12_count_147 : decode cX12_count 147 = .ok (.iconst (-1), 1) := by decide +kernel
theorem dX12_count_148 : decode cX12_count 148 = .ok (.ireturn, 1) := by decide +kernel
set_option maxHeartbeats 4000000 in
set_option maxRecDepth 100000 in
theorem c_X12_count (l : Launch) (D : va_G) (cs : Nat → ClassId) (kK kV : Nat → Nat) (a : Nat) (p0 : Int32) (a_said : Nat) (a_said_c : Nat → Int32) (a_tape : Nat) (a__taped : Int32) (a__rules : Int32) (a_sign : Nat) (a_length : Nat) (a_clause : Nat) (a_clauses : Nat) (a_read : Nat) (a__next : Int32) (a__wrong : Int32) (a__number : Int32) (a__text : Int32) (a__made : Int32) (a__deep : Int32) (a__lines : Int32) (a_open : Nat) (a__opened : Int32) (a_stack : Nat) (a__top : Int32) (a_word : Nat) (a__x : Int32) (a_worth : Nat) (a_mate : Nat) (a_wasSaid : Nat) (a__undone : Int32) (a__boughtNow : Int32) (a_wayBy : Nat) (a_wayThen : Nat) (a__walkMost : Int32) (a__walkGoing : Int32) (a__walkSet : Int32) (a_kept : Nat) (a__drawX : Int64) (a_images : Nat) (a_imageX : Nat) (a_isMade : Nat) (h_a__taped : IV 0 400 a__taped) (h_a__rules : IV 0 6 a__rules) (h_a__next : IV 0 400 a__next) (h_a__text : IV 0 6 a__text) (h_a__made : IV 0 60 a__made) (h_a__lines : IV 0 40 a__lines) (h_a__opened : IV 0 400 a__opened) (h_a__top : IV 0 64 a__top) (h_a__x : IV 0 2147483647 a__x) (h_a__undone : IV 0 20 a__undone) (hf0 : BS a_said_c 200) : Met l yX12_count (hz_w yX12_count cX12_count 2 (some .int)) ({ frames := 2, cells := 0, slots := 0, locals := 44 }) (va_Pc [.ref a, .int p0] (hz_P D cs kK kV [(a_said, .inl (cs 0, 123, .inl a_said_c)), (a, .inr (12, [.ref a_tape, .int a__taped, .int a__rules, .ref a_sign, .ref a_length, .ref a_clause, .ref a_clauses, .ref a_read, .int a__next, .int a__wrong, .int a__number, .int a__text, .int a__made, .int a__deep, .int a__lines, .ref a_open, .int a__opened, .ref a_stack, .int a__top, .ref a_word, .ref a_said, .int a__x, .ref a_worth, .ref a_mate, .ref a_wasSaid, .int a__undone, .int a__boughtNow, .ref a_wayBy, .ref a_wayThen, .int a__walkMost, .int a__walkGoing, .int a__walkSet, .ref a_kept, .long a__drawX, .ref a_images, .ref a_imageX, .ref a_isMade]))])) (va_Qi (fun (r : Int32) (_ : Unit) => (r = (-1)) ∨ (r = 0 ∧ IV 5 5 p0) ∨ (IV 0 10 p0)) (fun _ t => True) (fun _ => False)) 0 0 (fun _ => False) := by
  refine Met.ofW (cc := cX12_count) (maxL := 2) (ret := (some .int)) (by decide) rfl ?_
  intro p e s m args below meth c s₁ B hml hv
  obtain ⟨rfl, hP, hE⟩ := hv
  have hx := B.exec
  have hb := B.bytes
  have hr := B.returns
  have hT : ∀ w ∈ TB, w.before _ s = true := fun w h => atoms_spec (ws := hz_w yX12_count cX12_count 2 (some .int)) B.pre w (List.mem_cons_of_mem _ h)
  have hown : s.vm.findClass RX12 = some m.cls := findClass_of_methodNamed B.named
  have hlocks := B.notSynchronized
  clear B
  have hS : va_S (fun _ => False) s.heap s.heap [] := va_S.rf
  have hK := hE.1
  have hl := lv_entry ([.ref a, .int p0]) (n := 2) (Nat.le_of_ble_eq_true rfl)
  rw [lg_entry_eq]
  generalize (lg_sl ([.ref a, .int p0]) ++ List.replicate (2 - (lg_sl ([.ref a, .int p0])).length) Slot.unset).toArray = ls at hl ⊢
  have hl : lv_has ls 2 [(0, .ref a), (1, .int p0)] := hl
  obtain ⟨H, eH⟩ : ∃ z, z = s.heap := ⟨_, rfl⟩
  have hP : va_P D classes [(a_said, .inl (cs 0, 123, .inl a_said_c)), (a, .inr (12, [.ref a_tape, .int a__taped, .int a__rules, .ref a_sign, .ref a_length, .ref a_clause, .ref a_clauses, .ref a_read, .int a__next, .int a__wrong, .int a__number, .int a__text, .int a__made, .int a__deep, .int a__lines, .ref a_open, .int a__opened, .ref a_stack, .int a__top, .ref a_word, .ref a_said, .int a__x, .ref a_worth, .ref a_mate, .ref a_wasSaid, .int a__undone, .int a__boughtNow, .ref a_wayBy, .ref a_wayThen, .int a__walkMost, .int a__walkGoing, .int a__walkSet, .ref a_kept, .long a__drawX, .ref a_images, .ref a_imageX, .ref a_isMade]))] H := by rw [eH]; exact hP
  have hS : va_S (fun _ => False) s.heap H [] := by rw [eH]; exact hS
  rw [← eH]
  clear eH
  obtain ⟨locs, el⟩ : ∃ z : List Loc, z = [] := ⟨_, rfl⟩
  rw [← el] at hS ⊢
  clear el
  have z0 : (0 : Int32).toInt = 0 := by decide
  have z1 : (1 : Int32).toInt = 1 := by decide
  have zm1 : (-1 : Int32).toInt = -1 := by decide
  have i_a__lines : 0 ≤ a__lines.toInt ∧ a__lines.toInt ≤ 40 := h_a__lines
  have i_a__made : 0 ≤ a__made.toInt ∧ a__made.toInt ≤ 60 := h_a__made
  have i_a__next : 0 ≤ a__next.toInt ∧ a__next.toInt ≤ 400 := h_a__next
  have i_a__opened : 0 ≤ a__opened.toInt ∧ a__opened.toInt ≤ 400 := h_a__opened
  have i_a__rules : 0 ≤ a__rules.toInt ∧ a__rules.toInt ≤ 6 := h_a__rules
  have i_a__taped : 0 ≤ a__taped.toInt ∧ a__taped.toInt ≤ 400 := h_a__taped
  have i_a__text : 0 ≤ a__text.toInt ∧ a__text.toInt ≤ 6 := h_a__text
  have i_a__top : 0 ≤ a__top.toInt ∧ a__top.toInt ≤ 64 := h_a__top
  have i_a__undone : 0 ≤ a__undone.toInt ∧ a__undone.toInt ≤ 20 := h_a__undone
  have i_a__x : 0 ≤ a__x.toInt ∧ a__x.toInt ≤ 2147483647 := h_a__x
  refine lv_iload_n hx hb dX12_count_0 rfl (lv_at hl 1 rfl) ?_
  by_cases c1 : p0.toInt < 0 ∨ 10 < p0.toInt
  · refine lv_tableOut (tgt := 147) hx hb dX12_count_1 c1 (by decide) ?_
    refine lv_iconst (v := (-1)) hx hb dX12_count_147 (by decide) ?_
    exact W.iret (v := (-1)) hx hb hr (fun t ht hW => ⟨⟨(-1), (), rfl, (Or.inl (rfl)), trivial⟩, hS.F ht⟩) hS.2.2 dX12_count_148
  · rcases (show p0.toInt = 0 ∨ p0.toInt = 1 ∨ p0.toInt = 2 ∨ p0.toInt = 3 ∨ p0.toInt = 4 ∨ p0.toInt = 5 ∨ p0.toInt = 6 ∨ p0.toInt = 7 ∨ p0.toInt = 8 ∨ p0.toInt = 9 ∨ p0.toInt = 10 by omega) with c1e | c1e | c1e | c1e | c1e | c1e | c1e | c1e | c1e | c1e | c1e
    · refine lv_tableIn (off := 59) (tgt := 60) hx hb dX12_count_1 (by omega) (by omega) (by rw [c1e]; rfl) (by decide) ?_
      have h2 : IV 0 0 p0 := ⟨by omega, by omega⟩
      have ii3 : 0 ≤ p0.toInt ∧ p0.toInt ≤ 0 := h2
      refine lv_aload_n hx hb dX12_count_60 rfl (lv_at hl 0 rfl) ?_
      refine va_get (D := D) (ci := 12) (v := .ref a_said) (C := RX12) (T := TX12) (N := 37) hx hb hT i_X12 hown hK hP 1 rfl rfl 20 (by decide) (hT _ q_185) (fun _ h9 => h9) rfl dX12_count_61 ?_
      refine lv_iload_n hx hb dX12_count_64 rfl (lv_at hl 1 rfl) ?_
      refine va_iald hx hb hK hP 0 0 rfl rfl (iv_v h2 (by decide) (by decide)) dX12_count_65 ?_
      refine lv_topi (fun v4 ev4 => ?_)
      have lv4 : v4.toInt = (a_said_c (Int32.toNatClampNeg p0)).toInt := by rw [ev4]
      exact W.iret (v := v4) hx hb hr (fun t ht hW => ⟨⟨v4, (), rfl, (Or.inr (Or.inr (((iv_w h2 (by decide) (by decide)))))), trivial⟩, hS.F ht⟩) hS.2.2 dX12_count_66
    · refine lv_tableIn (off := 59) (tgt := 60) hx hb dX12_count_1 (by omega) (by omega) (by rw [c1e]; rfl) (by decide) ?_
      have h5 : IV 1 1 p0 := ⟨by omega, by omega⟩
      have ii6 : 1 ≤ p0.toInt ∧ p0.toInt ≤ 1 := h5
      refine lv_aload_n hx hb dX12_count_60 rfl (lv_at hl 0 rfl) ?_
      refine va_get (D := D) (ci := 12) (v := .ref a_said) (C := RX12) (T := TX12) (N := 37) hx hb hT i_X12 hown hK hP 1 rfl rfl 20 (by decide) (hT _ q_185) (fun _ h9 => h9) rfl dX12_count_61 ?_
      refine lv_iload_n hx hb dX12_count_64 rfl (lv_at hl 1 rfl) ?_
      refine va_iald hx hb hK hP 0 0 rfl rfl (iv_v h5 (by decide) (by decide)) dX12_count_65 ?_
      refine lv_topi (fun v7 ev7 => ?_)
      have lv7 : v7.toInt = (a_said_c (Int32.toNatClampNeg p0)).toInt := by rw [ev7]
      exact W.iret (v := v7) hx hb hr (fun t ht hW => ⟨⟨v7, (), rfl, (Or.inr (Or.inr (((iv_w h5 (by decide) (by decide)))))), trivial⟩, hS.F ht⟩) hS.2.2 dX12_count_66
    · refine lv_tableIn (off := 59) (tgt := 60) hx hb dX12_count_1 (by omega) (by omega) (by rw [c1e]; rfl) (by decide) ?_
      have h8 : IV 2 2 p0 := ⟨by omega, by omega⟩
      have ii9 : 2 ≤ p0.toInt ∧ p0.toInt ≤ 2 := h8
      refine lv_aload_n hx hb dX12_count_60 rfl (lv_at hl 0 rfl) ?_
      refine va_get (D := D) (ci := 12) (v := .ref a_said) (C := RX12) (T := TX12) (N := 37) hx hb hT i_X12 hown hK hP 1 rfl rfl 20 (by decide) (hT _ q_185) (fun _ h9 => h9) rfl dX12_count_61 ?_
      refine lv_iload_n hx hb dX12_count_64 rfl (lv_at hl 1 rfl) ?_
      refine va_iald hx hb hK hP 0 0 rfl rfl (iv_v h8 (by decide) (by decide)) dX12_count_65 ?_
      refine lv_topi (fun v10 ev10 => ?_)
      have lv10 : v10.toInt = (a_said_c (Int32.toNatClampNeg p0)).toInt := by rw [ev10]
      exact W.iret (v := v10) hx hb hr (fun t ht hW => ⟨⟨v10, (), rfl, (Or.inr (Or.inr (((iv_w h8 (by decide) (by decide)))))), trivial⟩, hS.F ht⟩) hS.2.2 dX12_count_66
    · refine lv_tableIn (off := 66) (tgt := 67) hx hb dX12_count_1 (by omega) (by omega) (by rw [c1e]; rfl) (by decide) ?_
      have h11 : IV 3 3 p0 := ⟨by omega, by omega⟩
      have ii12 : 3 ≤ p0.toInt ∧ p0.toInt ≤ 3 := h11
      refine lv_aload_n hx hb dX12_count_67 rfl (lv_at hl 0 rfl) ?_
      refine va_get (D := D) (ci := 12) (v := .int a__rules) (C := RX12) (T := TX12) (N := 37) hx hb hT i_X12 hown hK hP 1 rfl rfl 2 (by decide) (hT _ q_204) (fun _ h9 => h9) rfl dX12_count_68 ?_
      exact W.iret (v := a__rules) hx hb hr (fun t ht hW => ⟨⟨a__rules, (), rfl, (Or.inr (Or.inr (((iv_w h11 (by decide) (by decide)))))), trivial⟩, hS.F ht⟩) hS.2.2 dX12_count_71
    · refine lv_tableIn (off := 71) (tgt := 72) hx hb dX12_count_1 (by omega) (by omega) (by rw [c1e]; rfl) (by decide) ?_
      have h13 : IV 4 4 p0 := ⟨by omega, by omega⟩
      have ii14 : 4 ≤ p0.toInt ∧ p0.toInt ≤ 4 := h13
      refine lv_aload_n hx hb dX12_count_72 rfl (lv_at hl 0 rfl) ?_
      refine va_get (D := D) (ci := 12) (v := .ref a_said) (C := RX12) (T := TX12) (N := 37) hx hb hT i_X12 hown hK hP 1 rfl rfl 20 (by decide) (hT _ q_185) (fun _ h9 => h9) rfl dX12_count_73 ?_
      refine lv_iconst (v := 3) hx hb dX12_count_76 (by decide) ?_
      refine va_iald hx hb hK hP 0 0 rfl rfl (iv_vc (by decide)) dX12_count_77 ?_
      refine lv_topi (fun v15 ev15 => ?_)
      have h16 : IV 0 200 v15 := (by rw [ev15]; exact bs_i3 hf0)
      have ii17 : 0 ≤ v15.toInt ∧ v15.toInt ≤ 200 := h16
      have lv15 : v15.toInt = (a_said_c 3).toInt := by rw [ev15]; rfl
      exact W.iret (v := v15) hx hb hr (fun t ht hW => ⟨⟨v15, (), rfl, (Or.inr (Or.inr (((iv_w h13 (by decide) (by decide)))))), trivial⟩, hS.F ht⟩) hS.2.2 dX12_count_78
    · refine lv_tableIn (off := 78) (tgt := 79) hx hb dX12_count_1 (by omega) (by omega) (by rw [c1e]; rfl) (by decide) ?_
      have h18 : IV 5 5 p0 := ⟨by omega, by omega⟩
      have ii19 : 5 ≤ p0.toInt ∧ p0.toInt ≤ 5 := h18
      refine lv_aload_n hx hb dX12_count_79 rfl (lv_at hl 0 rfl) ?_
      refine va_calli (va_runV (As := []) (rest := []) ⟨hx, hb, hml, hown, hT⟩ (c_X12_isFair l D cs kK kV a a_said a_said_c a_tape a__taped a__rules a_sign a_length a_clause a_clauses a_read a__next a__wrong a__number a__text a__made a__deep a__lines a_open a__opened a_stack a__top a_word a__x a_worth a_mate a_wasSaid a__undone a__boughtNow a_wayBy a_wayThen a__walkMost a__walkGoing a__walkSet a_kept a__drawX a_images a_imageX a_isMade h_a__taped h_a__rules h_a__next h_a__text h_a__made h_a__lines h_a__opened h_a__top h_a__x h_a__undone hf0) (cwV 0 hT (hz_gV q_1140 q_1141 q_1142 q_701 q_1143) rfl rfl rfl (by decide +kernel) ⟨(Nat.le_of_ble_eq_true rfl), (Nat.le_of_ble_eq_true rfl)⟩) ⟨hz_P.blind, va_recv hK hP (ci := 12) (q0 := 1) rfl rfl, hz_P.mk (hP.sub (ws' := [(a_said, .inl (cs 0, 123, .inl a_said_c)), (a, .inr (12, [.ref a_tape, .int a__taped, .int a__rules, .ref a_sign, .ref a_length, .ref a_clause, .ref a_clauses, .ref a_read, .int a__next, .int a__wrong, .int a__number, .int a__text, .int a__made, .int a__deep, .int a__lines, .ref a_open, .int a__opened, .ref a_stack, .int a__top, .ref a_word, .ref a_said, .int a__x, .ref a_worth, .ref a_mate, .ref a_wasSaid, .int a__undone, .int a__boughtNow, .ref a_wayBy, .ref a_wayThen, .int a__walkMost, .int a__walkGoing, .int a__walkSet, .ref a_kept, .long a__drawX, .ref a_images, .ref a_imageX, .ref a_isMade]))]) [0,1] rfl) hE hS⟩ rfl rfl hl.1 rfl (lv_room (Nat.le_of_ble_eq_true rfl)) dX12_count_80 ⟨(Nat.le_of_ble_eq_true rfl), (Nat.le_of_ble_eq_true rfl)⟩) hS (fun _ _ h => h.elim) (fun _ h => h.elim) (fun r20 u t H1 locs ht hvm hw hB hz1 hk1 hS => ?_)
      have hP := hz_keep hP hk1
      clear hk1 hB hz1
      generalize H1 = H at hP hS ⊢
      rcases hw with ⟨rfl, x21⟩ | ⟨rfl, x22⟩
      · refine lv_if_ne (tgt := 90) hx hb dX12_count_83 (by decide) (fun z => absurd (by decide) z) (fun _ => ?_)
        refine lv_iconst (v := (-1)) hx hb dX12_count_86 (by decide) ?_
        refine lv_goto (tgt := 115) hx hb dX12_count_87 (by decide) ?_
        exact W.iret (v := (-1)) hx hb hr (fun t ht hW => ⟨⟨(-1), (), rfl, (Or.inl (rfl)), trivial⟩, hS.F ht⟩) hS.2.2 dX12_count_115
      · refine lv_if_ne (tgt := 90) hx hb dX12_count_83 (by decide) (fun _ => ?_) (fun z => absurd z (by decide))
        refine lv_aload_n hx hb dX12_count_90 rfl (lv_at hl 0 rfl) ?_
        refine va_calli (va_runV (As := []) (rest := []) ⟨hx, hb, hml, hown, hT⟩ (c_X12_isDusk l D cs kK kV a a_tape a__taped a__rules a_sign a_length a_clause a_clauses a_read a__next a__wrong a__number a__text a__made a__deep a__lines a_open a__opened a_stack a__top a_word a_said a__x a_worth a_mate a_wasSaid a__undone a__boughtNow a_wayBy a_wayThen a__walkMost a__walkGoing a__walkSet a_kept a__drawX a_images a_imageX a_isMade a_said_c h_a__taped h_a__rules h_a__next h_a__text h_a__made h_a__lines h_a__opened h_a__top h_a__x h_a__undone) (cwV 0 hT (hz_gV q_1100 q_1101 q_1102 q_701 q_1103) rfl rfl rfl (by decide +kernel) ⟨(Nat.le_of_ble_eq_true rfl), (Nat.le_of_ble_eq_true rfl)⟩) ⟨hz_P.blind, va_recv hK hP (ci := 12) (q0 := 1) rfl rfl, hz_P.mk (hP.sub (ws' := [(a, .inr (12, [.ref a_tape, .int a__taped, .int a__rules, .ref a_sign, .ref a_length, .ref a_clause, .ref a_clauses, .ref a_read, .int a__next, .int a__wrong, .int a__number, .int a__text, .int a__made, .int a__deep, .int a__lines, .ref a_open, .int a__opened, .ref a_stack, .int a__top, .ref a_word, .ref a_said, .int a__x, .ref a_worth, .ref a_mate, .ref a_wasSaid, .int a__undone, .int a__boughtNow, .ref a_wayBy, .ref a_wayThen, .int a__walkMost, .int a__walkGoing, .int a__walkSet, .ref a_kept, .long a__drawX, .ref a_images, .ref a_imageX, .ref a_isMade])), (a_said, .inl (cs 0, 123, .inl a_said_c))]) [1,0] rfl) hE hS⟩ rfl rfl hl.1 rfl (lv_room (Nat.le_of_ble_eq_true rfl)) dX12_count_91 ⟨(Nat.le_of_ble_eq_true rfl), (Nat.le_of_ble_eq_true rfl)⟩) hS (fun _ _ h => h.elim) (fun _ h => h.elim) (fun r23 u t H1 locs ht hvm hw hB hz1 hk1 hS => ?_)
        have hP := hz_keep hP hk1
        clear hk1 hB hz1
        generalize H1 = H at hP hS ⊢
        rcases hw with ⟨rfl, x24⟩ | rfl
        · refine lv_if_eq (tgt := 101) hx hb dX12_count_94 (by decide) (fun _ => ?_) (fun z => absurd (by decide) z)
          refine lv_aload_n hx hb dX12_count_101 rfl (lv_at hl 0 rfl) ?_
          refine va_get (D := D) (ci := 12) (v := .ref a_said) (C := RX12) (T := TX12) (N := 37) hx hb hT i_X12 hown hK hP 1 rfl rfl 20 (by decide) (hT _ q_185) (fun _ h9 => h9) rfl dX12_count_102 ?_
          refine lv_bipush (v := 6) hx hb dX12_count_105 (by decide) ?_
          refine va_iald hx hb hK hP 0 0 rfl rfl (iv_vc (by decide)) dX12_count_107 ?_
          refine lv_topi (fun v25 ev25 => ?_)
          have lv25 : v25.toInt = (a_said_c 6).toInt := by rw [ev25]; rfl
          refine lv_aload_n hx hb dX12_count_108 rfl (lv_at hl 0 rfl) ?_
          refine va_get (D := D) (ci := 12) (v := .ref a_said) (C := RX12) (T := TX12) (N := 37) hx hb hT i_X12 hown hK hP 1 rfl rfl 20 (by decide) (hT _ q_185) (fun _ h9 => h9) rfl dX12_count_109 ?_
          refine lv_iconst (v := 3) hx hb dX12_count_112 (by decide) ?_
          refine va_iald hx hb hK hP 0 0 rfl rfl (iv_vc (by decide)) dX12_count_113 ?_
          refine lv_topi (fun v26 ev26 => ?_)
          have h27 : IV 0 200 v26 := (by rw [ev26]; exact bs_i3 hf0)
          have ii28 : 0 ≤ v26.toInt ∧ v26.toInt ≤ 200 := h27
          have lv26 : v26.toInt = (a_said_c 3).toInt := by rw [ev26]; rfl
          refine lv_isub hx hb dX12_count_114 ?_
          refine lv_topi (fun v29 ev29 => ?_)
          exact W.iret (v := v29) hx hb hr (fun t ht hW => ⟨⟨v29, (), rfl, (Or.inr (Or.inr (((iv_w h18 (by decide) (by decide)))))), trivial⟩, hS.F ht⟩) hS.2.2 dX12_count_115
        · refine lv_if_eq (tgt := 101) hx hb dX12_count_94 (by decide) (fun z => absurd z (by decide)) (fun _ => ?_)
          refine lv_iconst (v := 0) hx hb dX12_count_97 (by decide) ?_
          refine lv_goto (tgt := 115) hx hb dX12_count_98 (by decide) ?_
          exact W.iret (v := 0) hx hb hr (fun t ht hW => ⟨⟨0, (), rfl, (Or.inr (Or.inl (⟨rfl, h18⟩))), trivial⟩, hS.F ht⟩) hS.2.2 dX12_count_115
    · refine lv_tableIn (off := 115) (tgt := 116) hx hb dX12_count_1 (by omega) (by omega) (by rw [c1e]; rfl) (by decide) ?_
      have h30 : IV 6 6 p0 := ⟨by omega, by omega⟩
      have ii31 : 6 ≤ p0.toInt ∧ p0.toInt ≤ 6 := h30
      refine lv_aload_n hx hb dX12_count_116 rfl (lv_at hl 0 rfl) ?_
      refine va_calli (va_runV (As := []) (rest := []) ⟨hx, hb, hml, hown, hT⟩ (c_X12_atStalls l D cs kK kV a a_said a_said_c a_tape a__taped a__rules a_sign a_length a_clause a_clauses a_read a__next a__wrong a__number a__text a__made a__deep a__lines a_open a__opened a_stack a__top a_word a__x a_worth a_mate a_wasSaid a__undone a__boughtNow a_wayBy a_wayThen a__walkMost a__walkGoing a__walkSet a_kept a__drawX a_images a_imageX a_isMade h_a__taped h_a__rules h_a__next h_a__text h_a__made h_a__lines h_a__opened h_a__top h_a__x h_a__undone hf0) (cwV 0 hT (hz_gV q_1207 q_1208 q_1209 q_701 q_1210) rfl rfl rfl (by decide +kernel) ⟨(Nat.le_of_ble_eq_true rfl), (Nat.le_of_ble_eq_true rfl)⟩) ⟨hz_P.blind, va_recv hK hP (ci := 12) (q0 := 1) rfl rfl, hz_P.mk (hP.sub (ws' := [(a_said, .inl (cs 0, 123, .inl a_said_c)), (a, .inr (12, [.ref a_tape, .int a__taped, .int a__rules, .ref a_sign, .ref a_length, .ref a_clause, .ref a_clauses, .ref a_read, .int a__next, .int a__wrong, .int a__number, .int a__text, .int a__made, .int a__deep, .int a__lines, .ref a_open, .int a__opened, .ref a_stack, .int a__top, .ref a_word, .ref a_said, .int a__x, .ref a_worth, .ref a_mate, .ref a_wasSaid, .int a__undone, .int a__boughtNow, .ref a_wayBy, .ref a_wayThen, .int a__walkMost, .int a__walkGoing, .int a__walkSet, .ref a_kept, .long a__drawX, .ref a_images, .ref a_imageX, .ref a_isMade]))]) [0,1] rfl) hE hS⟩ rfl rfl hl.1 rfl (lv_room (Nat.le_of_ble_eq_true rfl)) dX12_count_117 ⟨(Nat.le_of_ble_eq_true rfl), (Nat.le_of_ble_eq_true rfl)⟩) hS (fun _ _ h => h.elim) (fun _ h => h.elim) (fun r32 u t H1 locs ht hvm hw hB hz1 hk1 hS => ?_)
      have hP := hz_keep hP hk1
      clear hk1 hB hz1
      generalize H1 = H at hP hS ⊢
      have hw_r32 := hw
      refine va_calli (va_runS (As := [.int r32]) (rest := []) ⟨hx, hb, hml, hown, hT⟩ (c_X12_bits l D cs kK kV r32) (va_cwS 1 hT (hz_gS q_1192 q_1193 q_701 q_1194) rfl rfl rfl (by decide +kernel) ⟨(Nat.le_of_ble_eq_true rfl), (Nat.le_of_ble_eq_true rfl)⟩) ⟨hz_P.blind, hz_P.mk (hP.sub (ws' := []) [] rfl) hE hS⟩ rfl rfl hl.1 rfl (lv_room (Nat.le_of_ble_eq_true rfl)) dX12_count_120 ⟨(Nat.le_of_ble_eq_true rfl), (Nat.le_of_ble_eq_true rfl)⟩) hS (fun _ _ h => h.elim) (fun _ h => h.elim) (fun r33 u t H1 locs ht hvm hw hB hz1 hk1 hS => ?_)
      have hP := hz_keep hP hk1
      clear hk1 hB hz1
      generalize H1 = H at hP hS ⊢
      exact W.iret (v := r33) hx hb hr (fun t ht hW => ⟨⟨r33, (), rfl, (Or.inr (Or.inr (((iv_w h30 (by decide) (by decide)))))), trivial⟩, hS.F ht⟩) hS.2.2 dX12_count_123
    · refine lv_tableIn (off := 123) (tgt := 124) hx hb dX12_count_1 (by omega) (by omega) (by rw [c1e]; rfl) (by decide) ?_
      have h34 : IV 7 7 p0 := ⟨by omega, by omega⟩
      have ii35 : 7 ≤ p0.toInt ∧ p0.toInt ≤ 7 := h34
      refine lv_aload_n hx hb dX12_count_124 rfl (lv_at hl 0 rfl) ?_
      refine va_get (D := D) (ci := 12) (v := .ref a_said) (C := RX12) (T := TX12) (N := 37) hx hb hT i_X12 hown hK hP 1 rfl rfl 20 (by decide) (hT _ q_185) (fun _ h9 => h9) rfl dX12_count_125 ?_
      refine lv_bipush (v := 122) hx hb dX12_count_128 (by decide) ?_
      refine va_iald hx hb hK hP 0 0 rfl rfl (iv_vc (by decide)) dX12_count_130 ?_
      refine lv_topi (fun v36 ev36 => ?_)
      have lv36 : v36.toInt = (a_said_c 122).toInt := by rw [ev36]; rfl
      exact W.iret (v := v36) hx hb hr (fun t ht hW => ⟨⟨v36, (), rfl, (Or.inr (Or.inr (((iv_w h34 (by decide) (by decide)))))), trivial⟩, hS.F ht⟩) hS.2.2 dX12_count_131
    · refine lv_tableIn (off := 131) (tgt := 132) hx hb dX12_count_1 (by omega) (by omega) (by rw [c1e]; rfl) (by decide) ?_
      have h37 : IV 8 8 p0 := ⟨by omega, by omega⟩
      have ii38 : 8 ≤ p0.toInt ∧ p0.toInt ≤ 8 := h37
      refine lv_aload_n hx hb dX12_count_132 rfl (lv_at hl 0 rfl) ?_
      refine va_get (D := D) (ci := 12) (v := .int a__undone) (C := RX12) (T := TX12) (N := 37) hx hb hT i_X12 hown hK hP 1 rfl rfl 25 (by decide) (hT _ q_205) (fun _ h9 => h9) rfl dX12_count_133 ?_
      exact W.iret (v := a__undone) hx hb hr (fun t ht hW => ⟨⟨a__undone, (), rfl, (Or.inr (Or.inr (((iv_w h37 (by decide) (by decide)))))), trivial⟩, hS.F ht⟩) hS.2.2 dX12_count_136
    · refine lv_tableIn (off := 136) (tgt := 137) hx hb dX12_count_1 (by omega) (by omega) (by rw [c1e]; rfl) (by decide) ?_
      have h39 : IV 9 9 p0 := ⟨by omega, by omega⟩
      have ii40 : 9 ≤ p0.toInt ∧ p0.toInt ≤ 9 := h39
      refine lv_aload_n hx hb dX12_count_137 rfl (lv_at hl 0 rfl) ?_
      refine va_get (D := D) (ci := 12) (v := .int a__x) (C := RX12) (T := TX12) (N := 37) hx hb hT i_X12 hown hK hP 1 rfl rfl 21 (by decide) (hT _ q_211) (fun _ h9 => h9) rfl dX12_count_138 ?_
      exact W.iret (v := a__x) hx hb hr (fun t ht hW => ⟨⟨a__x, (), rfl, (Or.inr (Or.inr (((iv_w h39 (by decide) (by decide)))))), trivial⟩, hS.F ht⟩) hS.2.2 dX12_count_141
    · refine lv_tableIn (off := 141) (tgt := 142) hx hb dX12_count_1 (by omega) (by omega) (by rw [c1e]; rfl) (by decide) ?_
      have h41 : IV 10 10 p0 := ⟨by omega, by omega⟩
      have ii42 : 10 ≤ p0.toInt ∧ p0.toInt ≤ 10 := h41
      refine lv_aload_n hx hb dX12_count_142 rfl (lv_at hl 0 rfl) ?_
      refine va_get (D := D) (ci := 12) (v := .int a__taped) (C := RX12) (T := TX12) (N := 37) hx hb hT i_X12 hown hK hP 1 rfl rfl 1 (by decide) (hT _ q_195) (fun _ h9 => h9) rfl dX12_count_143 ?_
      exact W.iret (v := a__taped) hx hb hr (fun t ht hW => ⟨⟨a__taped, (), rfl, (Or.inr (Or.inr (((iv_w h41 (by decide) (by decide)))))), trivial⟩, hS.F ht⟩) hS.2.2 dX12_count_146
theorem dX12_image_0 : decode cX12_image 0 = .ok (.iload_n 1, 1) := by decide +kernel
theorem dX12_image_1 : decode cX12_image 1 = .ok (.i2l, 1) := by decide +kernel
theorem dX12_image_2 : decode cX12_image 2 = .ok (.lconst 0, 1) := by decide +kernel
theorem dX12_image_3 : decode cX12_image 3 = .ok (.ldc2_w 504, 3) := by decide +kernel
theorem dX12_image_6 : decode cX12_image 6 = .ok (.invokestatic 109, 3) := by decide +kernel
theorem dX12_image_9 : decode cX12_image 9 = .ok (.ifCond .ne 5, 3) := by decide +kernel
theorem dX12_image_12 : decode cX12_image 12 = .ok (.iconst (-1), 1) := by decide +kernel
theorem dX12_image_13 : decode cX12_image 13 = .ok (.ireturn, 1) := by decide +kernel
theorem dX12_image_14 : decode cX12_image 14 = .ok (.aload_n 0, 1) := by decide +kernel
theorem dX12_image_15 : decode cX12_image 15 = .ok (.getfield 66, 3) := by decide +kernel
theorem dX12_image_18 : decode cX12_image 18 = .ok (.iload_n 1, 1) := by decide +kernel
theorem dX12_image_19 : decode cX12_image 19 = .ok (.iconst 1, 1) := by decide +kernel
theorem dX12_image_20 : decode cX12_image 20 = .ok (.bastore, 1) := by decide +kernel
theorem dX12_image_21 : decode cX12_image 21 = .ok (.aload_n 0, 1) := by decide +kernel
theorem dX12_image_22 : decode cX12_image 22 = .ok (.getfield 63, 3) := by decide +kernel
theorem dX12_image_25 : decode cX12_image 25 = .ok (.iload_n 1, 1) := by decide +kernel
theorem dX12_image_26 : decode cX12_image 26 = .ok (.aload_n 0, 1) := by decide +kernel
theorem dX12_image_27 : decode cX12_image 27 = .ok (.getfield 479, 3) := by decide +kernel
theorem dX12_image_30 : decode cX12_image 30 = .ok (.iastore, 1) := by decide +kernel
theorem dX12_image_31 : decode cX12_image 31 = .ok (.iconst 0, 1) := by decide +kernel
theorem dX12_image_32 : decode cX12_image 32 = .ok (.istore_n 2, 1) := by decide +kernel
theorem dX12_image_33 : decode cX12_image 33 = .ok (.iload_n 2, 1) := by decide +kernel
theorem dX12_image_34 : decode cX12_image 34 = .ok (.bipush 123, 2) := by decide +kernel
theorem dX12_image_36 : decode cX12_image 36 = .ok (.if_icmp .ge 26, 3) := by decide +kernel
theorem dX12_image_39 : decode cX12_image 39 = .ok (.aload_n 0, 1) := by decide +kernel
theorem dX12_image_40 : decode cX12_image 40 = .ok (.getfield 60, 3) := by decide +kernel
theorem dX12_image_43 : decode cX12_image 43 = .ok (.bipush 123, 2) := by decide +kernel
theorem dX12_image_45 : decode cX12_image 45 = .ok (.iload_n 1, 1) := by decide +kernel
theorem dX12_image_46 : decode cX12_image 46 = .ok (.imul, 1) := by decide +kernel
theorem dX12_image_47 : decode cX12_image 47 = .ok (.iload_n 2, 1) := by decide +kernel
theorem dX12_image_48 : decode cX12_image 48 = .ok (.iadd, 1) := by decide +kernel
theorem dX12_image_49 : decode cX12_image 49 = .ok (.aload_n 0, 1) := by decide +kernel
theorem dX12_image_50 : decode cX12_image 50 = .ok (.getfield 39, 3) := by decide +kernel
theorem dX12_image_53 : decode cX12_image 53 = .ok (.iload_n 2, 1) := by decide +kernel
theorem dX12_image_54 : decode cX12_image 54 = .ok (.iaload, 1) := by decide +kernel
theorem dX12_image_55 : decode cX12_image 55 = .ok (.iastore, 1) := by decide +kernel
theorem dX12_image_56 : decode cX12_image 56 = .ok (.iinc 2 1, 3) := by decide +kernel
theorem dX12_image_59 : decode cX12_image 59 = .ok (.goto (-26), 3) := by decide +kernel
theorem dX12_image_62 : decode cX12_image 62 = .ok (.aload_n 0, 1) := by decide +kernel
theorem dX12_image_63 : decode cX12_image 63 = .ok (.getfield 39, 3) := by decide +kernel
theorem dX12_image_66 : decode cX12_image 66 = .ok (.iconst 3, 1) := by decide +kernel
theorem dX12_image_67 : decode cX12_image 67 = .ok (.iaload, 1) := by decide +kernel
theorem dX12_image_68 : decode cX12_image 68 = .ok (.ireturn, 1) := by decide +kernel
set_option maxHeartbeats 4000000 in
set_option maxRecDepth 100000 in
theorem c_X12_image (l : Launch) (D : va_G) (cs : Nat → ClassId) (kK kV : Nat → Nat) (a : Nat) (p0 : Int32) (a_said : Nat) (a_said_c : Nat → Int32) (a_isMade : Nat) (a_isMade_c : Nat → Int32) (a_images : Nat) (a_images_c : Nat → Int32) (a_tape : Nat) (a__taped : Int32) (a__rules : Int32) (a_sign : Nat) (a_length : Nat) (a_clause : Nat) (a_clauses : Nat) (a_read : Nat) (a__next : Int32) (a__wrong : Int32) (a__number : Int32) (a__text : Int32) (a__made : Int32) (a__deep : Int32) (a__lines : Int32) (a_open : Nat) (a__opened : Int32) (a_stack : Nat) (a__top : Int32) (a_word : Nat) (a__x : Int32) (a_worth : Nat) (a_mate : Nat) (a_wasSaid : Nat) (a__undone : Int32) (a__boughtNow : Int32) (a_wayBy : Nat) (a_wayThen : Nat) (a__walkMost : Int32) (a__walkGoing : Int32) (a__walkSet : Int32) (a_kept : Nat) (a__drawX : Int64) (a_imageX : Nat) (a_imageX_c : Nat → Int32) (h_a__taped : IV 0 400 a__taped) (h_a__rules : IV 0 6 a__rules) (h_a__next : IV 0 400 a__next) (h_a__text : IV 0 6 a__text) (h_a__made : IV 0 60 a__made) (h_a__lines : IV 0 40 a__lines) (h_a__opened : IV 0 400 a__opened) (h_a__top : IV 0 64 a__top) (h_a__x : IV 0 2147483647 a__x) (h_a__undone : IV 0 20 a__undone) (h_a_imageX_c : CI 4 0 2147483647 a_imageX_c) (hf0 : BS a_said_c 200) (hf1 : TR a_said_c) (hf2 : (a_said_c 3).toInt ≤ 99) (hf3 : IMG a_isMade_c a_images_c) (sz : Nat) : Met l yX12_image (hz_w yX12_image cX12_image 3 (some .int)) ({ frames := 1, cells := 0, slots := 0, locals := 25 }) (va_Pc [.ref a, .int p0] (hz_C D cs kK kV sz [(a_said, .inl (cs 0, 123, .inl a_said_c)), (a_isMade, .inl (cs 2, 4, .inl a_isMade_c)), (a_images, .inl (cs 0, 492, .inl a_images_c)), (a, .inr (12, [.ref a_tape, .int a__taped, .int a__rules, .ref a_sign, .ref a_length, .ref a_clause, .ref a_clauses, .ref a_read, .int a__next, .int a__wrong, .int a__number, .int a__text, .int a__made, .int a__deep, .int a__lines, .ref a_open, .int a__opened, .ref a_stack, .int a__top, .ref a_word, .ref a_said, .int a__x, .ref a_worth, .ref a_mate, .ref a_wasSaid, .int a__undone, .int a__boughtNow, .ref a_wayBy, .ref a_wayThen, .int a__walkMost, .int a__walkGoing, .int a__walkSet, .ref a_kept, .long a__drawX, .ref a_images, .ref a_imageX, .ref a_isMade])), (a_imageX, .inl (cs 0, 4, .inl a_imageX_c))])) (va_Qi (fun (r : Int32) (u : (Nat → Int32) × (Nat → Nat → Int32)) => (r = (-1) ∧ CI 4 0 2147483647 (u.2 0) ∧ (IMG (u.2 2) (u.2 1)) ∧ (¬ (0 ≤ p0.toInt ∧ p0.toInt ≤ 3)) ∧ ((u.2 2) = a_isMade_c) ∧ ((u.2 0) = a_imageX_c)) ∨ (IV 0 200 r ∧ IV 0 3 p0 ∧ CI 4 0 2147483647 (u.2 0) ∧ (IMG (u.2 2) (u.2 1)) ∧ (0 ≤ p0.toInt ∧ p0.toInt ≤ 3) ∧ ((u.2 2) = upd a_isMade_c (Int32.toNatClampNeg p0) (vp_nar .boolean 1)) ∧ ((u.2 0) = upd a_imageX_c (Int32.toNatClampNeg p0) a__x))) (fun u t => va_P D classes [(a_said, .inl (cs 0, 123, .inl a_said_c)), (a_isMade, .inl (cs 2, 4, .inl (u.2 2))), (a_images, .inl (cs 0, 492, .inl (u.2 1))), (a, .inr (12, [.ref a_tape, .int a__taped, .int a__rules, .ref a_sign, .ref a_length, .ref a_clause, .ref a_clauses, .ref a_read, .int a__next, .int a__wrong, .int a__number, .int a__text, .int a__made, .int a__deep, .int a__lines, .ref a_open, .int a__opened, .ref a_stack, .int a__top, .ref a_word, .ref a_said, .int a__x, .ref a_worth, .ref a_mate, .ref a_wasSaid, .int a__undone, .int a__boughtNow, .ref a_wayBy, .ref a_wayThen, .int a__walkMost, .int a__walkGoing, .int a__walkSet, .ref a_kept, .long a__drawX, .ref a_images, .ref a_imageX, .ref a_isMade])), (a_imageX, .inl (cs 0, 4, .inl (u.2 0)))] t.heap ∧ va_D (va_A [(a_said, .inl (cs 0, 123, .inl a_said_c)), (a_isMade, .inl (cs 2, 4, .inl a_isMade_c)), (a_images, .inl (cs 0, 492, .inl a_images_c)), (a, .inr (12, [.ref a_tape, .int a__taped, .int a__rules, .ref a_sign, .ref a_length, .ref a_clause, .ref a_clauses, .ref a_read, .int a__next, .int a__wrong, .int a__number, .int a__text, .int a__made, .int a__deep, .int a__lines, .ref a_open, .int a__opened, .ref a_stack, .int a__top, .ref a_word, .ref a_said, .int a__x, .ref a_worth, .ref a_mate, .ref a_wasSaid, .int a__undone, .int a__boughtNow, .ref a_wayBy, .ref a_wayThen, .int a__walkMost, .int a__walkGoing, .int a__walkSet, .ref a_kept, .long a__drawX, .ref a_images, .ref a_imageX, .ref a_isMade])), (a_imageX, .inl (cs 0, 4, .inl a_imageX_c))] sz) [(a_said, .inl (cs 0, 123, .inl a_said_c)), (a_isMade, .inl (cs 2, 4, .inl (u.2 2))), (a_images, .inl (cs 0, 492, .inl (u.2 1))), (a, .inr (12, [.ref a_tape, .int a__taped, .int a__rules, .ref a_sign, .ref a_length, .ref a_clause, .ref a_clauses, .ref a_read, .int a__next, .int a__wrong, .int a__number, .int a__text, .int a__made, .int a__deep, .int a__lines, .ref a_open, .int a__opened, .ref a_stack, .int a__top, .ref a_word, .ref a_said, .int a__x, .ref a_worth, .ref a_mate, .ref a_wasSaid, .int a__undone, .int a__boughtNow, .ref a_wayBy, .ref a_wayThen, .int a__walkMost, .int a__walkGoing, .int a__walkSet, .ref a_kept, .long a__drawX, .ref a_images, .ref a_imageX, .ref a_isMade])), (a_imageX, .inl (cs 0, 4, .inl (u.2 0)))]) (va_A [(a_said, .inl (cs 0, 123, .inl a_said_c)), (a_isMade, .inl (cs 2, 4, .inl a_isMade_c)), (a_images, .inl (cs 0, 492, .inl a_images_c)), (a, .inr (12, [.ref a_tape, .int a__taped, .int a__rules, .ref a_sign, .ref a_length, .ref a_clause, .ref a_clauses, .ref a_read, .int a__next, .int a__wrong, .int a__number, .int a__text, .int a__made, .int a__deep, .int a__lines, .ref a_open, .int a__opened, .ref a_stack, .int a__top, .ref a_word, .ref a_said, .int a__x, .ref a_worth, .ref a_mate, .ref a_wasSaid, .int a__undone, .int a__boughtNow, .ref a_wayBy, .ref a_wayThen, .int a__walkMost, .int a__walkGoing, .int a__walkSet, .ref a_kept, .long a__drawX, .ref a_images, .ref a_imageX, .ref a_isMade])), (a_imageX, .inl (cs 0, 4, .inl a_imageX_c))] sz)) 0 0 (va_A [(a_said, .inl (cs 0, 123, .inl a_said_c)), (a_isMade, .inl (cs 2, 4, .inl a_isMade_c)), (a_images, .inl (cs 0, 492, .inl a_images_c)), (a, .inr (12, [.ref a_tape, .int a__taped, .int a__rules, .ref a_sign, .ref a_length, .ref a_clause, .ref a_clauses, .ref a_read, .int a__next, .int a__wrong, .int a__number, .int a__text, .int a__made, .int a__deep, .int a__lines, .ref a_open, .int a__opened, .ref a_stack, .int a__top, .ref a_word, .ref a_said, .int a__x, .ref a_worth, .ref a_mate, .ref a_wasSaid, .int a__undone, .int a__boughtNow, .ref a_wayBy, .ref a_wayThen, .int a__walkMost, .int a__walkGoing, .int a__walkSet, .ref a_kept, .long a__drawX, .ref a_images, .ref a_imageX, .ref a_isMade])), (a_imageX, .inl (cs 0, 4, .inl a_imageX_c))] sz) := by
  refine Met.ofW (cc := cX12_image) (maxL := 3) (ret := (some .int)) (by decide) rfl ?_
  intro p e s m args below meth c s₁ B hml hv
  obtain ⟨rfl, hsz, hP, hD0, hE⟩ := hv
  have hx := B.exec
  have hb := B.bytes
  have hr := B.returns
  have hT : ∀ w ∈ TB, w.before _ s = true := fun w h => atoms_spec (ws := hz_w yX12_image cX12_image 3 (some .int)) B.pre w (List.mem_cons_of_mem _ h)
  have hown : s.vm.findClass RX12 = some m.cls := findClass_of_methodNamed B.named
  have hlocks := B.notSynchronized
  clear B
  subst hsz
  have hD := hD0.self (sz := s.heap.size)
  generalize hAe : va_A [(a_said, .inl (cs 0, 123, .inl a_said_c)), (a_isMade, .inl (cs 2, 4, .inl a_isMade_c)), (a_images, .inl (cs 0, 492, .inl a_images_c)), (a, .inr (12, [.ref a_tape, .int a__taped, .int a__rules, .ref a_sign, .ref a_length, .ref a_clause, .ref a_clauses, .ref a_read, .int a__next, .int a__wrong, .int a__number, .int a__text, .int a__made, .int a__deep, .int a__lines, .ref a_open, .int a__opened, .ref a_stack, .int a__top, .ref a_word, .ref a_said, .int a__x, .ref a_worth, .ref a_mate, .ref a_wasSaid, .int a__undone, .int a__boughtNow, .ref a_wayBy, .ref a_wayThen, .int a__walkMost, .int a__walkGoing, .int a__walkSet, .ref a_kept, .long a__drawX, .ref a_images, .ref a_imageX, .ref a_isMade])), (a_imageX, .inl (cs 0, 4, .inl a_imageX_c))] s.heap.size = A at hD hE ⊢
  have hA : ∀ q : Nat, s.heap.size ≤ q → A q := fun q h => by rw [← hAe]; exact Or.inr h
  clear hAe hD0
  have hS : va_S A s.heap s.heap [] := va_S.rf
  have hK := hE.1
  have hl := lv_entry ([.ref a, .int p0]) (n := 3) (Nat.le_of_ble_eq_true rfl)
  rw [lg_entry_eq]
  generalize (lg_sl ([.ref a, .int p0]) ++ List.replicate (3 - (lg_sl ([.ref a, .int p0])).length) Slot.unset).toArray = ls at hl ⊢
  have hl : lv_has ls 3 [(0, .ref a), (1, .int p0)] := hl
  obtain ⟨H, eH⟩ : ∃ z, z = s.heap := ⟨_, rfl⟩
  have hP : va_P D classes [(a_said, .inl (cs 0, 123, .inl a_said_c)), (a_isMade, .inl (cs 2, 4, .inl a_isMade_c)), (a_images, .inl (cs 0, 492, .inl a_images_c)), (a, .inr (12, [.ref a_tape, .int a__taped, .int a__rules, .ref a_sign, .ref a_length, .ref a_clause, .ref a_clauses, .ref a_read, .int a__next, .int a__wrong, .int a__number, .int a__text, .int a__made, .int a__deep, .int a__lines, .ref a_open, .int a__opened, .ref a_stack, .int a__top, .ref a_word, .ref a_said, .int a__x, .ref a_worth, .ref a_mate, .ref a_wasSaid, .int a__undone, .int a__boughtNow, .ref a_wayBy, .ref a_wayThen, .int a__walkMost, .int a__walkGoing, .int a__walkSet, .ref a_kept, .long a__drawX, .ref a_images, .ref a_imageX, .ref a_isMade])), (a_imageX, .inl (cs 0, 4, .inl a_imageX_c))] H := by rw [eH]; exact hP
  have hS : va_S A s.heap H [] := by rw [eH]; exact hS
  rw [← eH]
  clear eH
  obtain ⟨locs, el⟩ : ∃ z : List Loc, z = [] := ⟨_, rfl⟩
  rw [← el] at hS ⊢
  clear el
  have z0 : (0 : Int32).toInt = 0 := by decide
  have z1 : (1 : Int32).toInt = 1 := by decide
  have zm1 : (-1 : Int32).toInt = -1 := by decide
  have i_a__lines : 0 ≤ a__lines.toInt ∧ a__lines.toInt ≤ 40 := h_a__lines
  have i_a__made : 0 ≤ a__made.toInt ∧ a__made.toInt ≤ 60 := h_a__made
  have i_a__next : 0 ≤ a__next.toInt ∧ a__next.toInt ≤ 400 := h_a__next
  have i_a__opened : 0 ≤ a__opened.toInt ∧ a__opened.toInt ≤ 400 := h_a__opened
  have i_a__rules : 0 ≤ a__rules.toInt ∧ a__rules.toInt ≤ 6 := h_a__rules
  have i_a__taped : 0 ≤ a__taped.toInt ∧ a__taped.toInt ≤ 400 := h_a__taped
  have i_a__text : 0 ≤ a__text.toInt ∧ a__text.toInt ≤ 6 := h_a__text
  have i_a__top : 0 ≤ a__top.toInt ∧ a__top.toInt ≤ 64 := h_a__top
  have i_a__undone : 0 ≤ a__undone.toInt ∧ a__undone.toInt ≤ 20 := h_a__undone
  have i_a__x : 0 ≤ a__x.toInt ∧ a__x.toInt ≤ 2147483647 := h_a__x
  have K33 : ∀ (n : Nat) (k33_L_2 : Int32) (k33_C_a_isMade : Nat → Int32) (k33_C_a_images : Nat → Int32) (k33_C_a_imageX : Nat → Int32), (123 - k33_L_2.toInt + 1).toNat ≤ n → IV 0 123 k33_L_2 → IV 0 3 p0 → CI 4 0 2147483647 k33_C_a_imageX → (CPT k33_C_a_images a_said_c (123 * p0.toInt.toNat) k33_L_2.toInt.toNat) → (∀ j : Nat, (j < 123 * p0.toInt.toNat ∨ 123 * p0.toInt.toNat + 123 ≤ j) → k33_C_a_images j = a_images_c j) → (k33_C_a_isMade = upd a_isMade_c (Int32.toNatClampNeg p0) (vp_nar .boolean 1)) → (k33_C_a_imageX = upd a_imageX_c (Int32.toNatClampNeg p0) a__x) → ∀ (H : Heap) (locs : List Loc), va_P D classes [(a_said, .inl (cs 0, 123, .inl a_said_c)), (a_isMade, .inl (cs 2, 4, .inl k33_C_a_isMade)), (a_images, .inl (cs 0, 492, .inl k33_C_a_images)), (a, .inr (12, [.ref a_tape, .int a__taped, .int a__rules, .ref a_sign, .ref a_length, .ref a_clause, .ref a_clauses, .ref a_read, .int a__next, .int a__wrong, .int a__number, .int a__text, .int a__made, .int a__deep, .int a__lines, .ref a_open, .int a__opened, .ref a_stack, .int a__top, .ref a_word, .ref a_said, .int a__x, .ref a_worth, .ref a_mate, .ref a_wasSaid, .int a__undone, .int a__boughtNow, .ref a_wayBy, .ref a_wayThen, .int a__walkMost, .int a__walkGoing, .int a__walkSet, .ref a_kept, .long a__drawX, .ref a_images, .ref a_imageX, .ref a_isMade])), (a_imageX, .inl (cs 0, 4, .inl k33_C_a_imageX))] H → va_D A [(a_said, .inl (cs 0, 123, .inl a_said_c)), (a_isMade, .inl (cs 2, 4, .inl k33_C_a_isMade)), (a_images, .inl (cs 0, 492, .inl k33_C_a_images)), (a, .inr (12, [.ref a_tape, .int a__taped, .int a__rules, .ref a_sign, .ref a_length, .ref a_clause, .ref a_clauses, .ref a_read, .int a__next, .int a__wrong, .int a__number, .int a__text, .int a__made, .int a__deep, .int a__lines, .ref a_open, .int a__opened, .ref a_stack, .int a__top, .ref a_word, .ref a_said, .int a__x, .ref a_worth, .ref a_mate, .ref a_wasSaid, .int a__undone, .int a__boughtNow, .ref a_wayBy, .ref a_wayThen, .int a__walkMost, .int a__walkGoing, .int a__walkSet, .ref a_kept, .long a__drawX, .ref a_images, .ref a_imageX, .ref a_isMade])), (a_imageX, .inl (cs 0, 4, .inl k33_C_a_imageX))] → va_S A s.heap H locs → ∀ ls : Array Slot, lv_has ls 3 [(2, .int k33_L_2), (0, .ref a), (1, .int p0)] → W p l e (headSpec (hz_w yX12_image cX12_image 3 (some .int)) ({ frames := 1, cells := 0, slots := 0, locals := 25 })).room s m [.ref a, .int p0].toArray below meth c H locs 0 0 (MQ below (va_Qi (fun (r : Int32) (u : (Nat → Int32) × (Nat → Nat → Int32)) => (r = (-1) ∧ CI 4 0 2147483647 (u.2 0) ∧ (IMG (u.2 2) (u.2 1)) ∧ (¬ (0 ≤ p0.toInt ∧ p0.toInt ≤ 3)) ∧ ((u.2 2) = a_isMade_c) ∧ ((u.2 0) = a_imageX_c)) ∨ (IV 0 200 r ∧ IV 0 3 p0 ∧ CI 4 0 2147483647 (u.2 0) ∧ (IMG (u.2 2) (u.2 1)) ∧ (0 ≤ p0.toInt ∧ p0.toInt ≤ 3) ∧ ((u.2 2) = upd a_isMade_c (Int32.toNatClampNeg p0) (vp_nar .boolean 1)) ∧ ((u.2 0) = upd a_imageX_c (Int32.toNatClampNeg p0) a__x))) (fun u t => va_P D classes [(a_said, .inl (cs 0, 123, .inl a_said_c)), (a_isMade, .inl (cs 2, 4, .inl (u.2 2))), (a_images, .inl (cs 0, 492, .inl (u.2 1))), (a, .inr (12, [.ref a_tape, .int a__taped, .int a__rules, .ref a_sign, .ref a_length, .ref a_clause, .ref a_clauses, .ref a_read, .int a__next, .int a__wrong, .int a__number, .int a__text, .int a__made, .int a__deep, .int a__lines, .ref a_open, .int a__opened, .ref a_stack, .int a__top, .ref a_word, .ref a_said, .int a__x, .ref a_worth, .ref a_mate, .ref a_wasSaid, .int a__undone, .int a__boughtNow, .ref a_wayBy, .ref a_wayThen, .int a__walkMost, .int a__walkGoing, .int a__walkSet, .ref a_kept, .long a__drawX, .ref a_images, .ref a_imageX, .ref a_isMade])), (a_imageX, .inl (cs 0, 4, .inl (u.2 0)))] t.heap ∧ va_D A [(a_said, .inl (cs 0, 123, .inl a_said_c)), (a_isMade, .inl (cs 2, 4, .inl (u.2 2))), (a_images, .inl (cs 0, 492, .inl (u.2 1))), (a, .inr (12, [.ref a_tape, .int a__taped, .int a__rules, .ref a_sign, .ref a_length, .ref a_clause, .ref a_clauses, .ref a_read, .int a__next, .int a__wrong, .int a__number, .int a__text, .int a__made, .int a__deep, .int a__lines, .ref a_open, .int a__opened, .ref a_stack, .int a__top, .ref a_word, .ref a_said, .int a__x, .ref a_worth, .ref a_mate, .ref a_wasSaid, .int a__undone, .int a__boughtNow, .ref a_wayBy, .ref a_wayThen, .int a__walkMost, .int a__walkGoing, .int a__walkSet, .ref a_kept, .long a__drawX, .ref a_images, .ref a_imageX, .ref a_isMade])), (a_imageX, .inl (cs 0, 4, .inl (u.2 0)))]) A) [.ref a, .int p0].toArray s 0 0 A) (F0 m 33 ls []) := by
    intro n
    induction n with
    | zero =>
      intro k33_L_2 k33_C_a_isMade k33_C_a_images k33_C_a_imageX hn q33_10 q33_11 z33_0 x33_0 x33_1 x33_2 x33_3 H locs hP hD hS ls hl
      exact absurd hn (by unfold IV at q33_10; omega)
    | succ n ih33 =>
      intro k33_L_2 k33_C_a_isMade k33_C_a_images k33_C_a_imageX hn q33_10 q33_11 z33_0 x33_0 x33_1 x33_2 x33_3 H locs hP hD hS ls hl
      have i_a__lines : 0 ≤ a__lines.toInt ∧ a__lines.toInt ≤ 40 := h_a__lines
      have i_a__made : 0 ≤ a__made.toInt ∧ a__made.toInt ≤ 60 := h_a__made
      have i_a__next : 0 ≤ a__next.toInt ∧ a__next.toInt ≤ 400 := h_a__next
      have i_a__opened : 0 ≤ a__opened.toInt ∧ a__opened.toInt ≤ 400 := h_a__opened
      have i_a__rules : 0 ≤ a__rules.toInt ∧ a__rules.toInt ≤ 6 := h_a__rules
      have i_a__taped : 0 ≤ a__taped.toInt ∧ a__taped.toInt ≤ 400 := h_a__taped
      have i_a__text : 0 ≤ a__text.toInt ∧ a__text.toInt ≤ 6 := h_a__text
      have i_a__top : 0 ≤ a__top.toInt ∧ a__top.toInt ≤ 64 := h_a__top
      have i_a__undone : 0 ≤ a__undone.toInt ∧ a__undone.toInt ≤ 20 := h_a__undone
      have i_a__x : 0 ≤ a__x.toInt ∧ a__x.toInt ≤ 2147483647 := h_a__x
      have i_k33_L_2 : 0 ≤ k33_L_2.toInt ∧ k33_L_2.toInt ≤ 123 := q33_10
      have i_p0 : 0 ≤ p0.toInt ∧ p0.toInt ≤ 3 := q33_11
      refine lv_iload_n hx hb dX12_image_33 rfl (lv_at hl 0 rfl) ?_
      refine lv_bipush (v := 123) hx hb dX12_image_34 (by decide) ?_
      refine lv_icmp_ge (tgt := 62) hx hb dX12_image_36 (by decide) (fun c1 => ?_) (fun c1 => ?_)
      · have t2 : k33_L_2.toInt ≥ 123 := lin_ge c1 rfl (by decide)
        have h3 : IV 123 123 k33_L_2 := iv_le2 c1 (iv_c (a := 123) (b := 123) (by decide)) q33_10 (by decide)
        have ii4 : 123 ≤ k33_L_2.toInt ∧ k33_L_2.toInt ≤ 123 := h3
        refine lv_aload_n hx hb dX12_image_62 rfl (lv_at hl 1 rfl) ?_
        refine va_get (D := D) (ci := 12) (v := .ref a_said) (C := RX12) (T := TX12) (N := 37) hx hb hT i_X12 hown hK hP 3 rfl rfl 20 (by decide) (hT _ q_185) (fun _ h9 => h9) rfl dX12_image_63 ?_
        refine lv_iconst (v := 3) hx hb dX12_image_66 (by decide) ?_
        refine va_iald hx hb hK hP 0 0 rfl rfl (iv_vc (by decide)) dX12_image_67 ?_
        refine lv_topi (fun v5 ev5 => ?_)
        have h6 : IV 0 200 v5 := (by rw [ev5]; exact bs_i3 hf0)
        have ii7 : 0 ≤ v5.toInt ∧ v5.toInt ≤ 200 := h6
        have lv5 : v5.toInt = (a_said_c 3).toInt := by rw [ev5]; rfl
        refine W.widen (k := 0) (n := 0) (Nat.le_of_ble_eq_true rfl) (Nat.le_of_ble_eq_true rfl) ?_
        have g8 : IMG k33_C_a_isMade k33_C_a_images := (img_new hf3 x33_2 ⟨by omega, by omega⟩ x33_0 (by omega) x33_1 (bs_99 hf0 (by omega)) hf1)
        have g9 : 0 ≤ p0.toInt ∧ p0.toInt ≤ 3 := (by omega)
        exact W.iret (v := v5) hx hb hr (fun t ht hW => ⟨⟨v5, (fun k => match k with | 0 => 0 | _ => 0, fun k => match k with | 0 => k33_C_a_imageX | 1 => k33_C_a_images | 2 => k33_C_a_isMade | _ => fun _ => 0), rfl, (Or.inr ((⟨h6, q33_11, z33_0, g8, g9, x33_2, x33_3⟩))), by rw [ht]; exact hP.sub [0, 1, 2, 3, 4] rfl, hD.sub [0, 1, 2, 3, 4] (by decide) rfl⟩, hS.F ht⟩) hS.2.2 dX12_image_68
      · have t10 : k33_L_2.toInt < 123 := lin_geN c1 rfl (by decide)
        have h11 : IV 0 122 k33_L_2 := iv_lt1 (Int32.not_le.mp c1) q33_10 (iv_c (a := 123) (b := 123) (by decide)) (by decide)
        have ii12 : 0 ≤ k33_L_2.toInt ∧ k33_L_2.toInt ≤ 122 := h11
        refine lv_aload_n hx hb dX12_image_39 rfl (lv_at hl 1 rfl) ?_
        refine va_get (D := D) (ci := 12) (v := .ref a_images) (C := RX12) (T := TX12) (N := 37) hx hb hT i_X12 hown hK hP 3 rfl rfl 34 (by decide) (hT _ q_192) (fun _ h9 => h9) rfl dX12_image_40 ?_
        refine lv_bipush (v := 123) hx hb dX12_image_43 (by decide) ?_
        refine lv_iload_n hx hb dX12_image_45 rfl (lv_at hl 2 rfl) ?_
        refine lv_imul hx hb dX12_image_46 ?_
        refine lv_topi (fun v13 ev13 => ?_)
        have hv13 : IV 0 369 v13 := iv_mul ev13 (iv_c (a := 123) (b := 123) (by decide)) q33_11 (by decide) (by decide) (by decide) (by decide)
        have ii14 : 0 ≤ v13.toInt ∧ v13.toInt ≤ 369 := hv13
        have lv13 : v13.toInt = 123 * p0.toInt := lin_mul ev13 (iv_c (a := 123) (b := 123) (by decide)) q33_11 (by decide) rfl (by decide) (by decide) (by decide) (by decide)
        refine lv_iload_n hx hb dX12_image_47 rfl (lv_at hl 0 rfl) ?_
        refine lv_iadd hx hb dX12_image_48 ?_
        refine lv_topi (fun v15 ev15 => ?_)
        have hv15 : IV 0 491 v15 := iv_add ev15 hv13 h11 (by decide) (by decide)
        have ii16 : 0 ≤ v15.toInt ∧ v15.toInt ≤ 491 := hv15
        have lv15 : v15.toInt = v13.toInt + k33_L_2.toInt := lin_add ev15 hv13 h11 rfl rfl (by decide) (by decide)
        refine lv_aload_n hx hb dX12_image_49 rfl (lv_at hl 1 rfl) ?_
        refine va_get (D := D) (ci := 12) (v := .ref a_said) (C := RX12) (T := TX12) (N := 37) hx hb hT i_X12 hown hK hP 3 rfl rfl 20 (by decide) (hT _ q_185) (fun _ h9 => h9) rfl dX12_image_50 ?_
        refine lv_iload_n hx hb dX12_image_53 rfl (lv_at hl 0 rfl) ?_
        refine va_iald hx hb hK hP 0 0 rfl rfl (iv_v h11 (by decide) (by decide)) dX12_image_54 ?_
        refine lv_topi (fun v17 ev17 => ?_)
        have lv17 : v17.toInt = (a_said_c (Int32.toNatClampNeg k33_L_2)).toInt := by rw [ev17]
        refine va_iast hx hb hK hP hD hS 2 0 rfl rfl (iv_v hv15 (by decide) (by decide)) dX12_image_55 (fun H locs hP hD hS => ?_)
        have hP : va_P D classes [(a_said, .inl (cs 0, 123, .inl a_said_c)), (a_isMade, .inl (cs 2, 4, .inl k33_C_a_isMade)), (a_images, .inl (cs 0, 492, .inl (upd k33_C_a_images (Int32.toNatClampNeg v15) v17))), (a, .inr (12, [.ref a_tape, .int a__taped, .int a__rules, .ref a_sign, .ref a_length, .ref a_clause, .ref a_clauses, .ref a_read, .int a__next, .int a__wrong, .int a__number, .int a__text, .int a__made, .int a__deep, .int a__lines, .ref a_open, .int a__opened, .ref a_stack, .int a__top, .ref a_word, .ref a_said, .int a__x, .ref a_worth, .ref a_mate, .ref a_wasSaid, .int a__undone, .int a__boughtNow, .ref a_wayBy, .ref a_wayThen, .int a__walkMost, .int a__walkGoing, .int a__walkSet, .ref a_kept, .long a__drawX, .ref a_images, .ref a_imageX, .ref a_isMade])), (a_imageX, .inl (cs 0, 4, .inl k33_C_a_imageX))] H := hP
        have hD : va_D A [(a_said, .inl (cs 0, 123, .inl a_said_c)), (a_isMade, .inl (cs 2, 4, .inl k33_C_a_isMade)), (a_images, .inl (cs 0, 492, .inl (upd k33_C_a_images (Int32.toNatClampNeg v15) v17))), (a, .inr (12, [.ref a_tape, .int a__taped, .int a__rules, .ref a_sign, .ref a_length, .ref a_clause, .ref a_clauses, .ref a_read, .int a__next, .int a__wrong, .int a__number, .int a__text, .int a__made, .int a__deep, .int a__lines, .ref a_open, .int a__opened, .ref a_stack, .int a__top, .ref a_word, .ref a_said, .int a__x, .ref a_worth, .ref a_mate, .ref a_wasSaid, .int a__undone, .int a__boughtNow, .ref a_wayBy, .ref a_wayThen, .int a__walkMost, .int a__walkGoing, .int a__walkSet, .ref a_kept, .long a__drawX, .ref a_images, .ref a_imageX, .ref a_isMade])), (a_imageX, .inl (cs 0, 4, .inl k33_C_a_imageX))] := hD
        obtain ⟨f18, uf18⟩ : ∃ z, z = upd k33_C_a_images (Int32.toNatClampNeg v15) v17 := ⟨_, rfl⟩
        rw [← uf18] at hP hD
        have wf18 : (f18 (Int32.toNatClampNeg v15)).toInt = v17.toInt := lin_us uf18 rfl
        obtain ⟨v19, ev19⟩ : ∃ z : Int32, z = k33_L_2 + 1 := ⟨_, rfl⟩
        have hv19 : IV 1 123 v19 := iv_add ev19 h11 (iv_c (a := 1) (b := 1) (by decide)) (by decide) (by decide)
        have dv19 : v19.toInt = k33_L_2.toInt + 1 := iv_addE ev19 h11 (iv_c (a := 1) (b := 1) (by decide)) (by decide) (by decide) (by decide)
        refine lv_iinc (v := v19) (lv' := [(2, .int v19), (0, .ref a), (1, .int p0)]) hx hb dX12_image_56 hl (k := 0) rfl (by rw [ev19]; rfl) (by decide) rfl (fun ls hl => ?_)
        refine lv_goto (tgt := 33) hx hb dX12_image_59 (by decide) ?_
        exact ih33 v19 k33_C_a_isMade f18 k33_C_a_imageX (by have h9 := h11; unfold IV at h9; have := dv19; omega) (iv_w hv19 (by decide) (by decide)) q33_11 z33_0 (cpt_step x33_0 uf18 ev17 (by omega) (by omega) (by omega)) (fun j hj => by rw [uf18, pk_un (show j ≠ Int32.toNatClampNeg v15 from (show j ≠ v15.toInt.toNat by omega))]; exact x33_1 j hj) x33_2 x33_3 H locs (hP.sub (ws' := [(a_said, .inl (cs 0, 123, .inl a_said_c)), (a_isMade, .inl (cs 2, 4, .inl k33_C_a_isMade)), (a_images, .inl (cs 0, 492, .inl f18)), (a, .inr (12, [.ref a_tape, .int a__taped, .int a__rules, .ref a_sign, .ref a_length, .ref a_clause, .ref a_clauses, .ref a_read, .int a__next, .int a__wrong, .int a__number, .int a__text, .int a__made, .int a__deep, .int a__lines, .ref a_open, .int a__opened, .ref a_stack, .int a__top, .ref a_word, .ref a_said, .int a__x, .ref a_worth, .ref a_mate, .ref a_wasSaid, .int a__undone, .int a__boughtNow, .ref a_wayBy, .ref a_wayThen, .int a__walkMost, .int a__walkGoing, .int a__walkSet, .ref a_kept, .long a__drawX, .ref a_images, .ref a_imageX, .ref a_isMade])), (a_imageX, .inl (cs 0, 4, .inl k33_C_a_imageX))]) [0, 1, 2, 3, 4] rfl) (hD.sub (ws' := [(a_said, .inl (cs 0, 123, .inl a_said_c)), (a_isMade, .inl (cs 2, 4, .inl k33_C_a_isMade)), (a_images, .inl (cs 0, 492, .inl f18)), (a, .inr (12, [.ref a_tape, .int a__taped, .int a__rules, .ref a_sign, .ref a_length, .ref a_clause, .ref a_clauses, .ref a_read, .int a__next, .int a__wrong, .int a__number, .int a__text, .int a__made, .int a__deep, .int a__lines, .ref a_open, .int a__opened, .ref a_stack, .int a__top, .ref a_word, .ref a_said, .int a__x, .ref a_worth, .ref a_mate, .ref a_wasSaid, .int a__undone, .int a__boughtNow, .ref a_wayBy, .ref a_wayThen, .int a__walkMost, .int a__walkGoing, .int a__walkSet, .ref a_kept, .long a__drawX, .ref a_images, .ref a_imageX, .ref a_isMade])), (a_imageX, .inl (cs 0, 4, .inl k33_C_a_imageX))]) [0, 1, 2, 3, 4] (by decide) rfl) hS ls (lv_sub hl [0, 1, 2] rfl)
  refine lv_iload_n hx hb dX12_image_0 rfl (lv_at hl 1 rfl) ?_
  refine lv_i2l (v := p0.toInt64) hx hb dX12_image_1 rfl ?_
  refine lv_lconst (v := 0) hx hb dX12_image_2 (by decide) ?_
  refine lv_ldc2 hx hb hown (hT _ q_1428) dX12_image_3 ?_
  refine va_calli (va_runS (As := [.long p0.toInt64, .long 0, .long 3]) (rest := []) ⟨hx, hb, hml, hown, hT⟩ (c_X12_in l D cs kK kV p0.toInt64 0 3) (va_cwS 3 hT (hz_gS q_964 q_965 q_701 q_966) rfl rfl rfl (by decide +kernel) ⟨(Nat.le_of_ble_eq_true rfl), (Nat.le_of_ble_eq_true rfl)⟩) ⟨hz_P.blind, hz_P.mk (hP.sub (ws' := []) [] rfl) hE hS⟩ rfl rfl hl.1 rfl (lv_room (Nat.le_of_ble_eq_true rfl)) dX12_image_6 ⟨(Nat.le_of_ble_eq_true rfl), (Nat.le_of_ble_eq_true rfl)⟩) hS (fun _ _ h => h.elim) (fun _ h => h.elim) (fun r20 u t H1 locs ht hvm hw hB hz1 hk1 hS => ?_)
  have hP := hz_keep hP hk1
  clear hk1 hB hz1
  generalize H1 = H at hP hS ⊢
  rcases hw with ⟨rfl, x21⟩ | ⟨rfl, x22, x23⟩
  · have h24 : IV (-2147483648) 3 (¬ (((0 : Int64)) ≤ p0.toInt64 ∧ p0) := ⟨iv_top.1, l64_lec x21 (by decide)⟩
    have ii25 : (-2147483648) ≤ (¬ (((0 : Int64)) ≤ p0.toInt64 ∧ p0).toInt ∧ (¬ (((0 : Int64)) ≤ p0.toInt64 ∧ p0).toInt ≤ 3 := h24
    have t26 : ¬ (0 ≤ p0.toInt ∧ p0.toInt ≤ 3) := fun z => x21 ⟨l64_clI z.1 (by decide), l64_lcI z.2 (by decide)⟩
    refine lv_if_ne (tgt := 14) hx hb dX12_image_9 (by decide) (fun z => absurd (by decide) z) (fun _ => ?_)
    refine lv_iconst (v := (-1)) hx hb dX12_image_12 (by decide) ?_
    refine W.widen (k := 0) (n := 0) (Nat.le_of_ble_eq_true rfl) (Nat.le_of_ble_eq_true rfl) ?_
    have g27 : ¬ (0 ≤ p0.toInt ∧ p0.toInt ≤ 3) := (by assumption)
    have g28 : a_isMade_c = a_isMade_c := (rfl)
    have g29 : a_imageX_c = a_imageX_c := (rfl)
    exact W.iret (v := (-1)) hx hb hr (fun t ht hW => ⟨⟨(-1), (fun k => match k with | 0 => 0 | _ => 0, fun k => match k with | 0 => a_imageX_c | 1 => a_images_c | 2 => a_isMade_c | _ => fun _ => 0), rfl, (Or.inl (⟨rfl, h_a_imageX_c, hf3, g27, g28, g29⟩)), by rw [ht]; exact hP.sub [0, 1, 2, 3, 4] rfl, hD.sub [0, 1, 2, 3, 4] (by decide) rfl⟩, hS.F ht⟩) hS.2.2 dX12_image_13
  · have h30 : IV 0 2147483647 p0 := ⟨l64_cle x22 (by decide), iv_top.2⟩
    have ii31 : 0 ≤ p0.toInt ∧ p0.toInt ≤ 2147483647 := h30
    have h32 : IV 0 3 p0 := ⟨(h30).1, l64_lec x23 (by decide)⟩
    have ii33 : 0 ≤ p0.toInt ∧ p0.toInt ≤ 3 := h32
    refine lv_if_ne (tgt := 14) hx hb dX12_image_9 (by decide) (fun _ => ?_) (fun z => absurd z (by decide))
    refine lv_aload_n hx hb dX12_image_14 rfl (lv_at hl 0 rfl) ?_
    refine va_get (D := D) (ci := 12) (v := .ref a_isMade) (C := RX12) (T := TX12) (N := 37) hx hb hT i_X12 hown hK hP 3 rfl rfl 36 (by decide) (hT _ q_194) (fun _ h9 => h9) rfl dX12_image_15 ?_
    refine lv_iload_n hx hb dX12_image_18 rfl (lv_at hl 1 rfl) ?_
    refine lv_iconst (v := 1) hx hb dX12_image_19 (by decide) ?_
    refine va_zast hx hb hK hP hD hS 1 2 rfl rfl (iv_v h32 (by decide) (by decide)) dX12_image_20 (fun H locs hP hD hS => ?_)
    have hP : va_P D classes [(a_said, .inl (cs 0, 123, .inl a_said_c)), (a_isMade, .inl (cs 2, 4, .inl (upd a_isMade_c (Int32.toNatClampNeg p0) (vp_nar .boolean (1 : Int32))))), (a_images, .inl (cs 0, 492, .inl a_images_c)), (a, .inr (12, [.ref a_tape, .int a__taped, .int a__rules, .ref a_sign, .ref a_length, .ref a_clause, .ref a_clauses, .ref a_read, .int a__next, .int a__wrong, .int a__number, .int a__text, .int a__made, .int a__deep, .int a__lines, .ref a_open, .int a__opened, .ref a_stack, .int a__top, .ref a_word, .ref a_said, .int a__x, .ref a_worth, .ref a_mate, .ref a_wasSaid, .int a__undone, .int a__boughtNow, .ref a_wayBy, .ref a_wayThen, .int a__walkMost, .int a__walkGoing, .int a__walkSet, .ref a_kept, .long a__drawX, .ref a_images, .ref a_imageX, .ref a_isMade])), (a_imageX, .inl (cs 0, 4, .inl a_imageX_c))] H := hP
    have hD : va_D A [(a_said, .inl (cs 0, 123, .inl a_said_c)), (a_isMade, .inl (cs 2, 4, .inl (upd a_isMade_c (Int32.toNatClampNeg p0) (vp_nar .boolean (1 : Int32))))), (a_images, .inl (cs 0, 492, .inl a_images_c)), (a, .inr (12, [.ref a_tape, .int a__taped, .int a__rules, .ref a_sign, .ref a_length, .ref a_clause, .ref a_clauses, .ref a_read, .int a__next, .int a__wrong, .int a__number, .int a__text, .int a__made, .int a__deep, .int a__lines, .ref a_open, .int a__opened, .ref a_stack, .int a__top, .ref a_word, .ref a_said, .int a__x, .ref a_worth, .ref a_mate, .ref a_wasSaid, .int a__undone, .int a__boughtNow, .ref a_wayBy, .ref a_wayThen, .int a__walkMost, .int a__walkGoing, .int a__walkSet, .ref a_kept, .long a__drawX, .ref a_images, .ref a_imageX, .ref a_isMade])), (a_imageX, .inl (cs 0, 4, .inl a_imageX_c))] := hD
    generalize upd a_isMade_c (Int32.toNatClampNeg p0) (vp_nar .boolean (1 : Int32)) = f34 at hP hD
    refine lv_aload_n hx hb dX12_image_21 rfl (lv_at hl 0 rfl) ?_
    refine va_get (D := D) (ci := 12) (v := .ref a_imageX) (C := RX12) (T := TX12) (N := 37) hx hb hT i_X12 hown hK hP 3 rfl rfl 35 (by decide) (hT _ q_193) (fun _ h9 => h9) rfl dX12_image_22 ?_
    refine lv_iload_n hx hb dX12_image_25 rfl (lv_at hl 1 rfl) ?_
    refine lv_aload_n hx hb dX12_image_26 rfl (lv_at hl 0 rfl) ?_
    refine va_get (D := D) (ci := 12) (v := .int a__x) (C := RX12) (T := TX12) (N := 37) hx hb hT i_X12 hown hK hP 3 rfl rfl 21 (by decide) (hT _ q_211) (fun _ h9 => h9) rfl dX12_image_27 ?_
    refine va_iast hx hb hK hP hD hS 4 0 rfl rfl (iv_v h32 (by decide) (by decide)) dX12_image_30 (fun H locs hP hD hS => ?_)
    have hf35 := ci_upd (i := p0) h_a_imageX_c h_a__x
    have hP : va_P D classes [(a_said, .inl (cs 0, 123, .inl a_said_c)), (a_isMade, .inl (cs 2, 4, .inl f34)), (a_images, .inl (cs 0, 492, .inl a_images_c)), (a, .inr (12, [.ref a_tape, .int a__taped, .int a__rules, .ref a_sign, .ref a_length, .ref a_clause, .ref a_clauses, .ref a_read, .int a__next, .int a__wrong, .int a__number, .int a__text, .int a__made, .int a__deep, .int a__lines, .ref a_open, .int a__opened, .ref a_stack, .int a__top, .ref a_word, .ref a_said, .int a__x, .ref a_worth, .ref a_mate, .ref a_wasSaid, .int a__undone, .int a__boughtNow, .ref a_wayBy, .ref a_wayThen, .int a__walkMost, .int a__walkGoing, .int a__walkSet, .ref a_kept, .long a__drawX, .ref a_images, .ref a_imageX, .ref a_isMade])), (a_imageX, .inl (cs 0, 4, .inl (upd a_imageX_c (Int32.toNatClampNeg p0) a__x)))] H := hP
    have hD : va_D A [(a_said, .inl (cs 0, 123, .inl a_said_c)), (a_isMade, .inl (cs 2, 4, .inl f34)), (a_images, .inl (cs 0, 492, .inl a_images_c)), (a, .inr (12, [.ref a_tape, .int a__taped, .int a__rules, .ref a_sign, .ref a_length, .ref a_clause, .ref a_clauses, .ref a_read, .int a__next, .int a__wrong, .int a__number, .int a__text, .int a__made, .int a__deep, .int a__lines, .ref a_open, .int a__opened, .ref a_stack, .int a__top, .ref a_word, .ref a_said, .int a__x, .ref a_worth, .ref a_mate, .ref a_wasSaid, .int a__undone, .int a__boughtNow, .ref a_wayBy, .ref a_wayThen, .int a__walkMost, .int a__walkGoing, .int a__walkSet, .ref a_kept, .long a__drawX, .ref a_images, .ref a_imageX, .ref a_isMade])), (a_imageX, .inl (cs 0, 4, .inl (upd a_imageX_c (Int32.toNatClampNeg p0) a__x)))] := hD
    obtain ⟨f35, uf35⟩ : ∃ z, z = upd a_imageX_c (Int32.toNatClampNeg p0) a__x := ⟨_, rfl⟩
    rw [← uf35] at hP hD hf35
    have wf35 : (f35 (Int32.toNatClampNeg p0)).toInt = a__x.toInt := lin_us uf35 rfl
    refine lv_iconst (v := 0) hx hb dX12_image_31 (by decide) ?_
    refine lv_istore_n (lv' := [(2, .int 0), (0, .ref a), (1, .int p0)]) hx hb dX12_image_32 rfl hl (by decide) rfl (fun ls hl => ?_)
    exact K33 _ ((0 : Int32)) f34 a_images_c f35 (Nat.le_refl _) (iv_c (by decide)) h32 hf35 (cpt_0) (fun _ _ => rfl) uf34 uf35 H locs (hP.sub (ws' := [(a_said, .inl (cs 0, 123, .inl a_said_c)), (a_isMade, .inl (cs 2, 4, .inl f34)), (a_images, .inl (cs 0, 492, .inl a_images_c)), (a, .inr (12, [.ref a_tape, .int a__taped, .int a__rules, .ref a_sign, .ref a_length, .ref a_clause, .ref a_clauses, .ref a_read, .int a__next, .int a__wrong, .int a__number, .int a__text, .int a__made, .int a__deep, .int a__lines, .ref a_open, .int a__opened, .ref a_stack, .int a__top, .ref a_word, .ref a_said, .int a__x, .ref a_worth, .ref a_mate, .ref a_wasSaid, .int a__undone, .int a__boughtNow, .ref a_wayBy, .ref a_wayThen, .int a__walkMost, .int a__walkGoing, .int a__walkSet, .ref a_kept, .long a__drawX, .ref a_images, .ref a_imageX, .ref a_isMade])), (a_imageX, .inl (cs 0, 4, .inl f35))]) [0, 1, 2, 3, 4] rfl) (hD.sub (ws' := [(a_said, .inl (cs 0, 123, .inl a_said_c)), (a_isMade, .inl (cs 2, 4, .inl f34)), (a_images, .inl (cs 0, 492, .inl a_images_c)), (a, .inr (12, [.ref a_tape, .int a__taped, .int a__rules, .ref a_sign, .ref a_length, .ref a_clause, .ref a_clauses, .ref a_read, .int a__next, .int a__wrong, .int a__number, .int a__text, .int a__made, .int a__deep, .int a__lines, .ref a_open, .int a__opened, .ref a_stack, .int a__top, .ref a_word, .ref a_said, .int a__x, .ref a_worth, .ref a_mate, .ref a_wasSaid, .int a__undone, .int a__boughtNow, .ref a_wayBy, .ref a_wayThen, .int a__walkMost, .int a__walkGoing, .int a__walkSet, .ref a_kept, .long a__drawX, .ref a_images, .ref a_imageX, .ref a_isMade])), (a_imageX, .inl (cs 0, 4, .inl f35))]) [0, 1, 2, 3, 4] (by decide) rfl) hS ls (lv_sub hl [0, 1, 2] rfl)
theorem dX12_back_0 : decode cX12_back 0 = .ok (.iload_n 1, 1) := by decide +kernel
theorem dX12_back_1 : decode cX12_back 1 = .ok (.i2l, 1) := by decide +kernel
theorem dX12_back_2 : decode cX12_back 2 = .ok (.lconst 0, 1) := by decide +kernel
theorem dX12_back_3 : decode cX12_back 3 = .ok (.ldc2_w 504, 3) := by decide +kernel
theorem dX12_back_6 : decode cX12_back 6 = .ok (.invokestatic 109, 3) := by decide +kernel
theorem dX12_back_9 : decode cX12_back 9 = .ok (.ifCond .eq 12, 3) := by decide +kernel
theorem dX12_back_12 : decode cX12_back 12 = .ok (.aload_n 0, 1) := by decide +kernel
theorem dX12_back_13 : decode cX12_back 13 = .ok (.getfield 66, 3) := by decide +kernel
theorem dX12_back_16 : decode cX12_back 16 = .ok (.iload_n 1, 1) := by decide +kernel
theorem dX12_back_17 : decode cX12_back 17 = .ok (.baload, 1) := by decide +kernel
theorem dX12_back_18 : decode cX12_back 18 = .ok (.ifCond .ne 5, 3) := by decide +kernel
theorem dX12_back_21 : decode cX12_back 21 = .ok (.iconst (-1), 1) := by decide +kernel
theorem dX12_back_22 : decode cX12_back 22 = .ok (.ireturn, 1) := by decide +kernel
theorem dX12_back_23 : decode cX12_back 23 = .ok (.aload_n 0, 1) := by decide +kernel
theorem dX12_back_24 : decode cX12_back 24 = .ok (.aload_n 0, 1) := by decide +kernel
theorem dX12_back_25 : decode cX12_back 25 = .ok (.getfield 63, 3) := by decide +kernel
theorem dX12_back_28 : decode cX12_back 28 = .ok (.iload_n 1, 1) := by decide +kernel
theorem dX12_back_29 : decode cX12_back 29 = .ok (.iaload, 1) := by decide +kernel
theorem dX12_back_30 : decode cX12_back 30 = .ok (.putfield 479, 3) := by decide +kernel
theorem dX12_back_33 : decode cX12_back 33 = .ok (.aload_n 0, 1) := by decide +kernel
theorem dX12_back_34 : decode cX12_back 34 = .ok (.iconst 0, 1) := by decide +kernel
theorem dX12_back_35 : decode cX12_back 35 = .ok (.putfield 274, 3) := by decide +kernel
theorem dX12_back_38 : decode cX12_back 38 = .ok (.iconst 0, 1) := by decide +kernel
theorem dX12_back_39 : decode cX12_back 39 = .ok (.istore_n 2, 1) := by decide +kernel
theorem dX12_back_40 : decode cX12_back 40 = .ok (.iload_n 2, 1) := by decide +kernel
theorem dX12_back_41 : decode cX12_back 41 = .ok (.bipush 123, 2) := by decide +kernel
theorem dX12_back_43 : decode cX12_back 43 = .ok (.if_icmp .ge 26, 3) := by decide +kernel
theorem dX12_back_46 : decode cX12_back 46 = .ok (.aload_n 0, 1) := by decide +kernel
theorem dX12_back_47 : decode cX12_back 47 = .ok (.getfield 39, 3) := by decide +kernel
theorem dX12_back_50 : decode cX12_back 50 = .ok (.iload_n 2, 1) := by decide +kernel
theorem dX12_back_51 : decode cX12_back 51 = .ok (.aload_n 0, 1) := by decide +kernel
theorem dX12_back_52 : decode cX12_back 52 = .ok (.getfield 60, 3) := by decide +kernel
theorem dX12_back_55 : decode cX12_back 55 = .ok (.bipush 123, 2) := by decide +kernel
theorem dX12_back_57 : decode cX12_back 57 = .ok (.iload_n 1, 1) := by decide +kernel
theorem dX12_back_58 : decode cX12_back 58 = .ok (.imul, 1) := by decide +kernel
theorem dX12_back_59 : decode cX12_back 59 = .ok (.iload_n 2, 1) := by decide +kernel
theorem dX12_back_60 : decode cX12_back 60 = .ok (.iadd, 1) := by decide +kernel
theorem dX12_back_61 : decode cX12_back 61 = .ok (.iaload, 1) := by decide +kernel
theorem dX12_back_62 : decode cX12_back 62 = .ok (.iastore, 1) := by decide +kernel
theorem dX12_back_63 : decode cX12_back 63 = .ok (.iinc 2 1, 3) := by decide +kernel
theorem dX12_back_66 : decode cX12_back 66 = .ok (.goto (-26), 3) := by decide +kernel
theorem dX12_back_69 : decode cX12_back 69 = .ok (.aload_n 0, 1) := by decide +kernel
theorem dX12_back_70 : decode cX12_back 70 = .ok (.invokevirtual 280, 3) := by decide +kernel
theorem dX12_back_73 : decode cX12_back 73 = .ok (.aload_n 0, 1) := by decide +kernel
theorem dX12_back_74 : decode cX12_back 74 = .ok (.getfield 39, 3) := by decide +kernel
theorem dX12_back_77 : decode cX12_back 77 = .ok (.iconst 3, 1) := by decide +kernel
theorem dX12_back_78 : decode cX12_back 78 = .ok (.iaload, 1) := by decide +kernel
theorem dX12_back_79 : decode cX12_back 79 = .ok (.ireturn, 1) := by decide +kernel
set_option maxHeartbeats 4000000 in
set_option maxRecDepth 100000 in
theorem c_X12_back (l : Launch) (D : va_G) (cs : Nat → ClassId) (kK kV : Nat → Nat) (a : Nat) (p0 : Int32) (a_said : Nat) (a_said_c : Nat → Int32) (a_isMade : Nat) (a_isMade_c : Nat → Int32) (a_images : Nat) (a_images_c : Nat → Int32) (a_wasSaid : Nat) (a_wasSaid_c : Nat → Int32) (a_tape : Nat) (a__taped : Int32) (a__rules : Int32) (a_sign : Nat) (a_length : Nat) (a_clause : Nat) (a_clauses : Nat) (a_read : Nat) (a__next : Int32) (a__wrong : Int32) (a__number : Int32) (a__text : Int32) (a__made : Int32) (a__deep : Int32) (a__lines : Int32) (a_open : Nat) (a__opened : Int32) (a_stack : Nat) (a__top : Int32) (a_word : Nat) (a__x : Int32) (a_worth : Nat) (a_mate : Nat) (a__undone : Int32) (a__boughtNow : Int32) (a_wayBy : Nat) (a_wayThen : Nat) (a__walkMost : Int32) (a__walkGoing : Int32) (a__walkSet : Int32) (a_kept : Nat) (a__drawX : Int64) (a_imageX : Nat) (a_imageX_c : Nat → Int32) (a_worth_c : Nat → Int32) (a_mate_c : Nat → Int32) (h_a__taped : IV 0 400 a__taped) (h_a__rules : IV 0 6 a__rules) (h_a__next : IV 0 400 a__next) (h_a__text : IV 0 6 a__text) (h_a__made : IV 0 60 a__made) (h_a__lines : IV 0 40 a__lines) (h_a__opened : IV 0 400 a__opened) (h_a__top : IV 0 64 a__top) (h_a__x : IV 0 2147483647 a__x) (h_a__undone : IV 0 20 a__undone) (h_a_imageX_c : CI 4 0 2147483647 a_imageX_c) (h_a_mate_c : CI 4096 (-1) 11 a_mate_c) (hf0 : BS a_said_c 200) (hf1 : TR a_said_c) (hf2 : (a_said_c 3).toInt ≤ 99) (hf3 : IMG a_isMade_c a_images_c) (hf4 : WSN a_wasSaid_c a__undone.toInt) (sz : Nat) : Met l yX12_back (hz_w yX12_back cX12_back 3 (some .int)) ({ frames := 4, cells := 0, slots := 0, locals := 93 }) (va_Pc [.ref a, .int p0] (hz_C D cs kK kV sz [(a_said, .inl (cs 0, 123, .inl a_said_c)), (a_isMade, .inl (cs 2, 4, .inl a_isMade_c)), (a_images, .inl (cs 0, 492, .inl a_images_c)), (a_wasSaid, .inl (cs 0, 1720, .inl a_wasSaid_c)), (a, .inr (12, [.ref a_tape, .int a__taped, .int a__rules, .ref a_sign, .ref a_length, .ref a_clause, .ref a_clauses, .ref a_read, .int a__next, .int a__wrong, .int a__number, .int a__text, .int a__made, .int a__deep, .int a__lines, .ref a_open, .int a__opened, .ref a_stack, .int a__top, .ref a_word, .ref a_said, .int a__x, .ref a_worth, .ref a_mate, .ref a_wasSaid, .int a__undone, .int a__boughtNow, .ref a_wayBy, .ref a_wayThen, .int a__walkMost, .int a__walkGoing, .int a__walkSet, .ref a_kept, .long a__drawX, .ref a_images, .ref a_imageX, .ref a_isMade])), (a_imageX, .inl (cs 0, 4, .inl a_imageX_c)), (a_worth, .inl (cs 0, 4096, .inl a_worth_c)), (a_mate, .inl (cs 0, 4096, .inl a_mate_c))])) (va_Qi (fun (r : Int32) (u : (Nat → Int32) × (Nat → Nat → Int32)) => (r = (-1) ∧ IV 0 2147483647 (u.1 1) ∧ IV 0 20 (u.1 2) ∧ CI 4096 (-1) 11 (u.2 0) ∧ (BS (u.2 1) 200) ∧ (TR (u.2 1)) ∧ (((u.2 1) 3).toInt ≤ 99) ∧ (WSN a_wasSaid_c (u.1 2).toInt) ∧ (¬ (0 ≤ p0.toInt ∧ p0.toInt ≤ 3) ∨ (a_isMade_c (Int32.toNatClampNeg p0)).toInt = 0) ∧ ((u.1 1) = a__x)) ∨ (IV 0 99 r ∧ IV 0 3 p0 ∧ IV 0 2147483647 (u.1 1) ∧ IV 0 0 (u.1 2) ∧ CI 4096 (-1) 11 (u.2 0) ∧ (BS (u.2 1) 200) ∧ (TR (u.2 1)) ∧ (((u.2 1) 3).toInt ≤ 99) ∧ (WSN a_wasSaid_c (u.1 2).toInt) ∧ (0 ≤ p0.toInt ∧ p0.toInt ≤ 3) ∧ ((a_isMade_c (Int32.toNatClampNeg p0)).toInt ≠ 0) ∧ ((u.1 1) = a_imageX_c (Int32.toNatClampNeg p0)))) (fun u t => va_P D classes [(a_said, .inl (cs 0, 123, .inl (u.2 1))), (a_isMade, .inl (cs 2, 4, .inl a_isMade_c)), (a_images, .inl (cs 0, 492, .inl a_images_c)), (a_wasSaid, .inl (cs 0, 1720, .inl a_wasSaid_c)), (a, .inr (12, [.ref a_tape, .int a__taped, .int a__rules, .ref a_sign, .ref a_length, .ref a_clause, .ref a_clauses, .ref a_read, .int a__next, .int a__wrong, .int a__number, .int a__text, .int a__made, .int a__deep, .int a__lines, .ref a_open, .int a__opened, .ref a_stack, .int a__top, .ref a_word, .ref a_said, .int (u.1 1), .ref a_worth, .ref a_mate, .ref a_wasSaid, .int (u.1 2), .int a__boughtNow, .ref a_wayBy, .ref a_wayThen, .int a__walkMost, .int a__walkGoing, .int a__walkSet, .ref a_kept, .long a__drawX, .ref a_images, .ref a_imageX, .ref a_isMade])), (a_imageX, .inl (cs 0, 4, .inl a_imageX_c)), (a_worth, .inl (cs 0, 4096, .inl (u.2 2))), (a_mate, .inl (cs 0, 4096, .inl (u.2 0)))] t.heap ∧ va_D (va_A [(a_said, .inl (cs 0, 123, .inl a_said_c)), (a_isMade, .inl (cs 2, 4, .inl a_isMade_c)), (a_images, .inl (cs 0, 492, .inl a_images_c)), (a_wasSaid, .inl (cs 0, 1720, .inl a_wasSaid_c)), (a, .inr (12, [.ref a_tape, .int a__taped, .int a__rules, .ref a_sign, .ref a_length, .ref a_clause, .ref a_clauses, .ref a_read, .int a__next, .int a__wrong, .int a__number, .int a__text, .int a__made, .int a__deep, .int a__lines, .ref a_open, .int a__opened, .ref a_stack, .int a__top, .ref a_word, .ref a_said, .int a__x, .ref a_worth, .ref a_mate, .ref a_wasSaid, .int a__undone, .int a__boughtNow, .ref a_wayBy, .ref a_wayThen, .int a__walkMost, .int a__walkGoing, .int a__walkSet, .ref a_kept, .long a__drawX, .ref a_images, .ref a_imageX, .ref a_isMade])), (a_imageX, .inl (cs 0, 4, .inl a_imageX_c)), (a_worth, .inl (cs 0, 4096, .inl a_worth_c)), (a_mate, .inl (cs 0, 4096, .inl a_mate_c))] sz) [(a_said, .inl (cs 0, 123, .inl (u.2 1))), (a_isMade, .inl (cs 2, 4, .inl a_isMade_c)), (a_images, .inl (cs 0, 492, .inl a_images_c)), (a_wasSaid, .inl (cs 0, 1720, .inl a_wasSaid_c)), (a, .inr (12, [.ref a_tape, .int a__taped, .int a__rules, .ref a_sign, .ref a_length, .ref a_clause, .ref a_clauses, .ref a_read, .int a__next, .int a__wrong, .int a__number, .int a__text, .int a__made, .int a__deep, .int a__lines, .ref a_open, .int a__opened, .ref a_stack, .int a__top, .ref a_word, .ref a_said, .int (u.1 1), .ref a_worth, .ref a_mate, .ref a_wasSaid, .int (u.1 2), .int a__boughtNow, .ref a_wayBy, .ref a_wayThen, .int a__walkMost, .int a__walkGoing, .int a__walkSet, .ref a_kept, .long a__drawX, .ref a_images, .ref a_imageX, .ref a_isMade])), (a_imageX, .inl (cs 0, 4, .inl a_imageX_c)), (a_worth, .inl (cs 0, 4096, .inl (u.2 2))), (a_mate, .inl (cs 0, 4096, .inl (u.2 0)))]) (va_A [(a_said, .inl (cs 0, 123, .inl a_said_c)), (a_isMade, .inl (cs 2, 4, .inl a_isMade_c)), (a_images, .inl (cs 0, 492, .inl a_images_c)), (a_wasSaid, .inl (cs 0, 1720, .inl a_wasSaid_c)), (a, .inr (12, [.ref a_tape, .int a__taped, .int a__rules, .ref a_sign, .ref a_length, .ref a_clause, .ref a_clauses, .ref a_read, .int a__next, .int a__wrong, .int a__number, .int a__text, .int a__made, .int a__deep, .int a__lines, .ref a_open, .int a__opened, .ref a_stack, .int a__top, .ref a_word, .ref a_said, .int a__x, .ref a_worth, .ref a_mate, .ref a_wasSaid, .int a__undone, .int a__boughtNow, .ref a_wayBy, .ref a_wayThen, .int a__walkMost, .int a__walkGoing, .int a__walkSet, .ref a_kept, .long a__drawX, .ref a_images, .ref a_imageX, .ref a_isMade])), (a_imageX, .inl (cs 0, 4, .inl a_imageX_c)), (a_worth, .inl (cs 0, 4096, .inl a_worth_c)), (a_mate, .inl (cs 0, 4096, .inl a_mate_c))] sz)) 0 0 (va_A [(a_said, .inl (cs 0, 123, .inl a_said_c)), (a_isMade, .inl (cs 2, 4, .inl a_isMade_c)), (a_images, .inl (cs 0, 492, .inl a_images_c)), (a_wasSaid, .inl (cs 0, 1720, .inl a_wasSaid_c)), (a, .inr (12, [.ref a_tape, .int a__taped, .int a__rules, .ref a_sign, .ref a_length, .ref a_clause, .ref a_clauses, .ref a_read, .int a__next, .int a__wrong, .int a__number, .int a__text, .int a__made, .int a__deep, .int a__lines, .ref a_open, .int a__opened, .ref a_stack, .int a__top, .ref a_word, .ref a_said, .int a__x, .ref a_worth, .ref a_mate, .ref a_wasSaid, .int a__undone, .int a__boughtNow, .ref a_wayBy, .ref a_wayThen, .int a__walkMost, .int a__walkGoing, .int a__walkSet, .ref a_kept, .long a__drawX, .ref a_images, .ref a_imageX, .ref a_isMade])), (a_imageX, .inl (cs 0, 4, .inl a_imageX_c)), (a_worth, .inl (cs 0, 4096, .inl a_worth_c)), (a_mate, .inl (cs 0, 4096, .inl a_mate_c))] sz) := by
  refine Met.ofW (cc := cX12_back) (maxL := 3) (ret := (some .int)) (by decide) rfl ?_
  intro p e s m args below meth c s₁ B hml hv
  obtain ⟨rfl, hsz, hP, hD0, hE⟩ := hv
  have hx := B.exec
  have hb := B.bytes
  have hr := B.returns
  have hT : ∀ w ∈ TB, w.before _ s = true := fun w h => atoms_spec (ws := hz_w yX12_back cX12_back 3 (some .int)) B.pre w (List.mem_cons_of_mem _ h)
  have hown : s.vm.findClass RX12 = some m.cls := findClass_of_methodNamed B.named
  have hlocks := B.notSynchronized
  clear B
  subst hsz
  have hD := hD0.self (sz := s.heap.size)
  generalize hAe : va_A [(a_said, .inl (cs 0, 123, .inl a_said_c)), (a_isMade, .inl (cs 2, 4, .inl a_isMade_c)), (a_images, .inl (cs 0, 492, .inl a_images_c)), (a_wasSaid, .inl (cs 0, 1720, .inl a_wasSaid_c)), (a, .inr (12, [.ref a_tape, .int a__taped, .int a__rules, .ref a_sign, .ref a_length, .ref a_clause, .ref a_clauses, .ref a_read, .int a__next, .int a__wrong, .int a__number, .int a__text, .int a__made, .int a__deep, .int a__lines, .ref a_open, .int a__opened, .ref a_stack, .int a__top, .ref a_word, .ref a_said, .int a__x, .ref a_worth, .ref a_mate, .ref a_wasSaid, .int a__undone, .int a__boughtNow, .ref a_wayBy, .ref a_wayThen, .int a__walkMost, .int a__walkGoing, .int a__walkSet, .ref a_kept, .long a__drawX, .ref a_images, .ref a_imageX, .ref a_isMade])), (a_imageX, .inl (cs 0, 4, .inl a_imageX_c)), (a_worth, .inl (cs 0, 4096, .inl a_worth_c)), (a_mate, .inl (cs 0, 4096, .inl a_mate_c))] s.heap.size = A at hD hE ⊢
  have hA : ∀ q : Nat, s.heap.size ≤ q → A q := fun q h => by rw [← hAe]; exact Or.inr h
  clear hAe hD0
  have hS : va_S A s.heap s.heap [] := va_S.rf
  have hK := hE.1
  have hl := lv_entry ([.ref a, .int p0]) (n := 3) (Nat.le_of_ble_eq_true rfl)
  rw [lg_entry_eq]
  generalize (lg_sl ([.ref a, .int p0]) ++ List.replicate (3 - (lg_sl ([.ref a, .int p0])).length) Slot.unset).toArray = ls at hl ⊢
  have hl : lv_has ls 3 [(0, .ref a), (1, .int p0)] := hl
  obtain ⟨H, eH⟩ : ∃ z, z = s.heap := ⟨_, rfl⟩
  have hP : va_P D classes [(a_said, .inl (cs 0, 123, .inl a_said_c)), (a_isMade, .inl (cs 2, 4, .inl a_isMade_c)), (a_images, .inl (cs 0, 492, .inl a_images_c)), (a_wasSaid, .inl (cs 0, 1720, .inl a_wasSaid_c)), (a, .inr (12, [.ref a_tape, .int a__taped, .int a__rules, .ref a_sign, .ref a_length, .ref a_clause, .ref a_clauses, .ref a_read, .int a__next, .int a__wrong, .int a__number, .int a__text, .int a__made, .int a__deep, .int a__lines, .ref a_open, .int a__opened, .ref a_stack, .int a__top, .ref a_word, .ref a_said, .int a__x, .ref a_worth, .ref a_mate, .ref a_wasSaid, .int a__undone, .int a__boughtNow, .ref a_wayBy, .ref a_wayThen, .int a__walkMost, .int a__walkGoing, .int a__walkSet, .ref a_kept, .long a__drawX, .ref a_images, .ref a_imageX, .ref a_isMade])), (a_imageX, .inl (cs 0, 4, .inl a_imageX_c)), (a_worth, .inl (cs 0, 4096, .inl a_worth_c)), (a_mate, .inl (cs 0, 4096, .inl a_mate_c))] H := by rw [eH]; exact hP
  have hS : va_S A s.heap H [] := by rw [eH]; exact hS
  rw [← eH]
  clear eH
  obtain ⟨locs, el⟩ : ∃ z : List Loc, z = [] := ⟨_, rfl⟩
  rw [← el] at hS ⊢
  clear el
  have z0 : (0 : Int32).toInt = 0 := by decide
  have z1 : (1 : Int32).toInt = 1 := by decide
  have zm1 : (-1 : Int32).toInt = -1 := by decide
  have i_a__lines : 0 ≤ a__lines.toInt ∧ a__lines.toInt ≤ 40 := h_a__lines
  have i_a__made : 0 ≤ a__made.toInt ∧ a__made.toInt ≤ 60 := h_a__made
  have i_a__next : 0 ≤ a__next.toInt ∧ a__next.toInt ≤ 400 := h_a__next
  have i_a__opened : 0 ≤ a__opened.toInt ∧ a__opened.toInt ≤ 400 := h_a__opened
  have i_a__rules : 0 ≤ a__rules.toInt ∧ a__rules.toInt ≤ 6 := h_a__rules
  have i_a__taped : 0 ≤ a__taped.toInt ∧ a__taped.toInt ≤ 400 := h_a__taped
  have i_a__text : 0 ≤ a__text.toInt ∧ a__text.toInt ≤ 6 := h_a__text
  have i_a__top : 0 ≤ a__top.toInt ∧ a__top.toInt ≤ 64 := h_a__top
  have i_a__undone : 0 ≤ a__undone.toInt ∧ a__undone.toInt ≤ 20 := h_a__undone
  have i_a__x : 0 ≤ a__x.toInt ∧ a__x.toInt ≤ 2147483647 := h_a__x
  have K40 : ∀ (n : Nat) (k40_L_2 : Int32) (k40_C_a_said : Nat → Int32) (k40_F_a_21 : Int32), (123 - k40_L_2.toInt + 1).toNat ≤ n → IV 0 2147483647 k40_F_a_21 → IV 0 123 k40_L_2 → IV 0 3 p0 → (CPF k40_C_a_said a_images_c (123 * p0.toInt.toNat) k40_L_2.toInt.toNat) → (k40_F_a_21 = a_imageX_c (Int32.toNatClampNeg p0)) → ((a_isMade_c (Int32.toNatClampNeg p0)).toInt ≠ 0) → ∀ (H : Heap) (locs : List Loc), va_P D classes [(a_said, .inl (cs 0, 123, .inl k40_C_a_said)), (a_isMade, .inl (cs 2, 4, .inl a_isMade_c)), (a_images, .inl (cs 0, 492, .inl a_images_c)), (a_wasSaid, .inl (cs 0, 1720, .inl a_wasSaid_c)), (a, .inr (12, [.ref a_tape, .int a__taped, .int a__rules, .ref a_sign, .ref a_length, .ref a_clause, .ref a_clauses, .ref a_read, .int a__next, .int a__wrong, .int a__number, .int a__text, .int a__made, .int a__deep, .int a__lines, .ref a_open, .int a__opened, .ref a_stack, .int a__top, .ref a_word, .ref a_said, .int k40_F_a_21, .ref a_worth, .ref a_mate, .ref a_wasSaid, .int 0, .int a__boughtNow, .ref a_wayBy, .ref a_wayThen, .int a__walkMost, .int a__walkGoing, .int a__walkSet, .ref a_kept, .long a__drawX, .ref a_images, .ref a_imageX, .ref a_isMade])), (a_imageX, .inl (cs 0, 4, .inl a_imageX_c)), (a_worth, .inl (cs 0, 4096, .inl a_worth_c)), (a_mate, .inl (cs 0, 4096, .inl a_mate_c))] H → va_D A [(a_said, .inl (cs 0, 123, .inl k40_C_a_said)), (a_isMade, .inl (cs 2, 4, .inl a_isMade_c)), (a_images, .inl (cs 0, 492, .inl a_images_c)), (a_wasSaid, .inl (cs 0, 1720, .inl a_wasSaid_c)), (a, .inr (12, [.ref a_tape, .int a__taped, .int a__rules, .ref a_sign, .ref a_length, .ref a_clause, .ref a_clauses, .ref a_read, .int a__next, .int a__wrong, .int a__number, .int a__text, .int a__made, .int a__deep, .int a__lines, .ref a_open, .int a__opened, .ref a_stack, .int a__top, .ref a_word, .ref a_said, .int k40_F_a_21, .ref a_worth, .ref a_mate, .ref a_wasSaid, .int 0, .int a__boughtNow, .ref a_wayBy, .ref a_wayThen, .int a__walkMost, .int a__walkGoing, .int a__walkSet, .ref a_kept, .long a__drawX, .ref a_images, .ref a_imageX, .ref a_isMade])), (a_imageX, .inl (cs 0, 4, .inl a_imageX_c)), (a_worth, .inl (cs 0, 4096, .inl a_worth_c)), (a_mate, .inl (cs 0, 4096, .inl a_mate_c))] → va_S A s.heap H locs → ∀ ls : Array Slot, lv_has ls 3 [(2, .int k40_L_2), (0, .ref a), (1, .int p0)] → W p l e (headSpec (hz_w yX12_back cX12_back 3 (some .int)) ({ frames := 4, cells := 0, slots := 0, locals := 93 })).room s m [.ref a, .int p0].toArray below meth c H locs 0 0 (MQ below (va_Qi (fun (r : Int32) (u : (Nat → Int32) × (Nat → Nat → Int32)) => (r = (-1) ∧ IV 0 2147483647 (u.1 1) ∧ IV 0 20 (u.1 2) ∧ CI 4096 (-1) 11 (u.2 0) ∧ (BS (u.2 1) 200) ∧ (TR (u.2 1)) ∧ (((u.2 1) 3).toInt ≤ 99) ∧ (WSN a_wasSaid_c (u.1 2).toInt) ∧ (¬ (0 ≤ p0.toInt ∧ p0.toInt ≤ 3) ∨ (a_isMade_c (Int32.toNatClampNeg p0)).toInt = 0) ∧ ((u.1 1) = a__x)) ∨ (IV 0 99 r ∧ IV 0 3 p0 ∧ IV 0 2147483647 (u.1 1) ∧ IV 0 0 (u.1 2) ∧ CI 4096 (-1) 11 (u.2 0) ∧ (BS (u.2 1) 200) ∧ (TR (u.2 1)) ∧ (((u.2 1) 3).toInt ≤ 99) ∧ (WSN a_wasSaid_c (u.1 2).toInt) ∧ (0 ≤ p0.toInt ∧ p0.toInt ≤ 3) ∧ ((a_isMade_c (Int32.toNatClampNeg p0)).toInt ≠ 0) ∧ ((u.1 1) = a_imageX_c (Int32.toNatClampNeg p0)))) (fun u t => va_P D classes [(a_said, .inl (cs 0, 123, .inl (u.2 1))), (a_isMade, .inl (cs 2, 4, .inl a_isMade_c)), (a_images, .inl (cs 0, 492, .inl a_images_c)), (a_wasSaid, .inl (cs 0, 1720, .inl a_wasSaid_c)), (a, .inr (12, [.ref a_tape, .int a__taped, .int a__rules, .ref a_sign, .ref a_length, .ref a_clause, .ref a_clauses, .ref a_read, .int a__next, .int a__wrong, .int a__number, .int a__text, .int a__made, .int a__deep, .int a__lines, .ref a_open, .int a__opened, .ref a_stack, .int a__top, .ref a_word, .ref a_said, .int (u.1 1), .ref a_worth, .ref a_mate, .ref a_wasSaid, .int (u.1 2), .int a__boughtNow, .ref a_wayBy, .ref a_wayThen, .int a__walkMost, .int a__walkGoing, .int a__walkSet, .ref a_kept, .long a__drawX, .ref a_images, .ref a_imageX, .ref a_isMade])), (a_imageX, .inl (cs 0, 4, .inl a_imageX_c)), (a_worth, .inl (cs 0, 4096, .inl (u.2 2))), (a_mate, .inl (cs 0, 4096, .inl (u.2 0)))] t.heap ∧ va_D A [(a_said, .inl (cs 0, 123, .inl (u.2 1))), (a_isMade, .inl (cs 2, 4, .inl a_isMade_c)), (a_images, .inl (cs 0, 492, .inl a_images_c)), (a_wasSaid, .inl (cs 0, 1720, .inl a_wasSaid_c)), (a, .inr (12, [.ref a_tape, .int a__taped, .int a__rules, .ref a_sign, .ref a_length, .ref a_clause, .ref a_clauses, .ref a_read, .int a__next, .int a__wrong, .int a__number, .int a__text, .int a__made, .int a__deep, .int a__lines, .ref a_open, .int a__opened, .ref a_stack, .int a__top, .ref a_word, .ref a_said, .int (u.1 1), .ref a_worth, .ref a_mate, .ref a_wasSaid, .int (u.1 2), .int a__boughtNow, .ref a_wayBy, .ref a_wayThen, .int a__walkMost, .int a__walkGoing, .int a__walkSet, .ref a_kept, .long a__drawX, .ref a_images, .ref a_imageX, .ref a_isMade])), (a_imageX, .inl (cs 0, 4, .inl a_imageX_c)), (a_worth, .inl (cs 0, 4096, .inl (u.2 2))), (a_mate, .inl (cs 0, 4096, .inl (u.2 0)))]) A) [.ref a, .int p0].toArray s 0 0 A) (F0 m 40 ls []) := by
    intro n
    induction n with
    | zero =>
      intro k40_L_2 k40_C_a_said k40_F_a_21 hn q40_8 q40_9 q40_10 x40_0 x40_1 x40_2 H locs hP hD hS ls hl
      exact absurd hn (by unfold IV at q40_9; omega)
    | succ n ih40 =>
      intro k40_L_2 k40_C_a_said k40_F_a_21 hn q40_8 q40_9 q40_10 x40_0 x40_1 x40_2 H locs hP hD hS ls hl
      have i_a__lines : 0 ≤ a__lines.toInt ∧ a__lines.toInt ≤ 40 := h_a__lines
      have i_a__made : 0 ≤ a__made.toInt ∧ a__made.toInt ≤ 60 := h_a__made
      have i_a__next : 0 ≤ a__next.toInt ∧ a__next.toInt ≤ 400 := h_a__next
      have i_a__opened : 0 ≤ a__opened.toInt ∧ a__opened.toInt ≤ 400 := h_a__opened
      have i_a__rules : 0 ≤ a__rules.toInt ∧ a__rules.toInt ≤ 6 := h_a__rules
      have i_a__taped : 0 ≤ a__taped.toInt ∧ a__taped.toInt ≤ 400 := h_a__taped
      have i_a__text : 0 ≤ a__text.toInt ∧ a__text.toInt ≤ 6 := h_a__text
      have i_a__top : 0 ≤ a__top.toInt ∧ a__top.toInt ≤ 64 := h_a__top
      have i_k40_F_a_21 : 0 ≤ k40_F_a_21.toInt ∧ k40_F_a_21.toInt ≤ 2147483647 := q40_8
      have i_k40_L_2 : 0 ≤ k40_L_2.toInt ∧ k40_L_2.toInt ≤ 123 := q40_9
      have i_p0 : 0 ≤ p0.toInt ∧ p0.toInt ≤ 3 := q40_10
      refine lv_iload_n hx hb dX12_back_40 rfl (lv_at hl 0 rfl) ?_
      refine lv_bipush (v := 123) hx hb dX12_back_41 (by decide) ?_
      refine lv_icmp_ge (tgt := 69) hx hb dX12_back_43 (by decide) (fun c1 => ?_) (fun c1 => ?_)
      · have t2 : k40_L_2.toInt ≥ 123 := lin_ge c1 rfl (by decide)
        have h3 : IV 123 123 k40_L_2 := iv_le2 c1 (iv_c (a := 123) (b := 123) (by decide)) q40_9 (by decide)
        have ii4 : 123 ≤ k40_L_2.toInt ∧ k40_L_2.toInt ≤ 123 := h3
        have fa5 : BS k40_C_a_said 99 := bs_congr (hf3 p0.toInt.toNat (by omega) x40_2).1 (fun j hj => x40_0 j (by omega))
        have fa6 : BS k40_C_a_said 200 := (bs_hi fa5 (by decide))
        have fa7 : TR k40_C_a_said := tr_cg (hf3 p0.toInt.toNat (by omega) x40_2).2 (fun j hj => x40_0 j (by omega))
        have h3 := fa5.2.2.2.1.2
        refine lv_aload_n hx hb dX12_back_69 rfl (lv_at hl 1 rfl) ?_
        have hFc := va_free (wc := [(a_said, .inl (cs 0, 123, .inl k40_C_a_said)), (a, .inr (12, [.ref a_tape, .int a__taped, .int a__rules, .ref a_sign, .ref a_length, .ref a_clause, .ref a_clauses, .ref a_read, .int a__next, .int a__wrong, .int a__number, .int a__text, .int a__made, .int a__deep, .int a__lines, .ref a_open, .int a__opened, .ref a_stack, .int a__top, .ref a_word, .ref a_said, .int k40_F_a_21, .ref a_worth, .ref a_mate, .ref a_wasSaid, .int 0, .int a__boughtNow, .ref a_wayBy, .ref a_wayThen, .int a__walkMost, .int a__walkGoing, .int a__walkSet, .ref a_kept, .long a__drawX, .ref a_images, .ref a_imageX, .ref a_isMade])), (a_worth, .inl (cs 0, 4096, .inl a_worth_c)), (a_mate, .inl (cs 0, 4096, .inl a_mate_c))]) hD hS hA [0,4,6,7] rfl
        refine va_callv (va_runV (As := []) (rest := []) ⟨hx, hb, hml, hown, hT⟩ (c_X12_fillsWorth l D cs kK kV a a_said k40_C_a_said a_tape a__taped a__rules a_sign a_length a_clause a_clauses a_read a__next a__wrong a__number a__text a__made a__deep a__lines a_open a__opened a_stack a__top a_word k40_F_a_21 a_worth a_mate a_wasSaid 0 a__boughtNow a_wayBy a_wayThen a__walkMost a__walkGoing a__walkSet a_kept a__drawX a_images a_imageX a_isMade a_worth_c a_mate_c h_a__taped h_a__rules h_a__next h_a__text h_a__made h_a__lines h_a__opened h_a__top q40_8 ((iv_c (by decide))) h_a_mate_c fa6 H.size) (cwV 0 hT (hz_gV q_1085 q_1086 q_1087 q_701 q_1088) rfl rfl rfl (by decide +kernel) ⟨(Nat.le_of_ble_eq_true rfl), (Nat.le_of_ble_eq_true rfl)⟩) ⟨hz_C.blind, va_recv hK hP (ci := 12) (q0 := 4) rfl rfl, hz_C.mk (hP.sub (ws' := [(a_said, .inl (cs 0, 123, .inl k40_C_a_said)), (a, .inr (12, [.ref a_tape, .int a__taped, .int a__rules, .ref a_sign, .ref a_length, .ref a_clause, .ref a_clauses, .ref a_read, .int a__next, .int a__wrong, .int a__number, .int a__text, .int a__made, .int a__deep, .int a__lines, .ref a_open, .int a__opened, .ref a_stack, .int a__top, .ref a_word, .ref a_said, .int k40_F_a_21, .ref a_worth, .ref a_mate, .ref a_wasSaid, .int 0, .int a__boughtNow, .ref a_wayBy, .ref a_wayThen, .int a__walkMost, .int a__walkGoing, .int a__walkSet, .ref a_kept, .long a__drawX, .ref a_images, .ref a_imageX, .ref a_isMade])), (a_worth, .inl (cs 0, 4096, .inl a_worth_c)), (a_mate, .inl (cs 0, 4096, .inl a_mate_c))]) [0,4,6,7] rfl) (hD.sub (ws' := [(a_said, .inl (cs 0, 123, .inl k40_C_a_said)), (a, .inr (12, [.ref a_tape, .int a__taped, .int a__rules, .ref a_sign, .ref a_length, .ref a_clause, .ref a_clauses, .ref a_read, .int a__next, .int a__wrong, .int a__number, .int a__text, .int a__made, .int a__deep, .int a__lines, .ref a_open, .int a__opened, .ref a_stack, .int a__top, .ref a_word, .ref a_said, .int k40_F_a_21, .ref a_worth, .ref a_mate, .ref a_wasSaid, .int 0, .int a__boughtNow, .ref a_wayBy, .ref a_wayThen, .int a__walkMost, .int a__walkGoing, .int a__walkSet, .ref a_kept, .long a__drawX, .ref a_images, .ref a_imageX, .ref a_isMade])), (a_worth, .inl (cs 0, 4096, .inl a_worth_c)), (a_mate, .inl (cs 0, 4096, .inl a_mate_c))]) [0,4,6,7] (by decide) rfl) hE hS hFc⟩ rfl rfl hl.1 rfl (lv_room (Nat.le_of_ble_eq_true rfl)) dX12_back_70 ⟨(Nat.le_of_ble_eq_true rfl), (Nat.le_of_ble_eq_true rfl)⟩) hS (fun q _ h => hFc q h) hFc (fun o9 t H1 locs ht hvm hw hB hz1 hk1 hS => ?_)
        obtain ⟨hP1, hD1⟩ := hB
        rw [ht] at hP1
        obtain ⟨hP, hD⟩ := va_join (wr := [(a_isMade, .inl (cs 2, 4, .inl a_isMade_c)), (a_images, .inl (cs 0, 492, .inl a_images_c)), (a_wasSaid, .inl (cs 0, 1720, .inl a_wasSaid_c)), (a_imageX, .inl (cs 0, 4, .inl a_imageX_c))]) (w1 := [(a_said, .inl (cs 0, 123, .inl k40_C_a_said)), (a, .inr (12, [.ref a_tape, .int a__taped, .int a__rules, .ref a_sign, .ref a_length, .ref a_clause, .ref a_clauses, .ref a_read, .int a__next, .int a__wrong, .int a__number, .int a__text, .int a__made, .int a__deep, .int a__lines, .ref a_open, .int a__opened, .ref a_stack, .int a__top, .ref a_word, .ref a_said, .int k40_F_a_21, .ref a_worth, .ref a_mate, .ref a_wasSaid, .int 0, .int a__boughtNow, .ref a_wayBy, .ref a_wayThen, .int a__walkMost, .int a__walkGoing, .int a__walkSet, .ref a_kept, .long a__drawX, .ref a_images, .ref a_imageX, .ref a_isMade])), (a_worth, .inl (cs 0, 4096, .inl (o9.2 1))), (a_mate, .inl (cs 0, 4096, .inl (o9.2 0)))]) hP hD [0, 4, 6, 7] [1, 2, 3, 5] rfl rfl (by decide) (by decide) hk1 hFc hP1 hD1
        generalize H1 = H at hP hS ⊢
        have hP : va_P D classes [(a_isMade, .inl (cs 2, 4, .inl a_isMade_c)), (a_images, .inl (cs 0, 492, .inl a_images_c)), (a_wasSaid, .inl (cs 0, 1720, .inl a_wasSaid_c)), (a_imageX, .inl (cs 0, 4, .inl a_imageX_c)), (a_said, .inl (cs 0, 123, .inl k40_C_a_said)), (a, .inr (12, [.ref a_tape, .int a__taped, .int a__rules, .ref a_sign, .ref a_length, .ref a_clause, .ref a_clauses, .ref a_read, .int a__next, .int a__wrong, .int a__number, .int a__text, .int a__made, .int a__deep, .int a__lines, .ref a_open, .int a__opened, .ref a_stack, .int a__top, .ref a_word, .ref a_said, .int k40_F_a_21, .ref a_worth, .ref a_mate, .ref a_wasSaid, .int 0, .int a__boughtNow, .ref a_wayBy, .ref a_wayThen, .int a__walkMost, .int a__walkGoing, .int a__walkSet, .ref a_kept, .long a__drawX, .ref a_images, .ref a_imageX, .ref a_isMade])), (a_worth, .inl (cs 0, 4096, .inl (o9.2 1))), (a_mate, .inl (cs 0, 4096, .inl (o9.2 0)))] H := hP
        have hD : va_D A [(a_isMade, .inl (cs 2, 4, .inl a_isMade_c)), (a_images, .inl (cs 0, 492, .inl a_images_c)), (a_wasSaid, .inl (cs 0, 1720, .inl a_wasSaid_c)), (a_imageX, .inl (cs 0, 4, .inl a_imageX_c)), (a_said, .inl (cs 0, 123, .inl k40_C_a_said)), (a, .inr (12, [.ref a_tape, .int a__taped, .int a__rules, .ref a_sign, .ref a_length, .ref a_clause, .ref a_clauses, .ref a_read, .int a__next, .int a__wrong, .int a__number, .int a__text, .int a__made, .int a__deep, .int a__lines, .ref a_open, .int a__opened, .ref a_stack, .int a__top, .ref a_word, .ref a_said, .int k40_F_a_21, .ref a_worth, .ref a_mate, .ref a_wasSaid, .int 0, .int a__boughtNow, .ref a_wayBy, .ref a_wayThen, .int a__walkMost, .int a__walkGoing, .int a__walkSet, .ref a_kept, .long a__drawX, .ref a_images, .ref a_imageX, .ref a_isMade])), (a_worth, .inl (cs 0, 4096, .inl (o9.2 1))), (a_mate, .inl (cs 0, 4096, .inl (o9.2 0)))] := hD
        clear hk1 hFc hP1 hD1 hz1
        have h10 := hw
        refine lv_aload_n hx hb dX12_back_73 rfl (lv_at hl 1 rfl) ?_
        refine va_get (D := D) (ci := 12) (v := .ref a_said) (C := RX12) (T := TX12) (N := 37) hx hb hT i_X12 hown hK hP 5 rfl rfl 20 (by decide) (hT _ q_185) (fun _ h9 => h9) rfl dX12_back_74 ?_
        refine lv_iconst (v := 3) hx hb dX12_back_77 (by decide) ?_
        refine va_iald hx hb hK hP 4 0 rfl rfl (iv_vc (by decide)) dX12_back_78 ?_
        refine lv_topi (fun v11 ev11 => ?_)
        have h12 : IV 0 99 v11 := (by rw [ev11]; exact bs_i3 fa5)
        have ii13 : 0 ≤ v11.toInt ∧ v11.toInt ≤ 99 := h12
        have lv11 : v11.toInt = (k40_C_a_said 3).toInt := by rw [ev11]; rfl
        refine W.widen (k := 0) (n := 0) (Nat.le_of_ble_eq_true rfl) (Nat.le_of_ble_eq_true rfl) ?_
        have g14 : (k40_C_a_said 3).toInt ≤ 99 := (by omega)
        have g15 : WSN a_wasSaid_c ((0 : Int32)).toInt := (wsn_0 (by decide))
        have g16 : 0 ≤ p0.toInt ∧ p0.toInt ≤ 3 := (by omega)
        exact W.iret (v := v11) hx hb hr (fun t ht hW => ⟨⟨v11, (fun k => match k with | 0 => 0 | 1 => k40_F_a_21 | 2 => 0 | _ => 0, fun k => match k with | 0 => o9.2 0 | 1 => k40_C_a_said | 2 => o9.2 1 | _ => fun _ => 0), rfl, (Or.inr ((⟨h12, q40_10, q40_8, iv_c (a := 0) (b := 0) (x := 0) (by decide), h10, fa6, fa7, g14, g15, g16, x40_2, x40_1⟩))), by rw [ht]; exact hP.sub [4, 0, 1, 2, 5, 3, 6, 7] rfl, hD.sub [4, 0, 1, 2, 5, 3, 6, 7] (by decide) rfl⟩, hS.F ht⟩) hS.2.2 dX12_back_79
      · have t17 : k40_L_2.toInt < 123 := lin_geN c1 rfl (by decide)
        have h18 : IV 0 122 k40_L_2 := iv_lt1 (Int32.not_le.mp c1) q40_9 (iv_c (a := 123) (b := 123) (by decide)) (by decide)
        have ii19 : 0 ≤ k40_L_2.toInt ∧ k40_L_2.toInt ≤ 122 := h18
        refine lv_aload_n hx hb dX12_back_46 rfl (lv_at hl 1 rfl) ?_
        refine va_get (D := D) (ci := 12) (v := .ref a_said) (C := RX12) (T := TX12) (N := 37) hx hb hT i_X12 hown hK hP 4 rfl rfl 20 (by decide) (hT _ q_185) (fun _ h9 => h9) rfl dX12_back_47 ?_
        refine lv_iload_n hx hb dX12_back_50 rfl (lv_at hl 0 rfl) ?_
        refine lv_aload_n hx hb dX12_back_51 rfl (lv_at hl 1 rfl) ?_
        refine va_get (D := D) (ci := 12) (v := .ref a_images) (C := RX12) (T := TX12) (N := 37) hx hb hT i_X12 hown hK hP 4 rfl rfl 34 (by decide) (hT _ q_192) (fun _ h9 => h9) rfl dX12_back_52 ?_
        refine lv_bipush (v := 123) hx hb dX12_back_55 (by decide) ?_
        refine lv_iload_n hx hb dX12_back_57 rfl (lv_at hl 2 rfl) ?_
        refine lv_imul hx hb dX12_back_58 ?_
        refine lv_topi (fun v20 ev20 => ?_)
        have hv20 : IV 0 369 v20 := iv_mul ev20 (iv_c (a := 123) (b := 123) (by decide)) q40_10 (by decide) (by decide) (by decide) (by decide)
        have ii21 : 0 ≤ v20.toInt ∧ v20.toInt ≤ 369 := hv20
        have lv20 : v20.toInt = 123 * p0.toInt := lin_mul ev20 (iv_c (a := 123) (b := 123) (by decide)) q40_10 (by decide) rfl (by decide) (by decide) (by decide) (by decide)
        refine lv_iload_n hx hb dX12_back_59 rfl (lv_at hl 0 rfl) ?_
        refine lv_iadd hx hb dX12_back_60 ?_
        refine lv_topi (fun v22 ev22 => ?_)
        have hv22 : IV 0 491 v22 := iv_add ev22 hv20 h18 (by decide) (by decide)
        have ii23 : 0 ≤ v22.toInt ∧ v22.toInt ≤ 491 := hv22
        have lv22 : v22.toInt = v20.toInt + k40_L_2.toInt := lin_add ev22 hv20 h18 rfl rfl (by decide) (by decide)
        refine va_iald hx hb hK hP 2 0 rfl rfl (iv_v hv22 (by decide) (by decide)) dX12_back_61 ?_
        refine lv_topi (fun v24 ev24 => ?_)
        have lv24 : v24.toInt = (a_images_c (Int32.toNatClampNeg v22)).toInt := by rw [ev24]
        refine va_iast hx hb hK hP hD hS 0 0 rfl rfl (iv_v h18 (by decide) (by decide)) dX12_back_62 (fun H locs hP hD hS => ?_)
        have hP : va_P D classes [(a_said, .inl (cs 0, 123, .inl (upd k40_C_a_said (Int32.toNatClampNeg k40_L_2) v24))), (a_isMade, .inl (cs 2, 4, .inl a_isMade_c)), (a_images, .inl (cs 0, 492, .inl a_images_c)), (a_wasSaid, .inl (cs 0, 1720, .inl a_wasSaid_c)), (a, .inr (12, [.ref a_tape, .int a__taped, .int a__rules, .ref a_sign, .ref a_length, .ref a_clause, .ref a_clauses, .ref a_read, .int a__next, .int a__wrong, .int a__number, .int a__text, .int a__made, .int a__deep, .int a__lines, .ref a_open, .int a__opened, .ref a_stack, .int a__top, .ref a_word, .ref a_said, .int k40_F_a_21, .ref a_worth, .ref a_mate, .ref a_wasSaid, .int 0, .int a__boughtNow, .ref a_wayBy, .ref a_wayThen, .int a__walkMost, .int a__walkGoing, .int a__walkSet, .ref a_kept, .long a__drawX, .ref a_images, .ref a_imageX, .ref a_isMade])), (a_imageX, .inl (cs 0, 4, .inl a_imageX_c)), (a_worth, .inl (cs 0, 4096, .inl a_worth_c)), (a_mate, .inl (cs 0, 4096, .inl a_mate_c))] H := hP
        have hD : va_D A [(a_said, .inl (cs 0, 123, .inl (upd k40_C_a_said (Int32.toNatClampNeg k40_L_2) v24))), (a_isMade, .inl (cs 2, 4, .inl a_isMade_c)), (a_images, .inl (cs 0, 492, .inl a_images_c)), (a_wasSaid, .inl (cs 0, 1720, .inl a_wasSaid_c)), (a, .inr (12, [.ref a_tape, .int a__taped, .int a__rules, .ref a_sign, .ref a_length, .ref a_clause, .ref a_clauses, .ref a_read, .int a__next, .int a__wrong, .int a__number, .int a__text, .int a__made, .int a__deep, .int a__lines, .ref a_open, .int a__opened, .ref a_stack, .int a__top, .ref a_word, .ref a_said, .int k40_F_a_21, .ref a_worth, .ref a_mate, .ref a_wasSaid, .int 0, .int a__boughtNow, .ref a_wayBy, .ref a_wayThen, .int a__walkMost, .int a__walkGoing, .int a__walkSet, .ref a_kept, .long a__drawX, .ref a_images, .ref a_imageX, .ref a_isMade])), (a_imageX, .inl (cs 0, 4, .inl a_imageX_c)), (a_worth, .inl (cs 0, 4096, .inl a_worth_c)), (a_mate, .inl (cs 0, 4096, .inl a_mate_c))] := hD
        obtain ⟨f25, uf25⟩ : ∃ z, z = upd k40_C_a_said (Int32.toNatClampNeg k40_L_2) v24 := ⟨_, rfl⟩
        rw [← uf25] at hP hD
        have wf25 : (f25 (Int32.toNatClampNeg k40_L_2)).toInt = v24.toInt := lin_us uf25 rfl
        have kk26 : (f25 0).toInt = (k40_C_a_said 0).toInt := congrArg Int32.toInt (by rw [uf25, pk_un (show 0 ≠ Int32.toNatClampNeg k40_L_2 from by (have q : Int32.toNatClampNeg k40_L_2 = k40_L_2.toInt.toNat := rfl); omega)])
        have kk27 : (f25 1).toInt = (k40_C_a_said 1).toInt := congrArg Int32.toInt (by rw [uf25, pk_un (show 1 ≠ Int32.toNatClampNeg k40_L_2 from by (have q : Int32.toNatClampNeg k40_L_2 = k40_L_2.toInt.toNat := rfl); omega)])
        have kk28 : (f25 2).toInt = (k40_C_a_said 2).toInt := congrArg Int32.toInt (by rw [uf25, pk_un (show 2 ≠ Int32.toNatClampNeg k40_L_2 from by (have q : Int32.toNatClampNeg k40_L_2 = k40_L_2.toInt.toNat := rfl); omega)])
        have kk29 : (f25 3).toInt = (k40_C_a_said 3).toInt := congrArg Int32.toInt (by rw [uf25, pk_un (show 3 ≠ Int32.toNatClampNeg k40_L_2 from by (have q : Int32.toNatClampNeg k40_L_2 = k40_L_2.toInt.toNat := rfl); omega)])
        obtain ⟨v30, ev30⟩ : ∃ z : Int32, z = k40_L_2 + 1 := ⟨_, rfl⟩
        have hv30 : IV 1 123 v30 := iv_add ev30 h18 (iv_c (a := 1) (b := 1) (by decide)) (by decide) (by decide)
        have dv30 : v30.toInt = k40_L_2.toInt + 1 := iv_addE ev30 h18 (iv_c (a := 1) (b := 1) (by decide)) (by decide) (by decide) (by decide)
        refine lv_iinc (v := v30) (lv' := [(2, .int v30), (0, .ref a), (1, .int p0)]) hx hb dX12_back_63 hl (k := 0) rfl (by rw [ev30]; rfl) (by decide) rfl (fun ls hl => ?_)
        refine lv_goto (tgt := 40) hx hb dX12_back_66 (by decide) ?_
        exact ih40 v30 f25 k40_F_a_21 (by have h9 := h18; unfold IV at h9; have := dv30; omega) q40_8 (iv_w hv30 (by decide) (by decide)) q40_10 (cpf_step x40_0 uf25 ev24 (by omega) (by omega) (by omega)) x40_1 x40_2 H locs (hP.sub (ws' := [(a_said, .inl (cs 0, 123, .inl f25)), (a_isMade, .inl (cs 2, 4, .inl a_isMade_c)), (a_images, .inl (cs 0, 492, .inl a_images_c)), (a_wasSaid, .inl (cs 0, 1720, .inl a_wasSaid_c)), (a, .inr (12, [.ref a_tape, .int a__taped, .int a__rules, .ref a_sign, .ref a_length, .ref a_clause, .ref a_clauses, .ref a_read, .int a__next, .int a__wrong, .int a__number, .int a__text, .int a__made, .int a__deep, .int a__lines, .ref a_open, .int a__opened, .ref a_stack, .int a__top, .ref a_word, .ref a_said, .int k40_F_a_21, .ref a_worth, .ref a_mate, .ref a_wasSaid, .int 0, .int a__boughtNow, .ref a_wayBy, .ref a_wayThen, .int a__walkMost, .int a__walkGoing, .int a__walkSet, .ref a_kept, .long a__drawX, .ref a_images, .ref a_imageX, .ref a_isMade])), (a_imageX, .inl (cs 0, 4, .inl a_imageX_c)), (a_worth, .inl (cs 0, 4096, .inl a_worth_c)), (a_mate, .inl (cs 0, 4096, .inl a_mate_c))]) [0, 1, 2, 3, 4, 5, 6, 7] rfl) (hD.sub (ws' := [(a_said, .inl (cs 0, 123, .inl f25)), (a_isMade, .inl (cs 2, 4, .inl a_isMade_c)), (a_images, .inl (cs 0, 492, .inl a_images_c)), (a_wasSaid, .inl (cs 0, 1720, .inl a_wasSaid_c)), (a, .inr (12, [.ref a_tape, .int a__taped, .int a__rules, .ref a_sign, .ref a_length, .ref a_clause, .ref a_clauses, .ref a_read, .int a__next, .int a__wrong, .int a__number, .int a__text, .int a__made, .int a__deep, .int a__lines, .ref a_open, .int a__opened, .ref a_stack, .int a__top, .ref a_word, .ref a_said, .int k40_F_a_21, .ref a_worth, .ref a_mate, .ref a_wasSaid, .int 0, .int a__boughtNow, .ref a_wayBy, .ref a_wayThen, .int a__walkMost, .int a__walkGoing, .int a__walkSet, .ref a_kept, .long a__drawX, .ref a_images, .ref a_imageX, .ref a_isMade])), (a_imageX, .inl (cs 0, 4, .inl a_imageX_c)), (a_worth, .inl (cs 0, 4096, .inl a_worth_c)), (a_mate, .inl (cs 0, 4096, .inl a_mate_c))]) [0, 1, 2, 3, 4, 5, 6, 7] (by decide) rfl) hS ls (lv_sub hl [0, 1, 2] rfl)
  refine lv_iload_n hx hb dX12_back_0 rfl (lv_at hl 1 rfl) ?_
  refine lv_i2l (v := p0.toInt64) hx hb dX12_back_1 rfl ?_
  refine lv_lconst (v := 0) hx hb dX12_back_2 (by decide) ?_
  refine lv_ldc2 hx hb hown (hT _ q_1428) dX12_back_3 ?_
  refine va_calli (va_runS (As := [.long p0.toInt64, .long 0, .long 3]) (rest := []) ⟨hx, hb, hml, hown, hT⟩ (c_X12_in l D cs kK kV p0.toInt64 0 3) (va_cwS 3 hT (hz_gS q_964 q_965 q_701 q_966) rfl rfl rfl (by decide +kernel) ⟨(Nat.le_of_ble_eq_true rfl), (Nat.le_of_ble_eq_true rfl)⟩) ⟨hz_P.blind, hz_P.mk (hP.sub (ws' := []) [] rfl) hE hS⟩ rfl rfl hl.1 rfl (lv_room (Nat.le_of_ble_eq_true rfl)) dX12_back_6 ⟨(Nat.le_of_ble_eq_true rfl), (Nat.le_of_ble_eq_true rfl)⟩) hS (fun _ _ h => h.elim) (fun _ h => h.elim) (fun r31 u t H1 locs ht hvm hw hB hz1 hk1 hS => ?_)
  have hP := hz_keep hP hk1
  clear hk1 hB hz1
  generalize H1 = H at hP hS ⊢
  rcases hw with ⟨rfl, x32⟩ | ⟨rfl, x33, x34⟩
  · have h35 : IV (-2147483648) 3 (¬ (((0 : Int64)) ≤ p0.toInt64 ∧ p0) := ⟨iv_top.1, l64_lec x32 (by decide)⟩
    have ii36 : (-2147483648) ≤ (¬ (((0 : Int64)) ≤ p0.toInt64 ∧ p0).toInt ∧ (¬ (((0 : Int64)) ≤ p0.toInt64 ∧ p0).toInt ≤ 3 := h35
    have t37 : ¬ (0 ≤ p0.toInt ∧ p0.toInt ≤ 3) := fun z => x32 ⟨l64_clI z.1 (by decide), l64_lcI z.2 (by decide)⟩
    refine lv_if_eq (tgt := 21) hx hb dX12_back_9 (by decide) (fun _ => ?_) (fun z => absurd (by decide) z)
    refine lv_iconst (v := (-1)) hx hb dX12_back_21 (by decide) ?_
    refine W.widen (k := 0) (n := 0) (Nat.le_of_ble_eq_true rfl) (Nat.le_of_ble_eq_true rfl) ?_
    have g38 : ¬ (0 ≤ p0.toInt ∧ p0.toInt ≤ 3) ∨ (a_isMade_c (Int32.toNatClampNeg p0)).toInt = 0 := (Or.inl (by assumption))
    have g39 : a__x = a__x := (rfl)
    exact W.iret (v := (-1)) hx hb hr (fun t ht hW => ⟨⟨(-1), (fun k => match k with | 0 => 0 | 1 => a__x | 2 => a__undone | _ => 0, fun k => match k with | 0 => a_mate_c | 1 => a_said_c | 2 => a_worth_c | _ => fun _ => 0), rfl, (Or.inl (⟨rfl, h_a__x, h_a__undone, h_a_mate_c, hf0, hf1, hf2, hf4, g38, g39⟩)), by rw [ht]; exact hP.sub [0, 1, 2, 3, 4, 5, 6, 7] rfl, hD.sub [0, 1, 2, 3, 4, 5, 6, 7] (by decide) rfl⟩, hS.F ht⟩) hS.2.2 dX12_back_22
  · have h40 : IV 0 2147483647 p0 := ⟨l64_cle x33 (by decide), iv_top.2⟩
    have ii41 : 0 ≤ p0.toInt ∧ p0.toInt ≤ 2147483647 := h40
    have h42 : IV 0 3 p0 := ⟨(h40).1, l64_lec x34 (by decide)⟩
    have ii43 : 0 ≤ p0.toInt ∧ p0.toInt ≤ 3 := h42
    refine lv_if_eq (tgt := 21) hx hb dX12_back_9 (by decide) (fun z => absurd z (by decide)) (fun _ => ?_)
    refine lv_aload_n hx hb dX12_back_12 rfl (lv_at hl 0 rfl) ?_
    refine va_get (D := D) (ci := 12) (v := .ref a_isMade) (C := RX12) (T := TX12) (N := 37) hx hb hT i_X12 hown hK hP 4 rfl rfl 36 (by decide) (hT _ q_194) (fun _ h9 => h9) rfl dX12_back_13 ?_
    refine lv_iload_n hx hb dX12_back_16 rfl (lv_at hl 1 rfl) ?_
    refine va_zald hx hb hK hP 1 2 rfl rfl (iv_v h42 (by decide) (by decide)) dX12_back_17 ?_
    refine lv_topi (fun v44 ev44 => ?_)
    have lv44 : v44.toInt = (a_isMade_c (Int32.toNatClampNeg p0)).toInt := by rw [ev44]
    refine lv_if_ne (tgt := 23) hx hb dX12_back_18 (by decide) (fun c45 => ?_) (fun c45 => ?_)
    · have t46 : v44.toInt ≠ 0 := lin_ne c45 rfl (by decide)
      refine lv_aload_n hx hb dX12_back_23 rfl (lv_at hl 0 rfl) ?_
      refine lv_aload_n hx hb dX12_back_24 rfl (lv_at hl 0 rfl) ?_
      refine va_get (D := D) (ci := 12) (v := .ref a_imageX) (C := RX12) (T := TX12) (N := 37) hx hb hT i_X12 hown hK hP 4 rfl rfl 35 (by decide) (hT _ q_193) (fun _ h9 => h9) rfl dX12_back_25 ?_
      refine lv_iload_n hx hb dX12_back_28 rfl (lv_at hl 1 rfl) ?_
      refine va_iald hx hb hK hP 5 0 rfl rfl (iv_v h42 (by decide) (by decide)) dX12_back_29 ?_
      refine lv_topi (fun v47 ev47 => ?_)
      have hv47 : IV 0 2147483647 v47 := iv_ci ev47 h_a_imageX_c (iv_v h42 (by decide) (by decide))
      have ii48 : 0 ≤ v47.toInt ∧ v47.toInt ≤ 2147483647 := hv47
      have lv47 : v47.toInt = (a_imageX_c (Int32.toNatClampNeg p0)).toInt := by rw [ev47]
      refine va_put (D := D) (ci := 12) (v := .int v47) (ty := .int) (C := RX12) (T := TX12) (N := 37) hx hb hT i_X12 tyX12 tyX12_ok nmX12 hown hK hP hD hS 4 rfl rfl 21 (by decide) (hT _ q_211) (fun _ h9 => h9) rfl (by decide +kernel) rfl rfl (Nat.le_of_ble_eq_true rfl) dX12_back_30 (fun H locs hP hD hS => ?_)
      have hP : va_P D classes [(a_said, .inl (cs 0, 123, .inl a_said_c)), (a_isMade, .inl (cs 2, 4, .inl a_isMade_c)), (a_images, .inl (cs 0, 492, .inl a_images_c)), (a_wasSaid, .inl (cs 0, 1720, .inl a_wasSaid_c)), (a, .inr (12, [.ref a_tape, .int a__taped, .int a__rules, .ref a_sign, .ref a_length, .ref a_clause, .ref a_clauses, .ref a_read, .int a__next, .int a__wrong, .int a__number, .int a__text, .int a__made, .int a__deep, .int a__lines, .ref a_open, .int a__opened, .ref a_stack, .int a__top, .ref a_word, .ref a_said, .int v47, .ref a_worth, .ref a_mate, .ref a_wasSaid, .int a__undone, .int a__boughtNow, .ref a_wayBy, .ref a_wayThen, .int a__walkMost, .int a__walkGoing, .int a__walkSet, .ref a_kept, .long a__drawX, .ref a_images, .ref a_imageX, .ref a_isMade])), (a_imageX, .inl (cs 0, 4, .inl a_imageX_c)), (a_worth, .inl (cs 0, 4096, .inl a_worth_c)), (a_mate, .inl (cs 0, 4096, .inl a_mate_c))] H := hP
      have hD : va_D A [(a_said, .inl (cs 0, 123, .inl a_said_c)), (a_isMade, .inl (cs 2, 4, .inl a_isMade_c)), (a_images, .inl (cs 0, 492, .inl a_images_c)), (a_wasSaid, .inl (cs 0, 1720, .inl a_wasSaid_c)), (a, .inr (12, [.ref a_tape, .int a__taped, .int a__rules, .ref a_sign, .ref a_length, .ref a_clause, .ref a_clauses, .ref a_read, .int a__next, .int a__wrong, .int a__number, .int a__text, .int a__made, .int a__deep, .int a__lines, .ref a_open, .int a__opened, .ref a_stack, .int a__top, .ref a_word, .ref a_said, .int v47, .ref a_worth, .ref a_mate, .ref a_wasSaid, .int a__undone, .int a__boughtNow, .ref a_wayBy, .ref a_wayThen, .int a__walkMost, .int a__walkGoing, .int a__walkSet, .ref a_kept, .long a__drawX, .ref a_images, .ref a_imageX, .ref a_isMade])), (a_imageX, .inl (cs 0, 4, .inl a_imageX_c)), (a_worth, .inl (cs 0, 4096, .inl a_worth_c)), (a_mate, .inl (cs 0, 4096, .inl a_mate_c))] := hD
      refine lv_aload_n hx hb dX12_back_33 rfl (lv_at hl 0 rfl) ?_
      refine lv_iconst (v := 0) hx hb dX12_back_34 (by decide) ?_
      refine va_put (D := D) (ci := 12) (v := .int 0) (ty := .int) (C := RX12) (T := TX12) (N := 37) hx hb hT i_X12 tyX12 tyX12_ok nmX12 hown hK hP hD hS 4 rfl rfl 25 (by decide) (hT _ q_205) (fun _ h9 => h9) rfl (by decide +kernel) rfl rfl (Nat.le_of_ble_eq_true rfl) dX12_back_35 (fun H locs hP hD hS => ?_)
      have hP : va_P D classes [(a_said, .inl (cs 0, 123, .inl a_said_c)), (a_isMade, .inl (cs 2, 4, .inl a_isMade_c)), (a_images, .inl (cs 0, 492, .inl a_images_c)), (a_wasSaid, .inl (cs 0, 1720, .inl a_wasSaid_c)), (a, .inr (12, [.ref a_tape, .int a__taped, .int a__rules, .ref a_sign, .ref a_length, .ref a_clause, .ref a_clauses, .ref a_read, .int a__next, .int a__wrong, .int a__number, .int a__text, .int a__made, .int a__deep, .int a__lines, .ref a_open, .int a__opened, .ref a_stack, .int a__top, .ref a_word, .ref a_said, .int v47, .ref a_worth, .ref a_mate, .ref a_wasSaid, .int 0, .int a__boughtNow, .ref a_wayBy, .ref a_wayThen, .int a__walkMost, .int a__walkGoing, .int a__walkSet, .ref a_kept, .long a__drawX, .ref a_images, .ref a_imageX, .ref a_isMade])), (a_imageX, .inl (cs 0, 4, .inl a_imageX_c)), (a_worth, .inl (cs 0, 4096, .inl a_worth_c)), (a_mate, .inl (cs 0, 4096, .inl a_mate_c))] H := hP
      have hD : va_D A [(a_said, .inl (cs 0, 123, .inl a_said_c)), (a_isMade, .inl (cs 2, 4, .inl a_isMade_c)), (a_images, .inl (cs 0, 492, .inl a_images_c)), (a_wasSaid, .inl (cs 0, 1720, .inl a_wasSaid_c)), (a, .inr (12, [.ref a_tape, .int a__taped, .int a__rules, .ref a_sign, .ref a_length, .ref a_clause, .ref a_clauses, .ref a_read, .int a__next, .int a__wrong, .int a__number, .int a__text, .int a__made, .int a__deep, .int a__lines, .ref a_open, .int a__opened, .ref a_stack, .int a__top, .ref a_word, .ref a_said, .int v47, .ref a_worth, .ref a_mate, .ref a_wasSaid, .int 0, .int a__boughtNow, .ref a_wayBy, .ref a_wayThen, .int a__walkMost, .int a__walkGoing, .int a__walkSet, .ref a_kept, .long a__drawX, .ref a_images, .ref a_imageX, .ref a_isMade])), (a_imageX, .inl (cs 0, 4, .inl a_imageX_c)), (a_worth, .inl (cs 0, 4096, .inl a_worth_c)), (a_mate, .inl (cs 0, 4096, .inl a_mate_c))] := hD
      refine lv_iconst (v := 0) hx hb dX12_back_38 (by decide) ?_
      refine lv_istore_n (lv' := [(2, .int 0), (0, .ref a), (1, .int p0)]) hx hb dX12_back_39 rfl hl (by decide) rfl (fun ls hl => ?_)
      exact K40 _ ((0 : Int32)) a_said_c v47 (Nat.le_refl _) hv47 (iv_c (by decide)) h42 (cpf_0) ev47 (by omega) H locs (hP.sub (ws' := [(a_said, .inl (cs 0, 123, .inl a_said_c)), (a_isMade, .inl (cs 2, 4, .inl a_isMade_c)), (a_images, .inl (cs 0, 492, .inl a_images_c)), (a_wasSaid, .inl (cs 0, 1720, .inl a_wasSaid_c)), (a, .inr (12, [.ref a_tape, .int a__taped, .int a__rules, .ref a_sign, .ref a_length, .ref a_clause, .ref a_clauses, .ref a_read, .int a__next, .int a__wrong, .int a__number, .int a__text, .int a__made, .int a__deep, .int a__lines, .ref a_open, .int a__opened, .ref a_stack, .int a__top, .ref a_word, .ref a_said, .int v47, .ref a_worth, .ref a_mate, .ref a_wasSaid, .int 0, .int a__boughtNow, .ref a_wayBy, .ref a_wayThen, .int a__walkMost, .int a__walkGoing, .int a__walkSet, .ref a_kept, .long a__drawX, .ref a_images, .ref a_imageX, .ref a_isMade])), (a_imageX, .inl (cs 0, 4, .inl a_imageX_c)), (a_worth, .inl (cs 0, 4096, .inl a_worth_c)), (a_mate, .inl (cs 0, 4096, .inl a_mate_c))]) [0, 1, 2, 3, 4, 5, 6, 7] rfl) (hD.sub (ws' := [(a_said, .inl (cs 0, 123, .inl a_said_c)), (a_isMade, .inl (cs 2, 4, .inl a_isMade_c)), (a_images, .inl (cs 0, 492, .inl a_images_c)), (a_wasSaid, .inl (cs 0, 1720, .inl a_wasSaid_c)), (a, .inr (12, [.ref a_tape, .int a__taped, .int a__rules, .ref a_sign, .ref a_length, .ref a_clause, .ref a_clauses, .ref a_read, .int a__next, .int a__wrong, .int a__number, .int a__text, .int a__made, .int a__deep, .int a__lines, .ref a_open, .int a__opened, .ref a_stack, .int a__top, .ref a_word, .ref a_said, .int v47, .ref a_worth, .ref a_mate, .ref a_wasSaid, .int 0, .int a__boughtNow, .ref a_wayBy, .ref a_wayThen, .int a__walkMost, .int a__walkGoing, .int a__walkSet, .ref a_kept, .long a__drawX, .ref a_images, .ref a_imageX, .ref a_isMade])), (a_imageX, .inl (cs 0, 4, .inl a_imageX_c)), (a_worth, .inl (cs 0, 4096, .inl a_worth_c)), (a_mate, .inl (cs 0, 4096, .inl a_mate_c))]) [0, 1, 2, 3, 4, 5, 6, 7] (by decide) rfl) hS ls (lv_sub hl [0, 1, 2] rfl)
    · have t49 : v44.toInt = 0 := lin_eqN c45 rfl (by decide)
      have h50 : IV 0 0 v44 := iv_eq1 c45 iv_top (iv_c (a := 0) (b := 0) (by decide)) (by decide) (by decide)
      have ii51 : 0 ≤ v44.toInt ∧ v44.toInt ≤ 0 := h50
      refine lv_iconst (v := (-1)) hx hb dX12_back_21 (by decide) ?_
      refine W.widen (k := 0) (n := 0) (Nat.le_of_ble_eq_true rfl) (Nat.le_of_ble_eq_true rfl) ?_
      have g52 : ¬ (0 ≤ p0.toInt ∧ p0.toInt ≤ 3) ∨ (a_isMade_c (Int32.toNatClampNeg p0)).toInt = 0 := (Or.inr (by omega))
      have g53 : a__x = a__x := (rfl)
      exact W.iret (v := (-1)) hx hb hr (fun t ht hW => ⟨⟨(-1), (fun k => match k with | 0 => 0 | 1 => a__x | 2 => a__undone | _ => 0, fun k => match k with | 0 => a_mate_c | 1 => a_said_c | 2 => a_worth_c | _ => fun _ => 0), rfl, (Or.inl (⟨rfl, h_a__x, h_a__undone, h_a_mate_c, hf0, hf1, hf2, hf4, g52, g53⟩)), by rw [ht]; exact hP.sub [0, 1, 2, 3, 4, 5, 6, 7] rfl, hD.sub [0, 1, 2, 3, 4, 5, 6, 7] (by decide) rfl⟩, hS.F ht⟩) hS.2.2 dX12_back_22
