theorem dX7_takeWord_0 : decode cX7_takeWord 0 = .ok (.aload_n 0, 1) := by decide +kernel
theorem dX7_takeWord_1 : decode cX7_takeWord 1 = .ok (.invokevirtual 29, 3) := by decide +kernel
theorem dX7_takeWord_4 : decode cX7_takeWord 4 = .ok (.aload_n 0, 1) := by decide +kernel
theorem dX7_takeWord_5 : decode cX7_takeWord 5 = .ok (.getfield 19, 3) := by decide +kernel
theorem dX7_takeWord_8 : decode cX7_takeWord 8 = .ok (.istore_n 2, 1) := by decide +kernel
theorem dX7_takeWord_9 : decode cX7_takeWord 9 = .ok (.aload_n 0, 1) := by decide +kernel
theorem dX7_takeWord_10 : decode cX7_takeWord 10 = .ok (.getfield 19, 3) := by decide +kernel
theorem dX7_takeWord_13 : decode cX7_takeWord 13 = .ok (.aload_n 0, 1) := by decide +kernel
theorem dX7_takeWord_14 : decode cX7_takeWord 14 = .ok (.getfield 15, 3) := by decide +kernel
theorem dX7_takeWord_17 : decode cX7_takeWord 17 = .ok (.if_icmp .ge 44, 3) := by decide +kernel
theorem dX7_takeWord_61 : decode cX7_takeWord 61 = .ok (.iconst 0, 1) := by decide +kernel
theorem dX7_takeWord_62 : decode cX7_takeWord 62 = .ok (.istore_n 3, 1) := by decide +kernel
theorem dX7_takeWord_63 : decode cX7_takeWord 63 = .ok (.iload_n 2, 1) := by decide +kernel
theorem dX7_takeWord_64 : decode cX7_takeWord 64 = .ok (.istore 4, 2) := by decide +kernel
theorem dX7_takeWord_66 : decode cX7_takeWord 66 = .ok (.iconst 1, 1) := by decide +kernel
theorem dX7_takeWord_67 : decode cX7_takeWord 67 = .ok (.istore 5, 2) := by decide +kernel
theorem dX7_takeWord_69 : decode cX7_takeWord 69 = .ok (.iconst 0, 1) := by decide +kernel
theorem dX7_takeWord_70 : decode cX7_takeWord 70 = .ok (.istore 6, 2) := by decide +kernel
theorem dX7_takeWord_72 : decode cX7_takeWord 72 = .ok (.iload 6, 2) := by decide +kernel
theorem dX7_takeWord_74 : decode cX7_takeWord 74 = .ok (.aload_n 1, 1) := by decide +kernel
theorem dX7_takeWord_75 : decode cX7_takeWord 75 = .ok (.invokevirtual 40, 3) := by decide +kernel
theorem dX7_takeWord_78 : decode cX7_takeWord 78 = .ok (.if_icmp .ge 88, 3) := by decide +kernel
theorem dX7_takeWord_81 : decode cX7_takeWord 81 = .ok (.aload_n 1, 1) := by decide +kernel
theorem dX7_takeWord_82 : decode cX7_takeWord 82 = .ok (.iload 6, 2) := by decide +kernel
theorem dX7_takeWord_84 : decode cX7_takeWord 84 = .ok (.invokevirtual 44, 3) := by decide +kernel
theorem dX7_takeWord_87 : decode cX7_takeWord 87 = .ok (.bipush 32, 2) := by decide +kernel
theorem dX7_takeWord_89 : decode cX7_takeWord 89 = .ok (.if_icmp .eq 46, 3) := by decide +kernel
theorem dX7_takeWord_92 : decode cX7_takeWord 92 = .ok (.iload 5, 2) := by decide +kernel
theorem dX7_takeWord_94 : decode cX7_takeWord 94 = .ok (.ifCond .eq 32, 3) := by decide +kernel
theorem dX7_takeWord_97 : decode cX7_takeWord 97 = .ok (.iload 4, 2) := by decide +kernel
theorem dX7_takeWord_99 : decode cX7_takeWord 99 = .ok (.aload_n 0, 1) := by decide +kernel
theorem dX7_takeWord_100 : decode cX7_takeWord 100 = .ok (.getfield 19, 3) := by decide +kernel
theorem dX7_takeWord_103 : decode cX7_takeWord 103 = .ok (.if_icmp .ge 23, 3) := by decide +kernel
theorem dX7_takeWord_126 : decode cX7_takeWord 126 = .ok (.iconst 0, 1) := by decide +kernel
theorem dX7_takeWord_127 : decode cX7_takeWord 127 = .ok (.istore 5, 2) := by decide +kernel
theorem dX7_takeWord_129 : decode cX7_takeWord 129 = .ok (.iinc 4 1, 3) := by decide +kernel
theorem dX7_takeWord_132 : decode cX7_takeWord 132 = .ok (.goto 28, 3) := by decide +kernel
theorem dX7_takeWord_135 : decode cX7_takeWord 135 = .ok (.iload 5, 2) := by decide +kernel
theorem dX7_takeWord_137 : decode cX7_takeWord 137 = .ok (.ifCond .eq 14, 3) := by decide +kernel
theorem dX7_takeWord_151 : decode cX7_takeWord 151 = .ok (.iinc 3 1, 3) := by decide +kernel
theorem dX7_takeWord_154 : decode cX7_takeWord 154 = .ok (.iload_n 2, 1) := by decide +kernel
theorem dX7_takeWord_155 : decode cX7_takeWord 155 = .ok (.istore 4, 2) := by decide +kernel
theorem dX7_takeWord_157 : decode cX7_takeWord 157 = .ok (.iconst 1, 1) := by decide +kernel
theorem dX7_takeWord_158 : decode cX7_takeWord 158 = .ok (.istore 5, 2) := by decide +kernel
theorem dX7_takeWord_160 : decode cX7_takeWord 160 = .ok (.iinc 6 1, 3) := by decide +kernel
theorem dX7_takeWord_163 : decode cX7_takeWord 163 = .ok (.goto (-91), 3) := by decide +kernel
theorem dX7_takeWord_166 : decode cX7_takeWord 166 = .ok (.aload_n 0, 1) := by decide +kernel
theorem dX7_takeWord_167 : decode cX7_takeWord 167 = .ok (.iload_n 2, 1) := by decide +kernel
theorem dX7_takeWord_168 : decode cX7_takeWord 168 = .ok (.putfield 19, 3) := by decide +kernel
theorem dX7_takeWord_171 : decode cX7_takeWord 171 = .ok (.iconst (-1), 1) := by decide +kernel
theorem dX7_takeWord_172 : decode cX7_takeWord 172 = .ok (.ireturn, 1) := by decide +kernel
set_option maxHeartbeats 4000000 in
set_option maxRecDepth 100000 in
theorem c_X7_takeWord (l : Launch) (D : va_G) (cs : Nat → ClassId) (kK kV : Nat → Nat) (a : Nat) (b : Nat) (ft : Int32) (k : Nat) (hk : k < 2) (sz : Nat) : Met l yX7_takeWord (hz_w yX7_takeWord cX7_takeWord 7 (some .int)) ({ frames := 4, cells := 0, slots := 0, locals := 85 }) (va_Pc [.ref a, .ref (kK k)] (hz_C D cs kK kV sz [(a, .inr (7, [.ref b, .int 0, .int 0, .int ft]))])) (va_Qi (fun (r : Int32) (_ : Unit) => r = -1) (fun _ t => va_P D classes [(a, .inr (7, [.ref b, .int 0, .int 0, .int ft]))] t.heap ∧ va_D (va_A [(a, .inr (7, [.ref b, .int 0, .int 0, .int ft]))] sz) [(a, .inr (7, [.ref b, .int 0, .int 0, .int ft]))]) (va_A [(a, .inr (7, [.ref b, .int 0, .int 0, .int ft]))] sz)) 0 0 (va_A [(a, .inr (7, [.ref b, .int 0, .int 0, .int ft]))] sz) := by
  refine Met.ofW (cc := cX7_takeWord) (maxL := 7) (ret := (some .int)) (by decide) rfl ?_
  intro p e s m args below meth c s₁ B hml hv
  obtain ⟨rfl, hsz, hP, hD0, hE⟩ := hv
  have hx := B.exec
  have hb := B.bytes
  have hr := B.returns
  have hT : ∀ w ∈ TB, w.before _ s = true := fun w h => atoms_spec (ws := hz_w yX7_takeWord cX7_takeWord 7 (some .int)) B.pre w (List.mem_cons_of_mem _ h)
  have hown : s.vm.findClass RX7 = some m.cls := findClass_of_methodNamed B.named
  have hlocks := B.notSynchronized
  clear B
  subst hsz
  have hD := hD0.self (sz := s.heap.size)
  generalize hAe : va_A [(a, .inr (7, [.ref b, .int 0, .int 0, .int ft]))] s.heap.size = A at hD hE ⊢
  have hA : ∀ q : Nat, s.heap.size ≤ q → A q := fun q h => by rw [← hAe]; exact Or.inr h
  clear hAe hD0
  have hS : va_S A s.heap s.heap [] := va_S.rf
  have hK := hE.1
  have hl := lv_entry ([.ref a, .ref (kK k)]) (n := 7) (Nat.le_of_ble_eq_true rfl)
  rw [lg_entry_eq]
  generalize (lg_sl ([.ref a, .ref (kK k)]) ++ List.replicate (7 - (lg_sl ([.ref a, .ref (kK k)])).length) Slot.unset).toArray = ls at hl ⊢
  have hl : lv_has ls 7 [(0, .ref a), (1, .ref (kK k))] := hl
  obtain ⟨H, eH⟩ : ∃ z, z = s.heap := ⟨_, rfl⟩
  have hP : va_P D classes [(a, .inr (7, [.ref b, .int 0, .int 0, .int ft]))] H := by rw [eH]; exact hP
  have hS : va_S A s.heap H [] := by rw [eH]; exact hS
  rw [← eH]
  clear eH
  refine lv_aload_n hx hb dX7_takeWord_0 rfl (lv_at hl 0 rfl) ?_
  refine va_callv (va_runV (As := []) (rest := []) ⟨hx, hb, hml, hown, hT⟩ (c_X7_skip l D cs kK kV a b ft) (cwV 0 hT (hz_gV q_93 q_94 q_95 q_96 q_97) rfl rfl rfl (by decide +kernel) ⟨(Nat.le_of_ble_eq_true rfl), (Nat.le_of_ble_eq_true rfl)⟩) ⟨hz_P.blind, va_recv hK hP (ci := 7) (q0 := 0) rfl rfl, hz_P.mk (hP.sub (ws' := [(a, .inr (7, [.ref b, .int 0, .int 0, .int ft]))]) [0] rfl) hE hS⟩ rfl rfl hl.1 rfl (lv_room (Nat.le_of_ble_eq_true rfl)) dX7_takeWord_1 ⟨(Nat.le_of_ble_eq_true rfl), (Nat.le_of_ble_eq_true rfl)⟩) hS (fun _ _ h => h.elim) (fun _ h => h.elim) (fun u t H1 locs ht hvm hw hB hz1 hk1 hS => ?_)
  have hP := hz_keep hP hk1
  clear hk1 hB hz1
  generalize H1 = H at hP hS ⊢
  refine lv_aload_n hx hb dX7_takeWord_4 rfl (lv_at hl 0 rfl) ?_
  refine va_get (D := D) (ci := 7) (v := .int 0) (C := RX7) (T := TX7) (N := 4) hx hb hT i_X7 hown hK hP 0 rfl rfl 2 (by decide) (hT _ q_91) (fun _ h9 => h9) rfl dX7_takeWord_5 ?_
  refine lv_istore_n (lv' := [(2, .int 0), (0, .ref a), (1, .ref (kK k))]) hx hb dX7_takeWord_8 rfl hl (by decide) rfl (fun ls hl => ?_)
  refine lv_aload_n hx hb dX7_takeWord_9 rfl (lv_at hl 1 rfl) ?_
  refine va_get (D := D) (ci := 7) (v := .int 0) (C := RX7) (T := TX7) (N := 4) hx hb hT i_X7 hown hK hP 0 rfl rfl 2 (by decide) (hT _ q_91) (fun _ h9 => h9) rfl dX7_takeWord_10 ?_
  refine lv_aload_n hx hb dX7_takeWord_13 rfl (lv_at hl 1 rfl) ?_
  refine va_get (D := D) (ci := 7) (v := .int 0) (C := RX7) (T := TX7) (N := 4) hx hb hT i_X7 hown hK hP 0 rfl rfl 1 (by decide) (hT _ q_92) (fun _ h9 => h9) rfl dX7_takeWord_14 ?_
  refine lv_icmp_ge (tgt := 61) hx hb dX7_takeWord_17 (by decide) (fun _ => ?_) (fun z => absurd (by decide) z)
  refine lv_iconst (v := 0) hx hb dX7_takeWord_61 (by decide) ?_
  refine lv_istore_n (lv' := [(3, .int 0), (2, .int 0), (0, .ref a), (1, .ref (kK k))]) hx hb dX7_takeWord_62 rfl hl (by decide) rfl (fun ls hl => ?_)
  refine lv_iload_n hx hb dX7_takeWord_63 rfl (lv_at hl 1 rfl) ?_
  refine lv_istore (lv' := [(4, .int 0), (3, .int 0), (2, .int 0), (0, .ref a), (1, .ref (kK k))]) hx hb dX7_takeWord_64 hl (by decide) rfl (fun ls hl => ?_)
  refine lv_iconst (v := 1) hx hb dX7_takeWord_66 (by decide) ?_
  refine lv_istore (lv' := [(5, .int 1), (4, .int 0), (3, .int 0), (2, .int 0), (0, .ref a), (1, .ref (kK k))]) hx hb dX7_takeWord_67 hl (by decide) rfl (fun ls hl => ?_)
  refine lv_iconst (v := 0) hx hb dX7_takeWord_69 (by decide) ?_
  refine lv_istore (lv' := [(6, .int 0), (5, .int 1), (4, .int 0), (3, .int 0), (2, .int 0), (0, .ref a), (1, .ref (kK k))]) hx hb dX7_takeWord_70 hl (by decide) rfl (fun ls hl => ?_)
  have LOOP : ∀ (n i : Nat) (i3 i4 i5 : Int32), i + n = hz_len.getD k 0 → ((i5 = 1 ∧ i4 = 0 ∧ (i < hz_len.getD k 0 → ¬ hz_ch k i = 32)) ∨ i5 = 0) → ∀ (H : Heap) (locs : List Loc), va_P D classes [(a, .inr (7, [.ref b, .int 0, .int 0, .int ft]))] H → va_S A s.heap H locs → ∀ ls : Array Slot, lv_has ls 7 [(6, .int (nI i)), (5, .int i5), (4, .int i4), (3, .int i3), (2, .int 0), (0, .ref a), (1, .ref (kK k))] → W p l e (headSpec (hz_w yX7_takeWord cX7_takeWord 7 (some .int)) ({ frames := 4, cells := 0, slots := 0, locals := 85 })).room s m [.ref a, .ref (kK k)].toArray below meth c H locs 0 0 (MQ below (va_Qi (fun (r : Int32) (_ : Unit) => r = -1) (fun _ t => va_P D classes [(a, .inr (7, [.ref b, .int 0, .int 0, .int ft]))] t.heap ∧ va_D A [(a, .inr (7, [.ref b, .int 0, .int 0, .int ft]))]) A) [.ref a, .ref (kK k)].toArray s 0 0 A) (F0 m 72 ls []) := by
    intro n
    induction n with
    | zero =>
      intro i i3 i4 i5 hin hv9 H locs hP hS ls hl
      have hge : nI (hz_len.getD k 0) ≤ nI i := nI_le (by omega) (Nat.lt_of_le_of_lt (by omega) (hz_l31 (k := k)))
      refine lv_iload hx hb dX7_takeWord_72 (lv_at hl 0 rfl) ?_
      refine lv_aload_n hx hb dX7_takeWord_74 rfl (lv_at hl 6 rfl) ?_
      refine va_calli (va_runV (As := []) (rest := [.int (nI i)]) ⟨hx, hb, hml, hown, hT⟩ (c_J0_length l D cs kK kV k hk) (cwV 0 hT (hz_gV q_98 q_99 q_100 q_69 q_101) rfl rfl rfl (by decide +kernel) ⟨(Nat.le_of_ble_eq_true rfl), (Nat.le_of_ble_eq_true rfl)⟩) ⟨hz_P.blind, vk_recv hE.2.2.2.1 (i := k) hk hS, hz_P.mk (hP.sub (ws' := []) [] rfl) hE hS⟩ rfl rfl hl.1 rfl (lv_room (Nat.le_of_ble_eq_true rfl)) dX7_takeWord_75 ⟨(Nat.le_of_ble_eq_true rfl), (Nat.le_of_ble_eq_true rfl)⟩) hS (fun _ _ h => h.elim) (fun _ h => h.elim) (fun r_2 u t H1 locs ht hvm hw hB hz1 hk1 hS => ?_)
      have hP := hz_keep hP hk1
      clear hk1 hB hz1
      generalize H1 = H at hP hS ⊢
      subst hw
      refine lv_icmp_ge (tgt := 166) hx hb dX7_takeWord_78 (by decide) (fun _ => ?_) (fun z => absurd hge z)
      refine lv_aload_n hx hb dX7_takeWord_166 rfl (lv_at hl 5 rfl) ?_
      refine lv_iload_n hx hb dX7_takeWord_167 rfl (lv_at hl 4 rfl) ?_
      refine va_put (D := D) (ci := 7) (v := .int 0) (ty := .int) (C := RX7) (T := TX7) (N := 4) hx hb hT i_X7 tyX7 tyX7_ok nmX7 hown hK hP hD hS 0 rfl rfl 2 (by decide) (hT _ q_91) (fun _ h9 => h9) rfl (by decide +kernel) rfl rfl (Nat.le_of_ble_eq_true rfl) dX7_takeWord_168 (fun H locs hP hD hS => ?_)
      have hP : va_P D classes [(a, .inr (7, [.ref b, .int 0, .int 0, .int ft]))] H := hP
      have hD : va_D A [(a, .inr (7, [.ref b, .int 0, .int 0, .int ft]))] := hD
      refine lv_iconst (v := -1) hx hb dX7_takeWord_171 (by decide) ?_
      exact W.iret (v := -1) hx hb hr (fun t ht hW => ⟨⟨-1, (), rfl, rfl, by rw [ht]; exact hP.sub [0] rfl, hD.sub [0] (by decide) rfl⟩, hS.F ht⟩) hS.2.2 dX7_takeWord_172
    | succ n ih =>
      intro i i3 i4 i5 hin hv9 H locs hP hS ls hl
      have hi : i < hz_len.getD k 0 := by omega
      have hge : ¬ nI (hz_len.getD k 0) ≤ nI i := nI_ge hi hz_l31
      rcases hv9 with ⟨rfl, rfl, hc9⟩ | rfl
      · refine lv_iload hx hb dX7_takeWord_72 (lv_at hl 0 rfl) ?_
        refine lv_aload_n hx hb dX7_takeWord_74 rfl (lv_at hl 6 rfl) ?_
        refine va_calli (va_runV (As := []) (rest := [.int (nI i)]) ⟨hx, hb, hml, hown, hT⟩ (c_J0_length l D cs kK kV k hk) (cwV 0 hT (hz_gV q_98 q_99 q_100 q_69 q_101) rfl rfl rfl (by decide +kernel) ⟨(Nat.le_of_ble_eq_true rfl), (Nat.le_of_ble_eq_true rfl)⟩) ⟨hz_P.blind, vk_recv hE.2.2.2.1 (i := k) hk hS, hz_P.mk (hP.sub (ws' := []) [] rfl) hE hS⟩ rfl rfl hl.1 rfl (lv_room (Nat.le_of_ble_eq_true rfl)) dX7_takeWord_75 ⟨(Nat.le_of_ble_eq_true rfl), (Nat.le_of_ble_eq_true rfl)⟩) hS (fun _ _ h => h.elim) (fun _ h => h.elim) (fun r_3 u t H1 locs ht hvm hw hB hz1 hk1 hS => ?_)
        have hP := hz_keep hP hk1
        clear hk1 hB hz1
        generalize H1 = H at hP hS ⊢
        subst hw
        refine lv_icmp_ge (tgt := 166) hx hb dX7_takeWord_78 (by decide) (fun z => absurd z hge) (fun _ => ?_)
        refine lv_aload_n hx hb dX7_takeWord_81 rfl (lv_at hl 6 rfl) ?_
        refine lv_iload hx hb dX7_takeWord_82 (lv_at hl 0 rfl) ?_
        refine va_calli (va_runV (As := [.int (nI i)]) (rest := []) ⟨hx, hb, hml, hown, hT⟩ (c_J0_charAt l D cs kK kV k hk i hi) (cwV 1 hT (hz_gV q_102 q_103 q_104 q_69 q_105) rfl rfl rfl (by decide +kernel) ⟨(Nat.le_of_ble_eq_true rfl), (Nat.le_of_ble_eq_true rfl)⟩) ⟨hz_P.blind, vk_recv hE.2.2.2.1 (i := k) hk hS, hz_P.mk (hP.sub (ws' := []) [] rfl) hE hS⟩ rfl rfl hl.1 rfl (lv_room (Nat.le_of_ble_eq_true rfl)) dX7_takeWord_84 ⟨(Nat.le_of_ble_eq_true rfl), (Nat.le_of_ble_eq_true rfl)⟩) hS (fun _ _ h => h.elim) (fun _ h => h.elim) (fun r_4 u t H1 locs ht hvm hw hB hz1 hk1 hS => ?_)
        have hP := hz_keep hP hk1
        clear hk1 hB hz1
        generalize H1 = H at hP hS ⊢
        subst hw
        refine lv_bipush (v := 32) hx hb dX7_takeWord_87 (by decide) ?_
        refine lv_icmp_eq (tgt := 135) hx hb dX7_takeWord_89 (by decide) (fun z => absurd z (hc9 hi)) (fun _ => ?_)
        refine lv_iload hx hb dX7_takeWord_92 (lv_at hl 1 rfl) ?_
        refine lv_if_eq (tgt := 126) hx hb dX7_takeWord_94 (by decide) (fun z => absurd z (by decide)) (fun _ => ?_)
        refine lv_iload hx hb dX7_takeWord_97 (lv_at hl 2 rfl) ?_
        refine lv_aload_n hx hb dX7_takeWord_99 rfl (lv_at hl 5 rfl) ?_
        refine va_get (D := D) (ci := 7) (v := .int 0) (C := RX7) (T := TX7) (N := 4) hx hb hT i_X7 hown hK hP 0 rfl rfl 2 (by decide) (hT _ q_91) (fun _ h9 => h9) rfl dX7_takeWord_100 ?_
        refine lv_icmp_ge (tgt := 126) hx hb dX7_takeWord_103 (by decide) (fun _ => ?_) (fun z => absurd (by decide) z)
        refine lv_iconst (v := 0) hx hb dX7_takeWord_126 (by decide) ?_
        refine lv_istore (lv' := [(5, .int 0), (6, .int (nI i)), (4, .int 0), (3, .int i3), (2, .int 0), (0, .ref a), (1, .ref (kK k))]) hx hb dX7_takeWord_127 hl (by decide) rfl (fun ls hl => ?_)
        refine lv_iinc (v := 1) (lv' := [(4, .int 1), (5, .int 0), (6, .int (nI i)), (3, .int i3), (2, .int 0), (0, .ref a), (1, .ref (kK k))]) hx hb dX7_takeWord_129 hl (k := 2) rfl (by decide) (by decide) rfl (fun ls hl => ?_)
        refine lv_goto (tgt := 160) hx hb dX7_takeWord_132 (by decide) ?_
        refine lv_iinc (v := (nI i) + 1) (lv' := [(6, .int ((nI i) + 1)), (4, .int 1), (5, .int 0), (3, .int i3), (2, .int 0), (0, .ref a), (1, .ref (kK k))]) hx hb dX7_takeWord_160 hl (k := 2) rfl rfl (by decide) rfl (fun ls hl => ?_)
        refine lv_goto (tgt := 72) hx hb dX7_takeWord_163 (by decide) ?_
        exact ih (i + 1) _ _ _ (by omega) (Or.inr rfl) H locs hP hS ls (lv_sub hl [0, 2, 1, 3, 4, 5, 6] (by rw [nI_succ]; rfl))
      · refine lv_iload hx hb dX7_takeWord_72 (lv_at hl 0 rfl) ?_
        refine lv_aload_n hx hb dX7_takeWord_74 rfl (lv_at hl 6 rfl) ?_
        refine va_calli (va_runV (As := []) (rest := [.int (nI i)]) ⟨hx, hb, hml, hown, hT⟩ (c_J0_length l D cs kK kV k hk) (cwV 0 hT (hz_gV q_98 q_99 q_100 q_69 q_101) rfl rfl rfl (by decide +kernel) ⟨(Nat.le_of_ble_eq_true rfl), (Nat.le_of_ble_eq_true rfl)⟩) ⟨hz_P.blind, vk_recv hE.2.2.2.1 (i := k) hk hS, hz_P.mk (hP.sub (ws' := []) [] rfl) hE hS⟩ rfl rfl hl.1 rfl (lv_room (Nat.le_of_ble_eq_true rfl)) dX7_takeWord_75 ⟨(Nat.le_of_ble_eq_true rfl), (Nat.le_of_ble_eq_true rfl)⟩) hS (fun _ _ h => h.elim) (fun _ h => h.elim) (fun r_5 u t H1 locs ht hvm hw hB hz1 hk1 hS => ?_)
        have hP := hz_keep hP hk1
        clear hk1 hB hz1
        generalize H1 = H at hP hS ⊢
        subst hw
        refine lv_icmp_ge (tgt := 166) hx hb dX7_takeWord_78 (by decide) (fun z => absurd z hge) (fun _ => ?_)
        refine lv_aload_n hx hb dX7_takeWord_81 rfl (lv_at hl 6 rfl) ?_
        refine lv_iload hx hb dX7_takeWord_82 (lv_at hl 0 rfl) ?_
        refine va_calli (va_runV (As := [.int (nI i)]) (rest := []) ⟨hx, hb, hml, hown, hT⟩ (c_J0_charAt l D cs kK kV k hk i hi) (cwV 1 hT (hz_gV q_102 q_103 q_104 q_69 q_105) rfl rfl rfl (by decide +kernel) ⟨(Nat.le_of_ble_eq_true rfl), (Nat.le_of_ble_eq_true rfl)⟩) ⟨hz_P.blind, vk_recv hE.2.2.2.1 (i := k) hk hS, hz_P.mk (hP.sub (ws' := []) [] rfl) hE hS⟩ rfl rfl hl.1 rfl (lv_room (Nat.le_of_ble_eq_true rfl)) dX7_takeWord_84 ⟨(Nat.le_of_ble_eq_true rfl), (Nat.le_of_ble_eq_true rfl)⟩) hS (fun _ _ h => h.elim) (fun _ h => h.elim) (fun r_6 u t H1 locs ht hvm hw hB hz1 hk1 hS => ?_)
        have hP := hz_keep hP hk1
        clear hk1 hB hz1
        generalize H1 = H at hP hS ⊢
        subst hw
        refine lv_bipush (v := 32) hx hb dX7_takeWord_87 (by decide) ?_
        refine lv_icmp_eq (tgt := 135) hx hb dX7_takeWord_89 (by decide) (fun c_7 => ?_) (fun c_7 => ?_)
        · refine lv_iload hx hb dX7_takeWord_135 (lv_at hl 1 rfl) ?_
          refine lv_if_eq (tgt := 151) hx hb dX7_takeWord_137 (by decide) (fun _ => ?_) (fun z => absurd (by decide) z)
          refine lv_iinc (v := i3 + 1) (lv' := [(3, .int (i3 + 1)), (6, .int (nI i)), (5, .int 0), (4, .int i4), (2, .int 0), (0, .ref a), (1, .ref (kK k))]) hx hb dX7_takeWord_151 hl (k := 3) rfl rfl (by decide) rfl (fun ls hl => ?_)
          refine lv_iload_n hx hb dX7_takeWord_154 rfl (lv_at hl 4 rfl) ?_
          refine lv_istore (lv' := [(4, .int 0), (3, .int (i3 + 1)), (6, .int (nI i)), (5, .int 0), (2, .int 0), (0, .ref a), (1, .ref (kK k))]) hx hb dX7_takeWord_155 hl (by decide) rfl (fun ls hl => ?_)
          refine lv_iconst (v := 1) hx hb dX7_takeWord_157 (by decide) ?_
          refine lv_istore (lv' := [(5, .int 1), (4, .int 0), (3, .int (i3 + 1)), (6, .int (nI i)), (2, .int 0), (0, .ref a), (1, .ref (kK k))]) hx hb dX7_takeWord_158 hl (by decide) rfl (fun ls hl => ?_)
          refine lv_iinc (v := (nI i) + 1) (lv' := [(6, .int ((nI i) + 1)), (5, .int 1), (4, .int 0), (3, .int (i3 + 1)), (2, .int 0), (0, .ref a), (1, .ref (kK k))]) hx hb dX7_takeWord_160 hl (k := 3) rfl rfl (by decide) rfl (fun ls hl => ?_)
          refine lv_goto (tgt := 72) hx hb dX7_takeWord_163 (by decide) ?_
          exact ih (i + 1) _ _ _ (by omega) (Or.inl ⟨rfl, rfl, fun h => hz_next hk h c_7⟩) H locs hP hS ls (lv_sub hl [0, 1, 2, 3, 4, 5, 6] (by rw [nI_succ]; rfl))
        · refine lv_iload hx hb dX7_takeWord_92 (lv_at hl 1 rfl) ?_
          refine lv_if_eq (tgt := 126) hx hb dX7_takeWord_94 (by decide) (fun _ => ?_) (fun z => absurd (by decide) z)
          refine lv_iconst (v := 0) hx hb dX7_takeWord_126 (by decide) ?_
          refine lv_istore (lv' := [(5, .int 0), (6, .int (nI i)), (4, .int i4), (3, .int i3), (2, .int 0), (0, .ref a), (1, .ref (kK k))]) hx hb dX7_takeWord_127 hl (by decide) rfl (fun ls hl => ?_)
          refine lv_iinc (v := i4 + 1) (lv' := [(4, .int (i4 + 1)), (5, .int 0), (6, .int (nI i)), (3, .int i3), (2, .int 0), (0, .ref a), (1, .ref (kK k))]) hx hb dX7_takeWord_129 hl (k := 2) rfl rfl (by decide) rfl (fun ls hl => ?_)
          refine lv_goto (tgt := 160) hx hb dX7_takeWord_132 (by decide) ?_
          refine lv_iinc (v := (nI i) + 1) (lv' := [(6, .int ((nI i) + 1)), (4, .int (i4 + 1)), (5, .int 0), (3, .int i3), (2, .int 0), (0, .ref a), (1, .ref (kK k))]) hx hb dX7_takeWord_160 hl (k := 2) rfl rfl (by decide) rfl (fun ls hl => ?_)
          refine lv_goto (tgt := 72) hx hb dX7_takeWord_163 (by decide) ?_
          exact ih (i + 1) _ _ _ (by omega) (Or.inr rfl) H locs hP hS ls (lv_sub hl [0, 2, 1, 3, 4, 5, 6] (by rw [nI_succ]; rfl))
  exact LOOP (hz_len.getD k 0) 0 0 0 1 (by omega) (Or.inl ⟨rfl, rfl, fun _ => hz_first hk⟩) H locs hP hS ls (lv_sub hl [0, 1, 2, 3, 4, 5, 6] rfl)
