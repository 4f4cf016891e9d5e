theorem dX8_isHalf_0 : decode cX8_isHalf 0 = .ok (.iload_n 1, 1) := by decide +kernel
theorem dX8_isHalf_1 : decode cX8_isHalf 1 = .ok (.ifCond .lt 15, 3) := by decide +kernel
theorem dX8_isHalf_4 : decode cX8_isHalf 4 = .ok (.iload_n 1, 1) := by decide +kernel
theorem dX8_isHalf_5 : decode cX8_isHalf 5 = .ok (.aload_n 0, 1) := by decide +kernel
theorem dX8_isHalf_6 : decode cX8_isHalf 6 = .ok (.getfield 49, 3) := by decide +kernel
theorem dX8_isHalf_9 : decode cX8_isHalf 9 = .ok (.if_icmp .ge 7, 3) := by decide +kernel
theorem dX8_isHalf_16 : decode cX8_isHalf 16 = .ok (.iconst 0, 1) := by decide +kernel
theorem dX8_isHalf_17 : decode cX8_isHalf 17 = .ok (.ireturn, 1) := by decide +kernel
set_option maxHeartbeats 4000000 in
set_option maxRecDepth 100000 in
theorem c_X8_isHalf (l : Launch) (D : va_G) (cs : Nat → ClassId) (kK kV : Nat → Nat) (a : Nat) (rr : Nat → Nat) (p0 : Int32) : Met l yX8_isHalf (hz_w yX8_isHalf cX8_isHalf 2 (some .boolean)) ({ frames := 0, cells := 0, slots := 0, locals := 0 }) (va_Pc [.ref a, .int p0] (hz_P D cs kK kV [(a, .inr (8, [.int 0, .int 0, .int 0, .int 0, .int 0, .int 12, .int 5, .int 1, .int 0, .ref (rr 0), .ref (rr 1), .ref (rr 2), .ref (rr 3), .ref (rr 4), .ref (rr 5), .ref (rr 6), .ref (rr 7), .ref (rr 8)]))])) (va_Qi (fun (r : Int32) (_ : Unit) => r = 0) (fun _ t => True) (fun _ => False)) 0 0 (fun _ => False) := by
  refine Met.ofW (cc := cX8_isHalf) (maxL := 2) (ret := (some .boolean)) (by decide) rfl ?_
  intro p e s m args below meth c s₁ B hml hv
  obtain ⟨rfl, hP, hE⟩ := hv
  have hx := B.exec
  have hb := B.bytes
  have hr := B.returns
  have hT : ∀ w ∈ TB, w.before _ s = true := fun w h => atoms_spec (ws := hz_w yX8_isHalf cX8_isHalf 2 (some .boolean)) B.pre w (List.mem_cons_of_mem _ h)
  have hown : s.vm.findClass RX8 = some m.cls := findClass_of_methodNamed B.named
  have hlocks := B.notSynchronized
  clear B
  have hS : va_S (fun _ => False) s.heap s.heap [] := va_S.rf
  have hP : va_P D classes [(a, .inr (8, [.int 0, .int 0, .int 0, .int 0, .int 0, .int 12, .int 5, .int 1, .int 0, .ref (rr 0), .ref (rr 1), .ref (rr 2), .ref (rr 3), .ref (rr 4), .ref (rr 5), .ref (rr 6), .ref (rr 7), .ref (rr 8)]))] s.heap := hP
  have hK := hE.1
  have hl := lv_entry ([.ref a, .int p0]) (n := 2) (Nat.le_of_ble_eq_true rfl)
  rw [lg_entry_eq]
  generalize (lg_sl ([.ref a, .int p0]) ++ List.replicate (2 - (lg_sl ([.ref a, .int p0])).length) Slot.unset).toArray = ls at hl ⊢
  have hl : lv_has ls 2 [(0, .ref a), (1, .int p0)] := hl
  obtain ⟨H, eH⟩ : ∃ z, z = s.heap := ⟨_, rfl⟩
  have hP : va_P D classes [(a, .inr (8, [.int 0, .int 0, .int 0, .int 0, .int 0, .int 12, .int 5, .int 1, .int 0, .ref (rr 0), .ref (rr 1), .ref (rr 2), .ref (rr 3), .ref (rr 4), .ref (rr 5), .ref (rr 6), .ref (rr 7), .ref (rr 8)]))] H := by rw [eH]; exact hP
  have hS : va_S (fun _ => False) s.heap H [] := by rw [eH]; exact hS
  rw [← eH]
  clear eH
  refine lv_iload_n hx hb dX8_isHalf_0 rfl (lv_at hl 1 rfl) ?_
  refine lv_if_lt (tgt := 16) hx hb dX8_isHalf_1 (by decide) (fun c_1 => ?_) (fun c_1 => ?_)
  · refine lv_iconst (v := 0) hx hb dX8_isHalf_16 (by decide) ?_
    exact W.zret (v := 0) hx hb hr rfl (fun t ht hW => ⟨⟨0, (), rfl, rfl, trivial⟩, hS.F ht⟩) hS.2.2 dX8_isHalf_17
  · refine lv_iload_n hx hb dX8_isHalf_4 rfl (lv_at hl 1 rfl) ?_
    refine lv_aload_n hx hb dX8_isHalf_5 rfl (lv_at hl 0 rfl) ?_
    refine va_get (D := D) (ci := 8) (v := .int 0) (C := RX8) (T := TX8) (N := 18) hx hb hT i_X8 hown hK hP 0 rfl rfl 2 (by decide) (hT _ q_106) (fun _ h9 => h9) rfl dX8_isHalf_6 ?_
    refine lv_icmp_ge (tgt := 16) hx hb dX8_isHalf_9 (by decide) (fun _ => ?_) (fun z => absurd (Int32.not_lt.mp c_1) z)
    refine lv_iconst (v := 0) hx hb dX8_isHalf_16 (by decide) ?_
    exact W.zret (v := 0) hx hb hr rfl (fun t ht hW => ⟨⟨0, (), rfl, rfl, trivial⟩, hS.F ht⟩) hS.2.2 dX8_isHalf_17
theorem dX8_isBuyer_0 : decode cX8_isBuyer 0 = .ok (.iload_n 1, 1) := by decide +kernel
theorem dX8_isBuyer_1 : decode cX8_isBuyer 1 = .ok (.ifCond .lt 15, 3) := by decide +kernel
theorem dX8_isBuyer_4 : decode cX8_isBuyer 4 = .ok (.iload_n 1, 1) := by decide +kernel
theorem dX8_isBuyer_5 : decode cX8_isBuyer 5 = .ok (.aload_n 0, 1) := by decide +kernel
theorem dX8_isBuyer_6 : decode cX8_isBuyer 6 = .ok (.getfield 52, 3) := by decide +kernel
theorem dX8_isBuyer_9 : decode cX8_isBuyer 9 = .ok (.if_icmp .ge 7, 3) := by decide +kernel
theorem dX8_isBuyer_16 : decode cX8_isBuyer 16 = .ok (.iconst 0, 1) := by decide +kernel
theorem dX8_isBuyer_17 : decode cX8_isBuyer 17 = .ok (.ireturn, 1) := by decide +kernel
set_option maxHeartbeats 4000000 in
set_option maxRecDepth 100000 in
theorem c_X8_isBuyer (l : Launch) (D : va_G) (cs : Nat → ClassId) (kK kV : Nat → Nat) (a : Nat) (rr : Nat → Nat) (p0 : Int32) : Met l yX8_isBuyer (hz_w yX8_isBuyer cX8_isBuyer 2 (some .boolean)) ({ frames := 0, cells := 0, slots := 0, locals := 0 }) (va_Pc [.ref a, .int p0] (hz_P D cs kK kV [(a, .inr (8, [.int 0, .int 0, .int 0, .int 0, .int 0, .int 12, .int 5, .int 1, .int 0, .ref (rr 0), .ref (rr 1), .ref (rr 2), .ref (rr 3), .ref (rr 4), .ref (rr 5), .ref (rr 6), .ref (rr 7), .ref (rr 8)]))])) (va_Qi (fun (r : Int32) (_ : Unit) => r = 0) (fun _ t => True) (fun _ => False)) 0 0 (fun _ => False) := by
  refine Met.ofW (cc := cX8_isBuyer) (maxL := 2) (ret := (some .boolean)) (by decide) rfl ?_
  intro p e s m args below meth c s₁ B hml hv
  obtain ⟨rfl, hP, hE⟩ := hv
  have hx := B.exec
  have hb := B.bytes
  have hr := B.returns
  have hT : ∀ w ∈ TB, w.before _ s = true := fun w h => atoms_spec (ws := hz_w yX8_isBuyer cX8_isBuyer 2 (some .boolean)) B.pre w (List.mem_cons_of_mem _ h)
  have hown : s.vm.findClass RX8 = some m.cls := findClass_of_methodNamed B.named
  have hlocks := B.notSynchronized
  clear B
  have hS : va_S (fun _ => False) s.heap s.heap [] := va_S.rf
  have hP : va_P D classes [(a, .inr (8, [.int 0, .int 0, .int 0, .int 0, .int 0, .int 12, .int 5, .int 1, .int 0, .ref (rr 0), .ref (rr 1), .ref (rr 2), .ref (rr 3), .ref (rr 4), .ref (rr 5), .ref (rr 6), .ref (rr 7), .ref (rr 8)]))] s.heap := hP
  have hK := hE.1
  have hl := lv_entry ([.ref a, .int p0]) (n := 2) (Nat.le_of_ble_eq_true rfl)
  rw [lg_entry_eq]
  generalize (lg_sl ([.ref a, .int p0]) ++ List.replicate (2 - (lg_sl ([.ref a, .int p0])).length) Slot.unset).toArray = ls at hl ⊢
  have hl : lv_has ls 2 [(0, .ref a), (1, .int p0)] := hl
  obtain ⟨H, eH⟩ : ∃ z, z = s.heap := ⟨_, rfl⟩
  have hP : va_P D classes [(a, .inr (8, [.int 0, .int 0, .int 0, .int 0, .int 0, .int 12, .int 5, .int 1, .int 0, .ref (rr 0), .ref (rr 1), .ref (rr 2), .ref (rr 3), .ref (rr 4), .ref (rr 5), .ref (rr 6), .ref (rr 7), .ref (rr 8)]))] H := by rw [eH]; exact hP
  have hS : va_S (fun _ => False) s.heap H [] := by rw [eH]; exact hS
  rw [← eH]
  clear eH
  refine lv_iload_n hx hb dX8_isBuyer_0 rfl (lv_at hl 1 rfl) ?_
  refine lv_if_lt (tgt := 16) hx hb dX8_isBuyer_1 (by decide) (fun c_1 => ?_) (fun c_1 => ?_)
  · refine lv_iconst (v := 0) hx hb dX8_isBuyer_16 (by decide) ?_
    exact W.zret (v := 0) hx hb hr rfl (fun t ht hW => ⟨⟨0, (), rfl, rfl, trivial⟩, hS.F ht⟩) hS.2.2 dX8_isBuyer_17
  · refine lv_iload_n hx hb dX8_isBuyer_4 rfl (lv_at hl 1 rfl) ?_
    refine lv_aload_n hx hb dX8_isBuyer_5 rfl (lv_at hl 0 rfl) ?_
    refine va_get (D := D) (ci := 8) (v := .int 0) (C := RX8) (T := TX8) (N := 18) hx hb hT i_X8 hown hK hP 0 rfl rfl 3 (by decide) (hT _ q_107) (fun _ h9 => h9) rfl dX8_isBuyer_6 ?_
    refine lv_icmp_ge (tgt := 16) hx hb dX8_isBuyer_9 (by decide) (fun _ => ?_) (fun z => absurd (Int32.not_lt.mp c_1) z)
    refine lv_iconst (v := 0) hx hb dX8_isBuyer_16 (by decide) ?_
    exact W.zret (v := 0) hx hb hr rfl (fun t ht hW => ⟨⟨0, (), rfl, rfl, trivial⟩, hS.F ht⟩) hS.2.2 dX8_isBuyer_17
theorem dX8_matchHalves_0 : decode cX8_matchHalves 0 = .ok (.iconst 0, 1) := by decide +kernel
theorem dX8_matchHalves_1 : decode cX8_matchHalves 1 = .ok (.istore_n 1, 1) := by decide +kernel
theorem dX8_matchHalves_2 : decode cX8_matchHalves 2 = .ok (.iload_n 1, 1) := by decide +kernel
theorem dX8_matchHalves_3 : decode cX8_matchHalves 3 = .ok (.aload_n 0, 1) := by decide +kernel
theorem dX8_matchHalves_4 : decode cX8_matchHalves 4 = .ok (.getfield 49, 3) := by decide +kernel
theorem dX8_matchHalves_7 : decode cX8_matchHalves 7 = .ok (.if_icmp .ge 132, 3) := by decide +kernel
theorem dX8_matchHalves_139 : decode cX8_matchHalves 139 = .ok (.return_, 1) := by decide +kernel
set_option maxHeartbeats 4000000 in
set_option maxRecDepth 100000 in
theorem c_X8_matchHalves (l : Launch) (D : va_G) (cs : Nat → ClassId) (kK kV : Nat → Nat) (a : Nat) (rr : Nat → Nat) : Met l yX8_matchHalves (hz_w yX8_matchHalves cX8_matchHalves 4 none) ({ frames := 0, cells := 0, slots := 0, locals := 0 }) (va_Pc [.ref a] (hz_P D cs kK kV [(a, .inr (8, [.int 0, .int 0, .int 0, .int 0, .int 0, .int 12, .int 5, .int 1, .int 0, .ref (rr 0), .ref (rr 1), .ref (rr 2), .ref (rr 3), .ref (rr 4), .ref (rr 5), .ref (rr 6), .ref (rr 7), .ref (rr 8)]))])) (va_Qv (fun (_ : Unit) => True) (fun _ t => True) (fun _ => False)) 0 0 (fun _ => False) := by
  refine Met.ofW (cc := cX8_matchHalves) (maxL := 4) (ret := none) (by decide) rfl ?_
  intro p e s m args below meth c s₁ B hml hv
  obtain ⟨rfl, hP, hE⟩ := hv
  have hx := B.exec
  have hb := B.bytes
  have hr := B.returns
  have hT : ∀ w ∈ TB, w.before _ s = true := fun w h => atoms_spec (ws := hz_w yX8_matchHalves cX8_matchHalves 4 none) B.pre w (List.mem_cons_of_mem _ h)
  have hown : s.vm.findClass RX8 = some m.cls := findClass_of_methodNamed B.named
  have hlocks := B.notSynchronized
  clear B
  have hS : va_S (fun _ => False) s.heap s.heap [] := va_S.rf
  have hP : va_P D classes [(a, .inr (8, [.int 0, .int 0, .int 0, .int 0, .int 0, .int 12, .int 5, .int 1, .int 0, .ref (rr 0), .ref (rr 1), .ref (rr 2), .ref (rr 3), .ref (rr 4), .ref (rr 5), .ref (rr 6), .ref (rr 7), .ref (rr 8)]))] s.heap := hP
  have hK := hE.1
  have hl := lv_entry ([.ref a]) (n := 4) (Nat.le_of_ble_eq_true rfl)
  rw [lg_entry_eq]
  generalize (lg_sl ([.ref a]) ++ List.replicate (4 - (lg_sl ([.ref a])).length) Slot.unset).toArray = ls at hl ⊢
  have hl : lv_has ls 4 [(0, .ref a)] := hl
  obtain ⟨H, eH⟩ : ∃ z, z = s.heap := ⟨_, rfl⟩
  have hP : va_P D classes [(a, .inr (8, [.int 0, .int 0, .int 0, .int 0, .int 0, .int 12, .int 5, .int 1, .int 0, .ref (rr 0), .ref (rr 1), .ref (rr 2), .ref (rr 3), .ref (rr 4), .ref (rr 5), .ref (rr 6), .ref (rr 7), .ref (rr 8)]))] H := by rw [eH]; exact hP
  have hS : va_S (fun _ => False) s.heap H [] := by rw [eH]; exact hS
  rw [← eH]
  clear eH
  refine lv_iconst (v := 0) hx hb dX8_matchHalves_0 (by decide) ?_
  refine lv_istore_n (lv' := [(1, .int 0), (0, .ref a)]) hx hb dX8_matchHalves_1 rfl hl (by decide) rfl (fun ls hl => ?_)
  refine lv_iload_n hx hb dX8_matchHalves_2 rfl (lv_at hl 0 rfl) ?_
  refine lv_aload_n hx hb dX8_matchHalves_3 rfl (lv_at hl 1 rfl) ?_
  refine va_get (D := D) (ci := 8) (v := .int 0) (C := RX8) (T := TX8) (N := 18) hx hb hT i_X8 hown hK hP 0 rfl rfl 2 (by decide) (hT _ q_106) (fun _ h9 => h9) rfl dX8_matchHalves_4 ?_
  refine lv_icmp_ge (tgt := 139) hx hb dX8_matchHalves_7 (by decide) (fun _ => ?_) (fun z => absurd (by decide) z)
  exact W.vret hx hb hr (fun t ht hW => ⟨⟨(), rfl, trivial, trivial⟩, hS.F ht⟩) hS.2.2 dX8_matchHalves_139
theorem dX0_readClause_0 : decode cX0_readClause 0 = .ok (.aload_n 0, 1) := by decide +kernel
theorem dX0_readClause_1 : decode cX0_readClause 1 = .ok (.getfield 9, 3) := by decide +kernel
theorem dX0_readClause_4 : decode cX0_readClause 4 = .ok (.invokevirtual 45, 3) := by decide +kernel
theorem dX0_readClause_7 : decode cX0_readClause 7 = .ok (.aload_n 0, 1) := by decide +kernel
theorem dX0_readClause_8 : decode cX0_readClause 8 = .ok (.getfield 9, 3) := by decide +kernel
theorem dX0_readClause_11 : decode cX0_readClause 11 = .ok (.getfield 48, 3) := by decide +kernel
theorem dX0_readClause_14 : decode cX0_readClause 14 = .ok (.istore_n 2, 1) := by decide +kernel
theorem dX0_readClause_15 : decode cX0_readClause 15 = .ok (.aload_n 0, 1) := by decide +kernel
theorem dX0_readClause_16 : decode cX0_readClause 16 = .ok (.getfield 9, 3) := by decide +kernel
theorem dX0_readClause_19 : decode cX0_readClause 19 = .ok (.ldc 51, 2) := by decide +kernel
theorem dX0_readClause_21 : decode cX0_readClause 21 = .ok (.invokevirtual 53, 3) := by decide +kernel
theorem dX0_readClause_24 : decode cX0_readClause 24 = .ok (.istore_n 3, 1) := by decide +kernel
theorem dX0_readClause_25 : decode cX0_readClause 25 = .ok (.iload_n 3, 1) := by decide +kernel
theorem dX0_readClause_26 : decode cX0_readClause 26 = .ok (.ifCond .ge 13, 3) := by decide +kernel
theorem dX0_readClause_29 : decode cX0_readClause 29 = .ok (.aload_n 0, 1) := by decide +kernel
theorem dX0_readClause_30 : decode cX0_readClause 30 = .ok (.getfield 9, 3) := by decide +kernel
theorem dX0_readClause_33 : decode cX0_readClause 33 = .ok (.iload_n 2, 1) := by decide +kernel
theorem dX0_readClause_34 : decode cX0_readClause 34 = .ok (.iconst 0, 1) := by decide +kernel
theorem dX0_readClause_35 : decode cX0_readClause 35 = .ok (.invokevirtual 57, 3) := by decide +kernel
theorem dX0_readClause_38 : decode cX0_readClause 38 = .ok (.return_, 1) := by decide +kernel
set_option maxHeartbeats 4000000 in
set_option maxRecDepth 100000 in
theorem c_X0_readClause (l : Launch) (D : va_G) (cs : Nat → ClassId) (kK kV : Nat → Nat) (a0 : Nat) (a1 : Nat) (b : Nat) (tl : Nat) (sz : Nat) : Met l yX0_readClause (hz_w yX0_readClause cX0_readClause 4 none) ({ frames := 5, cells := 0, slots := 0, locals := 111 }) (va_Pc [.ref a0, .int 0] (hz_C D cs kK kV sz [(a0, .inr (0, [.ref a1, .ref tl, .int 0])), (a1, .inr (7, [.ref b, .int 0, .int 0, .int 0]))])) (va_Qv (fun (_ : Unit) => True) (fun _ t => va_P D classes [(a0, .inr (0, [.ref a1, .ref tl, .int 0])), (a1, .inr (7, [.ref b, .int 0, .int 0, .int 1]))] t.heap ∧ va_D (va_A [(a0, .inr (0, [.ref a1, .ref tl, .int 0])), (a1, .inr (7, [.ref b, .int 0, .int 0, .int 0]))] sz) [(a0, .inr (0, [.ref a1, .ref tl, .int 0])), (a1, .inr (7, [.ref b, .int 0, .int 0, .int 1]))]) (va_A [(a0, .inr (0, [.ref a1, .ref tl, .int 0])), (a1, .inr (7, [.ref b, .int 0, .int 0, .int 0]))] sz)) 0 0 (va_A [(a0, .inr (0, [.ref a1, .ref tl, .int 0])), (a1, .inr (7, [.ref b, .int 0, .int 0, .int 0]))] sz) := by
  refine Met.ofW (cc := cX0_readClause) (maxL := 4) (ret := none) (by decide) rfl ?_
  intro p e s m args below meth c s₁ B hml hv
  obtain ⟨rfl, hsz, hP, hD0, hE⟩ := hv
  have hx := B.exec
  have hb := B.bytes
  have hr := B.returns
  have hT : ∀ w ∈ TB, w.before _ s = true := fun w h => atoms_spec (ws := hz_w yX0_readClause cX0_readClause 4 none) B.pre w (List.mem_cons_of_mem _ h)
  have hown : s.vm.findClass RX0 = some m.cls := findClass_of_methodNamed B.named
  have hlocks := B.notSynchronized
  clear B
  subst hsz
  have hD := hD0.self (sz := s.heap.size)
  generalize hAe : va_A [(a0, .inr (0, [.ref a1, .ref tl, .int 0])), (a1, .inr (7, [.ref b, .int 0, .int 0, .int 0]))] s.heap.size = A at hD hE ⊢
  have hA : ∀ q : Nat, s.heap.size ≤ q → A q := fun q h => by rw [← hAe]; exact Or.inr h
  clear hAe hD0
  have hS : va_S A s.heap s.heap [] := va_S.rf
  have hK := hE.1
  have hl := lv_entry ([.ref a0, .int 0]) (n := 4) (Nat.le_of_ble_eq_true rfl)
  rw [lg_entry_eq]
  generalize (lg_sl ([.ref a0, .int 0]) ++ List.replicate (4 - (lg_sl ([.ref a0, .int 0])).length) Slot.unset).toArray = ls at hl ⊢
  have hl : lv_has ls 4 [(0, .ref a0), (1, .int 0)] := hl
  obtain ⟨H, eH⟩ : ∃ z, z = s.heap := ⟨_, rfl⟩
  have hP : va_P D classes [(a0, .inr (0, [.ref a1, .ref tl, .int 0])), (a1, .inr (7, [.ref b, .int 0, .int 0, .int 0]))] H := by rw [eH]; exact hP
  have hS : va_S A s.heap H [] := by rw [eH]; exact hS
  rw [← eH]
  clear eH
  refine lv_aload_n hx hb dX0_readClause_0 rfl (lv_at hl 0 rfl) ?_
  refine va_get (D := D) (ci := 0) (v := .ref a1) (C := RX0) (T := TX0) (N := 3) hx hb hT i_X0 hown hK hP 0 rfl rfl 0 (by decide) (hT _ q_108) (fun _ h9 => h9) rfl dX0_readClause_1 ?_
  refine va_callv (va_runV (As := []) (rest := []) ⟨hx, hb, hml, hown, hT⟩ (c_X7_skip l D cs kK kV a1 b 0) (cwV 0 hT (hz_gV q_109 q_94 q_95 q_96 q_97) rfl rfl rfl (by decide +kernel) ⟨(Nat.le_of_ble_eq_true rfl), (Nat.le_of_ble_eq_true rfl)⟩) ⟨hz_P.blind, va_recv hK hP (ci := 7) (q0 := 1) rfl rfl, hz_P.mk (hP.sub (ws' := [(a1, .inr (7, [.ref b, .int 0, .int 0, .int 0]))]) [1] rfl) hE hS⟩ rfl rfl hl.1 rfl (lv_room (Nat.le_of_ble_eq_true rfl)) dX0_readClause_4 ⟨(Nat.le_of_ble_eq_true rfl), (Nat.le_of_ble_eq_true rfl)⟩) hS (fun _ _ h => h.elim) (fun _ h => h.elim) (fun u t H1 locs ht hvm hw hB hz1 hk1 hS => ?_)
  have hP := hz_keep hP hk1
  clear hk1 hB hz1
  generalize H1 = H at hP hS ⊢
  refine lv_aload_n hx hb dX0_readClause_7 rfl (lv_at hl 0 rfl) ?_
  refine va_get (D := D) (ci := 0) (v := .ref a1) (C := RX0) (T := TX0) (N := 3) hx hb hT i_X0 hown hK hP 0 rfl rfl 0 (by decide) (hT _ q_108) (fun _ h9 => h9) rfl dX0_readClause_8 ?_
  refine va_get (D := D) (ci := 7) (v := .int 0) (C := RX7) (T := TX7) (N := 4) hx hb hT i_X7 hown hK hP 1 rfl rfl 2 (by decide) (hT _ q_110) (fun _ h9 => h9) rfl dX0_readClause_11 ?_
  refine lv_istore_n (lv' := [(2, .int 0), (0, .ref a0), (1, .int 0)]) hx hb dX0_readClause_14 rfl hl (by decide) rfl (fun ls hl => ?_)
  refine lv_aload_n hx hb dX0_readClause_15 rfl (lv_at hl 1 rfl) ?_
  refine va_get (D := D) (ci := 0) (v := .ref a1) (C := RX0) (T := TX0) (N := 3) hx hb hT i_X0 hown hK hP 0 rfl rfl 0 (by decide) (hT _ q_108) (fun _ h9 => h9) rfl dX0_readClause_16 ?_
  refine va_ldcS hx hb hown hE.2.2.2.2.2.2.1 dX0_readClause_19 ?_
  have hFc := va_free (wc := [(a1, .inr (7, [.ref b, .int 0, .int 0, .int 0]))]) hD hS hA [1] rfl
  refine va_calli (va_runV (As := [.ref (kK 0)]) (rest := []) ⟨hx, hb, hml, hown, hT⟩ (c_X7_takeWord l D cs kK kV a1 b 0 0 ((by decide)) H.size) (cwV 1 hT (hz_gV q_111 q_112 q_113 q_96 q_114) rfl rfl rfl (by decide +kernel) ⟨(Nat.le_of_ble_eq_true rfl), (Nat.le_of_ble_eq_true rfl)⟩) ⟨hz_C.blind, va_recv hK hP (ci := 7) (q0 := 1) rfl rfl, hz_C.mk (hP.sub (ws' := [(a1, .inr (7, [.ref b, .int 0, .int 0, .int 0]))]) [1] rfl) (hD.sub (ws' := [(a1, .inr (7, [.ref b, .int 0, .int 0, .int 0]))]) [1] (by decide) rfl) hE hS hFc⟩ rfl rfl hl.1 rfl (lv_room (Nat.le_of_ble_eq_true rfl)) dX0_readClause_21 ⟨(Nat.le_of_ble_eq_true rfl), (Nat.le_of_ble_eq_true rfl)⟩) hS (fun q _ h => hFc q h) hFc (fun r_2 u t H1 locs ht hvm hw hB hz1 hk1 hS => ?_)
  obtain ⟨hP1, hD1⟩ := hB
  rw [ht] at hP1
  obtain ⟨hP, hD⟩ := va_join (wr := [(a0, .inr (0, [.ref a1, .ref tl, .int 0]))]) (w1 := [(a1, .inr (7, [.ref b, .int 0, .int 0, .int 0]))]) hP hD [1] [0] rfl rfl (by decide) (by decide) hk1 hFc hP1 hD1
  generalize H1 = H at hP hS ⊢
  have hP : va_P D classes [(a0, .inr (0, [.ref a1, .ref tl, .int 0])), (a1, .inr (7, [.ref b, .int 0, .int 0, .int 0]))] H := hP
  have hD : va_D A [(a0, .inr (0, [.ref a1, .ref tl, .int 0])), (a1, .inr (7, [.ref b, .int 0, .int 0, .int 0]))] := hD
  clear hk1 hFc hP1 hD1 hz1
  subst hw
  refine lv_istore_n (lv' := [(3, .int (-1)), (2, .int 0), (0, .ref a0), (1, .int 0)]) hx hb dX0_readClause_24 rfl hl (by decide) rfl (fun ls hl => ?_)
  refine lv_iload_n hx hb dX0_readClause_25 rfl (lv_at hl 0 rfl) ?_
  refine lv_if_ge (tgt := 39) hx hb dX0_readClause_26 (by decide) (fun z => absurd z (by decide)) (fun _ => ?_)
  refine lv_aload_n hx hb dX0_readClause_29 rfl (lv_at hl 2 rfl) ?_
  refine va_get (D := D) (ci := 0) (v := .ref a1) (C := RX0) (T := TX0) (N := 3) hx hb hT i_X0 hown hK hP 0 rfl rfl 0 (by decide) (hT _ q_108) (fun _ h9 => h9) rfl dX0_readClause_30 ?_
  refine lv_iload_n hx hb dX0_readClause_33 rfl (lv_at hl 1 rfl) ?_
  refine lv_iconst (v := 0) hx hb dX0_readClause_34 (by decide) ?_
  have hFc := va_free (wc := [(a1, .inr (7, [.ref b, .int 0, .int 0, .int 0]))]) hD hS hA [1] rfl
  refine va_callv (va_runV (As := [.int 0, .int 0]) (rest := []) ⟨hx, hb, hml, hown, hT⟩ (c_X7_fail l D cs kK kV a1 b H.size) (cwV 2 hT (hz_gV q_115 q_116 q_117 q_96 q_118) rfl rfl rfl (by decide +kernel) ⟨(Nat.le_of_ble_eq_true rfl), (Nat.le_of_ble_eq_true rfl)⟩) ⟨hz_C.blind, va_recv hK hP (ci := 7) (q0 := 1) rfl rfl, hz_C.mk (hP.sub (ws' := [(a1, .inr (7, [.ref b, .int 0, .int 0, .int 0]))]) [1] rfl) (hD.sub (ws' := [(a1, .inr (7, [.ref b, .int 0, .int 0, .int 0]))]) [1] (by decide) rfl) hE hS hFc⟩ rfl rfl hl.1 rfl (lv_room (Nat.le_of_ble_eq_true rfl)) dX0_readClause_35 ⟨(Nat.le_of_ble_eq_true rfl), (Nat.le_of_ble_eq_true rfl)⟩) hS (fun q _ h => hFc q h) hFc (fun u t H1 locs ht hvm hw hB hz1 hk1 hS => ?_)
  obtain ⟨hP1, hD1⟩ := hB
  rw [ht] at hP1
  obtain ⟨hP, hD⟩ := va_join (wr := [(a0, .inr (0, [.ref a1, .ref tl, .int 0]))]) (w1 := [(a1, .inr (7, [.ref b, .int 0, .int 0, .int 1]))]) hP hD [1] [0] rfl rfl (by decide) (by decide) hk1 hFc hP1 hD1
  generalize H1 = H at hP hS ⊢
  have hP : va_P D classes [(a0, .inr (0, [.ref a1, .ref tl, .int 0])), (a1, .inr (7, [.ref b, .int 0, .int 0, .int 1]))] H := hP
  have hD : va_D A [(a0, .inr (0, [.ref a1, .ref tl, .int 0])), (a1, .inr (7, [.ref b, .int 0, .int 0, .int 1]))] := hD
  clear hk1 hFc hP1 hD1 hz1
  exact W.vret hx hb hr (fun t ht hW => ⟨⟨(), rfl, trivial, by rw [ht]; exact hP.sub [0, 1] rfl, hD.sub [0, 1] (by decide) rfl⟩, hS.F ht⟩) hS.2.2 dX0_readClause_38
theorem dX0_readFair_0 : decode cX0_readFair 0 = .ok (.aload_n 0, 1) := by decide +kernel
theorem dX0_readFair_1 : decode cX0_readFair 1 = .ok (.aload_n 1, 1) := by decide +kernel
theorem dX0_readFair_2 : decode cX0_readFair 2 = .ok (.putfield 9, 3) := by decide +kernel
theorem dX0_readFair_5 : decode cX0_readFair 5 = .ok (.aload_n 0, 1) := by decide +kernel
theorem dX0_readFair_6 : decode cX0_readFair 6 = .ok (.new 15, 3) := by decide +kernel
theorem dX0_readFair_9 : decode cX0_readFair 9 = .ok (.dup, 1) := by decide +kernel
theorem dX0_readFair_10 : decode cX0_readFair 10 = .ok (.invokespecial 17, 3) := by decide +kernel
theorem dX0_readFair_13 : decode cX0_readFair 13 = .ok (.putfield 18, 3) := by decide +kernel
theorem dX0_readFair_16 : decode cX0_readFair 16 = .ok (.aload_n 0, 1) := by decide +kernel
theorem dX0_readFair_17 : decode cX0_readFair 17 = .ok (.iconst 0, 1) := by decide +kernel
theorem dX0_readFair_18 : decode cX0_readFair 18 = .ok (.putfield 22, 3) := by decide +kernel
theorem dX0_readFair_21 : decode cX0_readFair 21 = .ok (.aload_n 0, 1) := by decide +kernel
theorem dX0_readFair_22 : decode cX0_readFair 22 = .ok (.getfield 9, 3) := by decide +kernel
theorem dX0_readFair_25 : decode cX0_readFair 25 = .ok (.invokevirtual 26, 3) := by decide +kernel
theorem dX0_readFair_28 : decode cX0_readFair 28 = .ok (.iconst 1, 1) := by decide +kernel
theorem dX0_readFair_29 : decode cX0_readFair 29 = .ok (.istore_n 2, 1) := by decide +kernel
theorem dX0_readFair_30 : decode cX0_readFair 30 = .ok (.iconst 0, 1) := by decide +kernel
theorem dX0_readFair_31 : decode cX0_readFair 31 = .ok (.istore_n 3, 1) := by decide +kernel
theorem dX0_readFair_32 : decode cX0_readFair 32 = .ok (.iload_n 3, 1) := by decide +kernel
theorem dX0_readFair_33 : decode cX0_readFair 33 = .ok (.bipush 40, 2) := by decide +kernel
theorem dX0_readFair_35 : decode cX0_readFair 35 = .ok (.if_icmp .gt 54, 3) := by decide +kernel
theorem dX0_readFair_38 : decode cX0_readFair 38 = .ok (.iload_n 2, 1) := by decide +kernel
theorem dX0_readFair_39 : decode cX0_readFair 39 = .ok (.ifCond .eq 50, 3) := by decide +kernel
theorem dX0_readFair_42 : decode cX0_readFair 42 = .ok (.aload_n 0, 1) := by decide +kernel
theorem dX0_readFair_43 : decode cX0_readFair 43 = .ok (.getfield 9, 3) := by decide +kernel
theorem dX0_readFair_46 : decode cX0_readFair 46 = .ok (.invokevirtual 31, 3) := by decide +kernel
theorem dX0_readFair_49 : decode cX0_readFair 49 = .ok (.ifCond .eq 40, 3) := by decide +kernel
theorem dX0_readFair_52 : decode cX0_readFair 52 = .ok (.aload_n 0, 1) := by decide +kernel
theorem dX0_readFair_53 : decode cX0_readFair 53 = .ok (.iload_n 3, 1) := by decide +kernel
theorem dX0_readFair_54 : decode cX0_readFair 54 = .ok (.invokevirtual 35, 3) := by decide +kernel
theorem dX0_readFair_57 : decode cX0_readFair 57 = .ok (.aload_n 0, 1) := by decide +kernel
theorem dX0_readFair_58 : decode cX0_readFair 58 = .ok (.getfield 9, 3) := by decide +kernel
theorem dX0_readFair_61 : decode cX0_readFair 61 = .ok (.invokevirtual 31, 3) := by decide +kernel
theorem dX0_readFair_64 : decode cX0_readFair 64 = .ok (.ifCond .eq 17, 3) := by decide +kernel
theorem dX0_readFair_81 : decode cX0_readFair 81 = .ok (.iconst 0, 1) := by decide +kernel
theorem dX0_readFair_82 : decode cX0_readFair 82 = .ok (.istore_n 2, 1) := by decide +kernel
theorem dX0_readFair_83 : decode cX0_readFair 83 = .ok (.iinc 3 1, 3) := by decide +kernel
theorem dX0_readFair_86 : decode cX0_readFair 86 = .ok (.goto (-54), 3) := by decide +kernel
theorem dX0_readFair_89 : decode cX0_readFair 89 = .ok (.aload_n 0, 1) := by decide +kernel
theorem dX0_readFair_90 : decode cX0_readFair 90 = .ok (.getfield 18, 3) := by decide +kernel
theorem dX0_readFair_93 : decode cX0_readFair 93 = .ok (.invokevirtual 42, 3) := by decide +kernel
theorem dX0_readFair_96 : decode cX0_readFair 96 = .ok (.aload_n 0, 1) := by decide +kernel
theorem dX0_readFair_97 : decode cX0_readFair 97 = .ok (.getfield 18, 3) := by decide +kernel
theorem dX0_readFair_100 : decode cX0_readFair 100 = .ok (.areturn, 1) := by decide +kernel
set_option maxHeartbeats 4000000 in
set_option maxRecDepth 100000 in
theorem c_X0_readFair (l : Launch) (D : va_G) (cs : Nat → ClassId) (kK kV : Nat → Nat) (a0 : Nat) (a1 : Nat) (b : Nat) (sz : Nat) : Met l yX0_readFair (hz_w yX0_readFair cX0_readFair 4 (some (.object "HalfFair$Told"))) ({ frames := 6, cells := 10, slots := 102, locals := 134 }) (va_Pc [.ref a0, .ref a1] (hz_C D cs kK kV sz [(a0, .inr (0, [.null, .null, .int 0])), (a1, .inr (7, [.ref b, .int 0, .int 0, .int 0]))])) (va_Qr (fun (_ : Unit) => True) (fun _ ra t => va_P D classes [(a1, .inr (7, [.ref b, .int 0, .int 0, .int 1]))] t.heap ∧ va_D (va_A [(a0, .inr (0, [.null, .null, .int 0])), (a1, .inr (7, [.ref b, .int 0, .int 0, .int 0]))] sz) [(a1, .inr (7, [.ref b, .int 0, .int 0, .int 1]))]) (va_A [(a0, .inr (0, [.null, .null, .int 0])), (a1, .inr (7, [.ref b, .int 0, .int 0, .int 0]))] sz)) 10 102 (va_A [(a0, .inr (0, [.null, .null, .int 0])), (a1, .inr (7, [.ref b, .int 0, .int 0, .int 0]))] sz) := by
  refine Met.ofW (cc := cX0_readFair) (maxL := 4) (ret := (some (.object "HalfFair$Told"))) (by decide) rfl ?_
  intro p e s m args below meth c s₁ B hml hv
  obtain ⟨rfl, hsz, hP, hD0, hE⟩ := hv
  have hx := B.exec
  have hb := B.bytes
  have hr := B.returns
  have hT : ∀ w ∈ TB, w.before _ s = true := fun w h => atoms_spec (ws := hz_w yX0_readFair cX0_readFair 4 (some (.object "HalfFair$Told"))) B.pre w (List.mem_cons_of_mem _ h)
  have hown : s.vm.findClass RX0 = some m.cls := findClass_of_methodNamed B.named
  have hlocks := B.notSynchronized
  clear B
  subst hsz
  have hD := hD0.self (sz := s.heap.size)
  generalize hAe : va_A [(a0, .inr (0, [.null, .null, .int 0])), (a1, .inr (7, [.ref b, .int 0, .int 0, .int 0]))] s.heap.size = A at hD hE ⊢
  have hA : ∀ q : Nat, s.heap.size ≤ q → A q := fun q h => by rw [← hAe]; exact Or.inr h
  clear hAe hD0
  have hS : va_S A s.heap s.heap [] := va_S.rf
  have hK := hE.1
  have hl := lv_entry ([.ref a0, .ref a1]) (n := 4) (Nat.le_of_ble_eq_true rfl)
  rw [lg_entry_eq]
  generalize (lg_sl ([.ref a0, .ref a1]) ++ List.replicate (4 - (lg_sl ([.ref a0, .ref a1])).length) Slot.unset).toArray = ls at hl ⊢
  have hl : lv_has ls 4 [(0, .ref a0), (1, .ref a1)] := hl
  obtain ⟨H, eH⟩ : ∃ z, z = s.heap := ⟨_, rfl⟩
  have hP : va_P D classes [(a0, .inr (0, [.null, .null, .int 0])), (a1, .inr (7, [.ref b, .int 0, .int 0, .int 0]))] H := by rw [eH]; exact hP
  have hS : va_S A s.heap H [] := by rw [eH]; exact hS
  rw [← eH]
  clear eH
  refine lv_aload_n hx hb dX0_readFair_0 rfl (lv_at hl 0 rfl) ?_
  refine lv_aload_n hx hb dX0_readFair_1 rfl (lv_at hl 1 rfl) ?_
  refine va_put (D := D) (ci := 0) (v := .ref a1) (ty := .object "HalfFair$Tape") (C := RX0) (T := TX0) (N := 3) hx hb hT i_X0 tyX0 tyX0_ok nmX0 hown hK hP hD hS 0 rfl rfl 0 (by decide) (hT _ q_108) (fun _ h9 => h9) rfl (by decide +kernel) rfl rfl (Nat.le_of_ble_eq_true rfl) dX0_readFair_2 (fun H locs hP hD hS => ?_)
  have hP : va_P D classes [(a0, .inr (0, [.ref a1, .null, .int 0])), (a1, .inr (7, [.ref b, .int 0, .int 0, .int 0]))] H := hP
  have hD : va_D A [(a0, .inr (0, [.ref a1, .null, .int 0])), (a1, .inr (7, [.ref b, .int 0, .int 0, .int 0]))] := hD
  refine lv_aload_n hx hb dX0_readFair_5 rfl (lv_at hl 0 rfl) ?_
  refine va_new (D := D) (ci := 8) (fs := [.int 0, .int 0, .int 0, .int 0, .int 0, .int 0, .int 0, .int 0, .int 0, .null, .null, .null, .null, .null, .null, .null, .null, .null]) (C := RX8) (T := TX8) (N := 18) hx hb hT i_X8 tyX8 tyX8_ok hown (hT _ q_119) (hT _ q_120) (hT _ q_121) hK hP hD hS hA rfl df_X8 (Nat.le_of_ble_eq_true rfl) (Nat.le_of_ble_eq_true rfl) dX0_readFair_6 (fun n_1 H hP hD hS => ?_)
  have hP : va_P D classes [(a0, .inr (0, [.ref a1, .null, .int 0])), (a1, .inr (7, [.ref b, .int 0, .int 0, .int 0])), (n_1, .inr (8, [.int 0, .int 0, .int 0, .int 0, .int 0, .int 0, .int 0, .int 0, .int 0, .null, .null, .null, .null, .null, .null, .null, .null, .null]))] H := hP
  have hD : va_D A [(a0, .inr (0, [.ref a1, .null, .int 0])), (a1, .inr (7, [.ref b, .int 0, .int 0, .int 0])), (n_1, .inr (8, [.int 0, .int 0, .int 0, .int 0, .int 0, .int 0, .int 0, .int 0, .int 0, .null, .null, .null, .null, .null, .null, .null, .null, .null]))] := hD
  refine W.widen (k := 1) (n := 18) (Nat.le_of_ble_eq_true rfl) (Nat.le_of_ble_eq_true rfl) ?_
  refine lv_dup hx hb dX0_readFair_9 rfl ?_
  have hFc := va_free (wc := [(n_1, .inr (8, [.int 0, .int 0, .int 0, .int 0, .int 0, .int 0, .int 0, .int 0, .int 0, .null, .null, .null, .null, .null, .null, .null, .null, .null]))]) hD hS hA [2] rfl
  refine va_callv (va_runIN (As := []) (rest := [.ref n_1, .ref a0]) ⟨hx, hb, hml, hown, hT⟩ (c_X8_init l D cs kK kV n_1 H.size) ⟨va_cnB 0 hT (hz_gw q_122) rfl rfl rfl (hE.2.1 9 (by decide)) (hT _ q_121) (by decide +kernel) ⟨(Nat.le_of_ble_eq_true rfl), (Nat.le_of_ble_eq_true rfl)⟩, rfl, hT _ q_123⟩ ⟨hz_C.blind, hz_C.mk (hP.sub (ws' := [(n_1, .inr (8, [.int 0, .int 0, .int 0, .int 0, .int 0, .int 0, .int 0, .int 0, .int 0, .null, .null, .null, .null, .null, .null, .null, .null, .null]))]) [2] rfl) (hD.sub (ws' := [(n_1, .inr (8, [.int 0, .int 0, .int 0, .int 0, .int 0, .int 0, .int 0, .int 0, .int 0, .null, .null, .null, .null, .null, .null, .null, .null, .null]))]) [2] (by decide) rfl) hE hS hFc⟩ rfl rfl hl.1 rfl (lv_room (Nat.le_of_ble_eq_true rfl)) dX0_readFair_10 ⟨(Nat.le_of_ble_eq_true rfl), (Nat.le_of_ble_eq_true rfl)⟩) hS (fun q _ h => hFc q h) hFc (fun u t H1 locs ht hvm hw hB hz1 hk1 hS => ?_)
  obtain ⟨g_3, hP1, hD1⟩ := hB
  rw [ht] at hP1
  obtain ⟨hP, hD⟩ := va_join (wr := [(a0, .inr (0, [.ref a1, .null, .int 0])), (a1, .inr (7, [.ref b, .int 0, .int 0, .int 0]))]) (w1 := [(n_1, .inr (8, [.int 0, .int 0, .int 0, .int 0, .int 0, .int 12, .int 5, .int 1, .int 0, .ref (g_3 0), .ref (g_3 1), .ref (g_3 2), .ref (g_3 3), .ref (g_3 4), .ref (g_3 5), .ref (g_3 6), .ref (g_3 7), .ref (g_3 8)]))]) hP hD [2] [0, 1] rfl rfl (by decide) (by decide) hk1 hFc hP1 hD1
  generalize H1 = H at hP hS ⊢
  have hP : va_P D classes [(a0, .inr (0, [.ref a1, .null, .int 0])), (a1, .inr (7, [.ref b, .int 0, .int 0, .int 0])), (n_1, .inr (8, [.int 0, .int 0, .int 0, .int 0, .int 0, .int 12, .int 5, .int 1, .int 0, .ref (g_3 0), .ref (g_3 1), .ref (g_3 2), .ref (g_3 3), .ref (g_3 4), .ref (g_3 5), .ref (g_3 6), .ref (g_3 7), .ref (g_3 8)]))] H := hP
  have hD : va_D A [(a0, .inr (0, [.ref a1, .null, .int 0])), (a1, .inr (7, [.ref b, .int 0, .int 0, .int 0])), (n_1, .inr (8, [.int 0, .int 0, .int 0, .int 0, .int 0, .int 12, .int 5, .int 1, .int 0, .ref (g_3 0), .ref (g_3 1), .ref (g_3 2), .ref (g_3 3), .ref (g_3 4), .ref (g_3 5), .ref (g_3 6), .ref (g_3 7), .ref (g_3 8)]))] := hD
  clear hk1 hFc hP1 hD1 hz1
  refine W.widen (k := 10) (n := 102) (Nat.le_of_ble_eq_true rfl) (Nat.le_of_ble_eq_true rfl) ?_
  refine va_put (D := D) (ci := 0) (v := .ref n_1) (ty := .object "HalfFair$Told") (C := RX0) (T := TX0) (N := 3) hx hb hT i_X0 tyX0 tyX0_ok nmX0 hown hK hP hD hS 0 rfl rfl 1 (by decide) (hT _ q_124) (fun _ h9 => h9) rfl (by decide +kernel) rfl rfl (Nat.le_of_ble_eq_true rfl) dX0_readFair_13 (fun H locs hP hD hS => ?_)
  have hP : va_P D classes [(a0, .inr (0, [.ref a1, .ref n_1, .int 0])), (a1, .inr (7, [.ref b, .int 0, .int 0, .int 0])), (n_1, .inr (8, [.int 0, .int 0, .int 0, .int 0, .int 0, .int 12, .int 5, .int 1, .int 0, .ref (g_3 0), .ref (g_3 1), .ref (g_3 2), .ref (g_3 3), .ref (g_3 4), .ref (g_3 5), .ref (g_3 6), .ref (g_3 7), .ref (g_3 8)]))] H := hP
  have hD : va_D A [(a0, .inr (0, [.ref a1, .ref n_1, .int 0])), (a1, .inr (7, [.ref b, .int 0, .int 0, .int 0])), (n_1, .inr (8, [.int 0, .int 0, .int 0, .int 0, .int 0, .int 12, .int 5, .int 1, .int 0, .ref (g_3 0), .ref (g_3 1), .ref (g_3 2), .ref (g_3 3), .ref (g_3 4), .ref (g_3 5), .ref (g_3 6), .ref (g_3 7), .ref (g_3 8)]))] := hD
  refine lv_aload_n hx hb dX0_readFair_16 rfl (lv_at hl 0 rfl) ?_
  refine lv_iconst (v := 0) hx hb dX0_readFair_17 (by decide) ?_
  refine va_put (D := D) (ci := 0) (v := .int 0) (ty := .int) (C := RX0) (T := TX0) (N := 3) hx hb hT i_X0 tyX0 tyX0_ok nmX0 hown hK hP hD hS 0 rfl rfl 2 (by decide) (hT _ q_125) (fun _ h9 => h9) rfl (by decide +kernel) rfl rfl (Nat.le_of_ble_eq_true rfl) dX0_readFair_18 (fun H locs hP hD hS => ?_)
  have hP : va_P D classes [(a0, .inr (0, [.ref a1, .ref n_1, .int 0])), (a1, .inr (7, [.ref b, .int 0, .int 0, .int 0])), (n_1, .inr (8, [.int 0, .int 0, .int 0, .int 0, .int 0, .int 12, .int 5, .int 1, .int 0, .ref (g_3 0), .ref (g_3 1), .ref (g_3 2), .ref (g_3 3), .ref (g_3 4), .ref (g_3 5), .ref (g_3 6), .ref (g_3 7), .ref (g_3 8)]))] H := hP
  have hD : va_D A [(a0, .inr (0, [.ref a1, .ref n_1, .int 0])), (a1, .inr (7, [.ref b, .int 0, .int 0, .int 0])), (n_1, .inr (8, [.int 0, .int 0, .int 0, .int 0, .int 0, .int 12, .int 5, .int 1, .int 0, .ref (g_3 0), .ref (g_3 1), .ref (g_3 2), .ref (g_3 3), .ref (g_3 4), .ref (g_3 5), .ref (g_3 6), .ref (g_3 7), .ref (g_3 8)]))] := hD
  refine lv_aload_n hx hb dX0_readFair_21 rfl (lv_at hl 0 rfl) ?_
  refine va_get (D := D) (ci := 0) (v := .ref a1) (C := RX0) (T := TX0) (N := 3) hx hb hT i_X0 hown hK hP 0 rfl rfl 0 (by decide) (hT _ q_108) (fun _ h9 => h9) rfl dX0_readFair_22 ?_
  have hFc := va_free (wc := [(a1, .inr (7, [.ref b, .int 0, .int 0, .int 0]))]) hD hS hA [1] rfl
  refine va_callv (va_runV (As := []) (rest := []) ⟨hx, hb, hml, hown, hT⟩ (c_X7_rewind l D cs kK kV a1 b 0 0 H.size) (cwV 0 hT (hz_gV q_126 q_127 q_128 q_96 q_129) rfl rfl rfl (by decide +kernel) ⟨(Nat.le_of_ble_eq_true rfl), (Nat.le_of_ble_eq_true rfl)⟩) ⟨hz_C.blind, va_recv hK hP (ci := 7) (q0 := 1) rfl rfl, hz_C.mk (hP.sub (ws' := [(a1, .inr (7, [.ref b, .int 0, .int 0, .int 0]))]) [1] rfl) (hD.sub (ws' := [(a1, .inr (7, [.ref b, .int 0, .int 0, .int 0]))]) [1] (by decide) rfl) hE hS hFc⟩ rfl rfl hl.1 rfl (lv_room (Nat.le_of_ble_eq_true rfl)) dX0_readFair_25 ⟨(Nat.le_of_ble_eq_true rfl), (Nat.le_of_ble_eq_true rfl)⟩) hS (fun q _ h => hFc q h) hFc (fun u t H1 locs ht hvm hw hB hz1 hk1 hS => ?_)
  obtain ⟨hP1, hD1⟩ := hB
  rw [ht] at hP1
  obtain ⟨hP, hD⟩ := va_join (wr := [(a0, .inr (0, [.ref a1, .ref n_1, .int 0])), (n_1, .inr (8, [.int 0, .int 0, .int 0, .int 0, .int 0, .int 12, .int 5, .int 1, .int 0, .ref (g_3 0), .ref (g_3 1), .ref (g_3 2), .ref (g_3 3), .ref (g_3 4), .ref (g_3 5), .ref (g_3 6), .ref (g_3 7), .ref (g_3 8)]))]) (w1 := [(a1, .inr (7, [.ref b, .int 0, .int 0, .int 0]))]) hP hD [1] [0, 2] rfl rfl (by decide) (by decide) hk1 hFc hP1 hD1
  generalize H1 = H at hP hS ⊢
  have hP : va_P D classes [(a0, .inr (0, [.ref a1, .ref n_1, .int 0])), (n_1, .inr (8, [.int 0, .int 0, .int 0, .int 0, .int 0, .int 12, .int 5, .int 1, .int 0, .ref (g_3 0), .ref (g_3 1), .ref (g_3 2), .ref (g_3 3), .ref (g_3 4), .ref (g_3 5), .ref (g_3 6), .ref (g_3 7), .ref (g_3 8)])), (a1, .inr (7, [.ref b, .int 0, .int 0, .int 0]))] H := hP
  have hD : va_D A [(a0, .inr (0, [.ref a1, .ref n_1, .int 0])), (n_1, .inr (8, [.int 0, .int 0, .int 0, .int 0, .int 0, .int 12, .int 5, .int 1, .int 0, .ref (g_3 0), .ref (g_3 1), .ref (g_3 2), .ref (g_3 3), .ref (g_3 4), .ref (g_3 5), .ref (g_3 6), .ref (g_3 7), .ref (g_3 8)])), (a1, .inr (7, [.ref b, .int 0, .int 0, .int 0]))] := hD
  clear hk1 hFc hP1 hD1 hz1
  refine lv_iconst (v := 1) hx hb dX0_readFair_28 (by decide) ?_
  refine lv_istore_n (lv' := [(2, .int 1), (0, .ref a0), (1, .ref a1)]) hx hb dX0_readFair_29 rfl hl (by decide) rfl (fun ls hl => ?_)
  refine lv_iconst (v := 0) hx hb dX0_readFair_30 (by decide) ?_
  refine lv_istore_n (lv' := [(3, .int 0), (2, .int 1), (0, .ref a0), (1, .ref a1)]) hx hb dX0_readFair_31 rfl hl (by decide) rfl (fun ls hl => ?_)
  refine lv_iload_n hx hb dX0_readFair_32 rfl (lv_at hl 0 rfl) ?_
  refine lv_bipush (v := 40) hx hb dX0_readFair_33 (by decide) ?_
  refine lv_icmp_gt (tgt := 89) hx hb dX0_readFair_35 (by decide) (fun z => absurd z (by decide)) (fun _ => ?_)
  refine lv_iload_n hx hb dX0_readFair_38 rfl (lv_at hl 1 rfl) ?_
  refine lv_if_eq (tgt := 89) hx hb dX0_readFair_39 (by decide) (fun z => absurd z (by decide)) (fun _ => ?_)
  refine lv_aload_n hx hb dX0_readFair_42 rfl (lv_at hl 2 rfl) ?_
  refine va_get (D := D) (ci := 0) (v := .ref a1) (C := RX0) (T := TX0) (N := 3) hx hb hT i_X0 hown hK hP 0 rfl rfl 0 (by decide) (hT _ q_108) (fun _ h9 => h9) rfl dX0_readFair_43 ?_
  refine va_calli (va_runV (As := []) (rest := []) ⟨hx, hb, hml, hown, hT⟩ (c_X7_isSound0 l D cs kK kV a1 b 0 0) (cwV 0 hT (hz_gV q_130 q_131 q_132 q_96 q_133) rfl rfl rfl (by decide +kernel) ⟨(Nat.le_of_ble_eq_true rfl), (Nat.le_of_ble_eq_true rfl)⟩) ⟨hz_P.blind, va_recv hK hP (ci := 7) (q0 := 2) rfl rfl, hz_P.mk (hP.sub (ws' := [(a1, .inr (7, [.ref b, .int 0, .int 0, .int 0]))]) [2] rfl) hE hS⟩ rfl rfl hl.1 rfl (lv_room (Nat.le_of_ble_eq_true rfl)) dX0_readFair_46 ⟨(Nat.le_of_ble_eq_true rfl), (Nat.le_of_ble_eq_true rfl)⟩) hS (fun _ _ h => h.elim) (fun _ h => h.elim) (fun r_5 u t H1 locs ht hvm hw hB hz1 hk1 hS => ?_)
  have hP := hz_keep hP hk1
  clear hk1 hB hz1
  generalize H1 = H at hP hS ⊢
  subst hw
  refine lv_if_eq (tgt := 89) hx hb dX0_readFair_49 (by decide) (fun z => absurd z (by decide)) (fun _ => ?_)
  refine lv_aload_n hx hb dX0_readFair_52 rfl (lv_at hl 2 rfl) ?_
  refine lv_iload_n hx hb dX0_readFair_53 rfl (lv_at hl 0 rfl) ?_
  have hFc := va_free (wc := [(a0, .inr (0, [.ref a1, .ref n_1, .int 0])), (a1, .inr (7, [.ref b, .int 0, .int 0, .int 0]))]) hD hS hA [0,2] rfl
  refine va_callv (va_runV (As := [.int 0]) (rest := []) ⟨hx, hb, hml, hown, hT⟩ (c_X0_readClause l D cs kK kV a0 a1 b n_1 H.size) (cwV 1 hT (hz_gV q_134 q_135 q_136 q_137 q_138) rfl rfl rfl (by decide +kernel) ⟨(Nat.le_of_ble_eq_true rfl), (Nat.le_of_ble_eq_true rfl)⟩) ⟨hz_C.blind, va_recv hK hP (ci := 0) (q0 := 0) rfl rfl, hz_C.mk (hP.sub (ws' := [(a0, .inr (0, [.ref a1, .ref n_1, .int 0])), (a1, .inr (7, [.ref b, .int 0, .int 0, .int 0]))]) [0,2] rfl) (hD.sub (ws' := [(a0, .inr (0, [.ref a1, .ref n_1, .int 0])), (a1, .inr (7, [.ref b, .int 0, .int 0, .int 0]))]) [0,2] (by decide) rfl) hE hS hFc⟩ rfl rfl hl.1 rfl (lv_room (Nat.le_of_ble_eq_true rfl)) dX0_readFair_54 ⟨(Nat.le_of_ble_eq_true rfl), (Nat.le_of_ble_eq_true rfl)⟩) hS (fun q _ h => hFc q h) hFc (fun u t H1 locs ht hvm hw hB hz1 hk1 hS => ?_)
  obtain ⟨hP1, hD1⟩ := hB
  rw [ht] at hP1
  obtain ⟨hP, hD⟩ := va_join (wr := [(n_1, .inr (8, [.int 0, .int 0, .int 0, .int 0, .int 0, .int 12, .int 5, .int 1, .int 0, .ref (g_3 0), .ref (g_3 1), .ref (g_3 2), .ref (g_3 3), .ref (g_3 4), .ref (g_3 5), .ref (g_3 6), .ref (g_3 7), .ref (g_3 8)]))]) (w1 := [(a0, .inr (0, [.ref a1, .ref n_1, .int 0])), (a1, .inr (7, [.ref b, .int 0, .int 0, .int 1]))]) hP hD [0, 2] [1] rfl rfl (by decide) (by decide) hk1 hFc hP1 hD1
  generalize H1 = H at hP hS ⊢
  have hP : va_P D classes [(n_1, .inr (8, [.int 0, .int 0, .int 0, .int 0, .int 0, .int 12, .int 5, .int 1, .int 0, .ref (g_3 0), .ref (g_3 1), .ref (g_3 2), .ref (g_3 3), .ref (g_3 4), .ref (g_3 5), .ref (g_3 6), .ref (g_3 7), .ref (g_3 8)])), (a0, .inr (0, [.ref a1, .ref n_1, .int 0])), (a1, .inr (7, [.ref b, .int 0, .int 0, .int 1]))] H := hP
  have hD : va_D A [(n_1, .inr (8, [.int 0, .int 0, .int 0, .int 0, .int 0, .int 12, .int 5, .int 1, .int 0, .ref (g_3 0), .ref (g_3 1), .ref (g_3 2), .ref (g_3 3), .ref (g_3 4), .ref (g_3 5), .ref (g_3 6), .ref (g_3 7), .ref (g_3 8)])), (a0, .inr (0, [.ref a1, .ref n_1, .int 0])), (a1, .inr (7, [.ref b, .int 0, .int 0, .int 1]))] := hD
  clear hk1 hFc hP1 hD1 hz1
  refine lv_aload_n hx hb dX0_readFair_57 rfl (lv_at hl 2 rfl) ?_
  refine va_get (D := D) (ci := 0) (v := .ref a1) (C := RX0) (T := TX0) (N := 3) hx hb hT i_X0 hown hK hP 1 rfl rfl 0 (by decide) (hT _ q_108) (fun _ h9 => h9) rfl dX0_readFair_58 ?_
  refine va_calli (va_runV (As := []) (rest := []) ⟨hx, hb, hml, hown, hT⟩ (c_X7_isSound1 l D cs kK kV a1 b 0 0) (cwV 0 hT (hz_gV q_130 q_131 q_132 q_96 q_133) rfl rfl rfl (by decide +kernel) ⟨(Nat.le_of_ble_eq_true rfl), (Nat.le_of_ble_eq_true rfl)⟩) ⟨hz_P.blind, va_recv hK hP (ci := 7) (q0 := 2) rfl rfl, hz_P.mk (hP.sub (ws' := [(a1, .inr (7, [.ref b, .int 0, .int 0, .int 1]))]) [2] rfl) hE hS⟩ rfl rfl hl.1 rfl (lv_room (Nat.le_of_ble_eq_true rfl)) dX0_readFair_61 ⟨(Nat.le_of_ble_eq_true rfl), (Nat.le_of_ble_eq_true rfl)⟩) hS (fun _ _ h => h.elim) (fun _ h => h.elim) (fun r_7 u t H1 locs ht hvm hw hB hz1 hk1 hS => ?_)
  have hP := hz_keep hP hk1
  clear hk1 hB hz1
  generalize H1 = H at hP hS ⊢
  subst hw
  refine lv_if_eq (tgt := 81) hx hb dX0_readFair_64 (by decide) (fun _ => ?_) (fun z => absurd (by decide) z)
  refine lv_iconst (v := 0) hx hb dX0_readFair_81 (by decide) ?_
  refine lv_istore_n (lv' := [(2, .int 0), (3, .int 0), (0, .ref a0), (1, .ref a1)]) hx hb dX0_readFair_82 rfl hl (by decide) rfl (fun ls hl => ?_)
  refine lv_iinc (v := 1) (lv' := [(3, .int 1), (2, .int 0), (0, .ref a0), (1, .ref a1)]) hx hb dX0_readFair_83 hl (k := 1) rfl (by decide) (by decide) rfl (fun ls hl => ?_)
  refine lv_goto (tgt := 32) hx hb dX0_readFair_86 (by decide) ?_
  refine lv_iload_n hx hb dX0_readFair_32 rfl (lv_at hl 0 rfl) ?_
  refine lv_bipush (v := 40) hx hb dX0_readFair_33 (by decide) ?_
  refine lv_icmp_gt (tgt := 89) hx hb dX0_readFair_35 (by decide) (fun z => absurd z (by decide)) (fun _ => ?_)
  refine lv_iload_n hx hb dX0_readFair_38 rfl (lv_at hl 1 rfl) ?_
  refine lv_if_eq (tgt := 89) hx hb dX0_readFair_39 (by decide) (fun _ => ?_) (fun z => absurd (by decide) z)
  refine lv_aload_n hx hb dX0_readFair_89 rfl (lv_at hl 2 rfl) ?_
  refine va_get (D := D) (ci := 0) (v := .ref n_1) (C := RX0) (T := TX0) (N := 3) hx hb hT i_X0 hown hK hP 1 rfl rfl 1 (by decide) (hT _ q_124) (fun _ h9 => h9) rfl dX0_readFair_90 ?_
  refine va_callv (va_runV (As := []) (rest := []) ⟨hx, hb, hml, hown, hT⟩ (c_X8_matchHalves l D cs kK kV n_1 g_3) (cwV 0 hT (hz_gV q_139 q_140 q_141 q_121 q_142) rfl rfl rfl (by decide +kernel) ⟨(Nat.le_of_ble_eq_true rfl), (Nat.le_of_ble_eq_true rfl)⟩) ⟨hz_P.blind, va_recv hK hP (ci := 8) (q0 := 0) rfl rfl, hz_P.mk (hP.sub (ws' := [(n_1, .inr (8, [.int 0, .int 0, .int 0, .int 0, .int 0, .int 12, .int 5, .int 1, .int 0, .ref (g_3 0), .ref (g_3 1), .ref (g_3 2), .ref (g_3 3), .ref (g_3 4), .ref (g_3 5), .ref (g_3 6), .ref (g_3 7), .ref (g_3 8)]))]) [0] rfl) hE hS⟩ rfl rfl hl.1 rfl (lv_room (Nat.le_of_ble_eq_true rfl)) dX0_readFair_93 ⟨(Nat.le_of_ble_eq_true rfl), (Nat.le_of_ble_eq_true rfl)⟩) hS (fun _ _ h => h.elim) (fun _ h => h.elim) (fun u t H1 locs ht hvm hw hB hz1 hk1 hS => ?_)
  have hP := hz_keep hP hk1
  clear hk1 hB hz1
  generalize H1 = H at hP hS ⊢
  refine lv_aload_n hx hb dX0_readFair_96 rfl (lv_at hl 2 rfl) ?_
  refine va_get (D := D) (ci := 0) (v := .ref n_1) (C := RX0) (T := TX0) (N := 3) hx hb hT i_X0 hown hK hP 1 rfl rfl 1 (by decide) (hT _ q_124) (fun _ h9 => h9) rfl dX0_readFair_97 ?_
  exact W.aret (v := .ref n_1) hx hb hr (Or.inl ⟨_, rfl⟩) (Or.inr ⟨_, rfl⟩) (fun t ht hW => ⟨⟨(), n_1, rfl, trivial, by rw [ht]; exact hP.sub [2] rfl, hD.sub [2] (by decide) rfl⟩, hS.F ht⟩) hS.2.2 dX0_readFair_100
theorem dX5_readClause_0 : decode cX5_readClause 0 = .ok (.aload_n 0, 1) := by decide +kernel
theorem dX5_readClause_1 : decode cX5_readClause 1 = .ok (.getfield 15, 3) := by decide +kernel
theorem dX5_readClause_4 : decode cX5_readClause 4 = .ok (.invokevirtual 52, 3) := by decide +kernel
theorem dX5_readClause_7 : decode cX5_readClause 7 = .ok (.aload_n 0, 1) := by decide +kernel
theorem dX5_readClause_8 : decode cX5_readClause 8 = .ok (.getfield 15, 3) := by decide +kernel
theorem dX5_readClause_11 : decode cX5_readClause 11 = .ok (.getfield 55, 3) := by decide +kernel
theorem dX5_readClause_14 : decode cX5_readClause 14 = .ok (.istore_n 2, 1) := by decide +kernel
theorem dX5_readClause_15 : decode cX5_readClause 15 = .ok (.aload_n 0, 1) := by decide +kernel
theorem dX5_readClause_16 : decode cX5_readClause 16 = .ok (.getfield 15, 3) := by decide +kernel
theorem dX5_readClause_19 : decode cX5_readClause 19 = .ok (.ldc 58, 2) := by decide +kernel
theorem dX5_readClause_21 : decode cX5_readClause 21 = .ok (.invokevirtual 60, 3) := by decide +kernel
theorem dX5_readClause_24 : decode cX5_readClause 24 = .ok (.istore_n 3, 1) := by decide +kernel
theorem dX5_readClause_25 : decode cX5_readClause 25 = .ok (.iload_n 3, 1) := by decide +kernel
theorem dX5_readClause_26 : decode cX5_readClause 26 = .ok (.ifCond .ge 13, 3) := by decide +kernel
theorem dX5_readClause_29 : decode cX5_readClause 29 = .ok (.aload_n 0, 1) := by decide +kernel
theorem dX5_readClause_30 : decode cX5_readClause 30 = .ok (.getfield 15, 3) := by decide +kernel
theorem dX5_readClause_33 : decode cX5_readClause 33 = .ok (.iload_n 2, 1) := by decide +kernel
theorem dX5_readClause_34 : decode cX5_readClause 34 = .ok (.iconst 0, 1) := by decide +kernel
theorem dX5_readClause_35 : decode cX5_readClause 35 = .ok (.invokevirtual 64, 3) := by decide +kernel
theorem dX5_readClause_38 : decode cX5_readClause 38 = .ok (.return_, 1) := by decide +kernel
set_option maxHeartbeats 4000000 in
set_option maxRecDepth 100000 in
theorem c_X5_readClause (l : Launch) (D : va_G) (cs : Nat → ClassId) (kK kV : Nat → Nat) (a0 : Nat) (a1 : Nat) (b : Nat) (cd : Nat) (rl : Nat) (sz : Nat) : Met l yX5_readClause (hz_w yX5_readClause cX5_readClause 5 none) ({ frames := 5, cells := 0, slots := 0, locals := 111 }) (va_Pc [.ref a0, .ref rl] (hz_C D cs kK kV sz [(a0, .inr (5, [.ref a1, .ref cd, .int 0, .int 0])), (a1, .inr (7, [.ref b, .int 0, .int 0, .int 0]))])) (va_Qv (fun (_ : Unit) => True) (fun _ t => va_P D classes [(a0, .inr (5, [.ref a1, .ref cd, .int 0, .int 0])), (a1, .inr (7, [.ref b, .int 0, .int 0, .int 1]))] t.heap ∧ va_D (va_A [(a0, .inr (5, [.ref a1, .ref cd, .int 0, .int 0])), (a1, .inr (7, [.ref b, .int 0, .int 0, .int 0]))] sz) [(a0, .inr (5, [.ref a1, .ref cd, .int 0, .int 0])), (a1, .inr (7, [.ref b, .int 0, .int 0, .int 1]))]) (va_A [(a0, .inr (5, [.ref a1, .ref cd, .int 0, .int 0])), (a1, .inr (7, [.ref b, .int 0, .int 0, .int 0]))] sz)) 0 0 (va_A [(a0, .inr (5, [.ref a1, .ref cd, .int 0, .int 0])), (a1, .inr (7, [.ref b, .int 0, .int 0, .int 0]))] sz) := by
  refine Met.ofW (cc := cX5_readClause) (maxL := 5) (ret := none) (by decide) rfl ?_
  intro p e s m args below meth c s₁ B hml hv
  obtain ⟨rfl, hsz, hP, hD0, hE⟩ := hv
  have hx := B.exec
  have hb := B.bytes
  have hr := B.returns
  have hT : ∀ w ∈ TB, w.before _ s = true := fun w h => atoms_spec (ws := hz_w yX5_readClause cX5_readClause 5 none) B.pre w (List.mem_cons_of_mem _ h)
  have hown : s.vm.findClass RX5 = some m.cls := findClass_of_methodNamed B.named
  have hlocks := B.notSynchronized
  clear B
  subst hsz
  have hD := hD0.self (sz := s.heap.size)
  generalize hAe : va_A [(a0, .inr (5, [.ref a1, .ref cd, .int 0, .int 0])), (a1, .inr (7, [.ref b, .int 0, .int 0, .int 0]))] s.heap.size = A at hD hE ⊢
  have hA : ∀ q : Nat, s.heap.size ≤ q → A q := fun q h => by rw [← hAe]; exact Or.inr h
  clear hAe hD0
  have hS : va_S A s.heap s.heap [] := va_S.rf
  have hK := hE.1
  have hl := lv_entry ([.ref a0, .ref rl]) (n := 5) (Nat.le_of_ble_eq_true rfl)
  rw [lg_entry_eq]
  generalize (lg_sl ([.ref a0, .ref rl]) ++ List.replicate (5 - (lg_sl ([.ref a0, .ref rl])).length) Slot.unset).toArray = ls at hl ⊢
  have hl : lv_has ls 5 [(0, .ref a0), (1, .ref rl)] := hl
  obtain ⟨H, eH⟩ : ∃ z, z = s.heap := ⟨_, rfl⟩
  have hP : va_P D classes [(a0, .inr (5, [.ref a1, .ref cd, .int 0, .int 0])), (a1, .inr (7, [.ref b, .int 0, .int 0, .int 0]))] H := by rw [eH]; exact hP
  have hS : va_S A s.heap H [] := by rw [eH]; exact hS
  rw [← eH]
  clear eH
  refine lv_aload_n hx hb dX5_readClause_0 rfl (lv_at hl 0 rfl) ?_
  refine va_get (D := D) (ci := 5) (v := .ref a1) (C := RX5) (T := TX5) (N := 4) hx hb hT i_X5 hown hK hP 0 rfl rfl 0 (by decide) (hT _ q_143) (fun _ h9 => h9) rfl dX5_readClause_1 ?_
  refine va_callv (va_runV (As := []) (rest := []) ⟨hx, hb, hml, hown, hT⟩ (c_X7_skip l D cs kK kV a1 b 0) (cwV 0 hT (hz_gV q_144 q_94 q_95 q_96 q_97) rfl rfl rfl (by decide +kernel) ⟨(Nat.le_of_ble_eq_true rfl), (Nat.le_of_ble_eq_true rfl)⟩) ⟨hz_P.blind, va_recv hK hP (ci := 7) (q0 := 1) rfl rfl, hz_P.mk (hP.sub (ws' := [(a1, .inr (7, [.ref b, .int 0, .int 0, .int 0]))]) [1] rfl) hE hS⟩ rfl rfl hl.1 rfl (lv_room (Nat.le_of_ble_eq_true rfl)) dX5_readClause_4 ⟨(Nat.le_of_ble_eq_true rfl), (Nat.le_of_ble_eq_true rfl)⟩) hS (fun _ _ h => h.elim) (fun _ h => h.elim) (fun u t H1 locs ht hvm hw hB hz1 hk1 hS => ?_)
  have hP := hz_keep hP hk1
  clear hk1 hB hz1
  generalize H1 = H at hP hS ⊢
  refine lv_aload_n hx hb dX5_readClause_7 rfl (lv_at hl 0 rfl) ?_
  refine va_get (D := D) (ci := 5) (v := .ref a1) (C := RX5) (T := TX5) (N := 4) hx hb hT i_X5 hown hK hP 0 rfl rfl 0 (by decide) (hT _ q_143) (fun _ h9 => h9) rfl dX5_readClause_8 ?_
  refine va_get (D := D) (ci := 7) (v := .int 0) (C := RX7) (T := TX7) (N := 4) hx hb hT i_X7 hown hK hP 1 rfl rfl 2 (by decide) (hT _ q_145) (fun _ h9 => h9) rfl dX5_readClause_11 ?_
  refine lv_istore_n (lv' := [(2, .int 0), (0, .ref a0), (1, .ref rl)]) hx hb dX5_readClause_14 rfl hl (by decide) rfl (fun ls hl => ?_)
  refine lv_aload_n hx hb dX5_readClause_15 rfl (lv_at hl 1 rfl) ?_
  refine va_get (D := D) (ci := 5) (v := .ref a1) (C := RX5) (T := TX5) (N := 4) hx hb hT i_X5 hown hK hP 0 rfl rfl 0 (by decide) (hT _ q_143) (fun _ h9 => h9) rfl dX5_readClause_16 ?_
  refine va_ldcS hx hb hown hE.2.2.2.2.2.2.2 dX5_readClause_19 ?_
  have hFc := va_free (wc := [(a1, .inr (7, [.ref b, .int 0, .int 0, .int 0]))]) hD hS hA [1] rfl
  refine va_calli (va_runV (As := [.ref (kK 1)]) (rest := []) ⟨hx, hb, hml, hown, hT⟩ (c_X7_takeWord l D cs kK kV a1 b 0 1 ((by decide)) H.size) (cwV 1 hT (hz_gV q_146 q_112 q_113 q_96 q_114) rfl rfl rfl (by decide +kernel) ⟨(Nat.le_of_ble_eq_true rfl), (Nat.le_of_ble_eq_true rfl)⟩) ⟨hz_C.blind, va_recv hK hP (ci := 7) (q0 := 1) rfl rfl, hz_C.mk (hP.sub (ws' := [(a1, .inr (7, [.ref b, .int 0, .int 0, .int 0]))]) [1] rfl) (hD.sub (ws' := [(a1, .inr (7, [.ref b, .int 0, .int 0, .int 0]))]) [1] (by decide) rfl) hE hS hFc⟩ rfl rfl hl.1 rfl (lv_room (Nat.le_of_ble_eq_true rfl)) dX5_readClause_21 ⟨(Nat.le_of_ble_eq_true rfl), (Nat.le_of_ble_eq_true rfl)⟩) hS (fun q _ h => hFc q h) hFc (fun r_2 u t H1 locs ht hvm hw hB hz1 hk1 hS => ?_)
  obtain ⟨hP1, hD1⟩ := hB
  rw [ht] at hP1
  obtain ⟨hP, hD⟩ := va_join (wr := [(a0, .inr (5, [.ref a1, .ref cd, .int 0, .int 0]))]) (w1 := [(a1, .inr (7, [.ref b, .int 0, .int 0, .int 0]))]) hP hD [1] [0] rfl rfl (by decide) (by decide) hk1 hFc hP1 hD1
  generalize H1 = H at hP hS ⊢
  have hP : va_P D classes [(a0, .inr (5, [.ref a1, .ref cd, .int 0, .int 0])), (a1, .inr (7, [.ref b, .int 0, .int 0, .int 0]))] H := hP
  have hD : va_D A [(a0, .inr (5, [.ref a1, .ref cd, .int 0, .int 0])), (a1, .inr (7, [.ref b, .int 0, .int 0, .int 0]))] := hD
  clear hk1 hFc hP1 hD1 hz1
  subst hw
  refine lv_istore_n (lv' := [(3, .int (-1)), (2, .int 0), (0, .ref a0), (1, .ref rl)]) hx hb dX5_readClause_24 rfl hl (by decide) rfl (fun ls hl => ?_)
  refine lv_iload_n hx hb dX5_readClause_25 rfl (lv_at hl 0 rfl) ?_
  refine lv_if_ge (tgt := 39) hx hb dX5_readClause_26 (by decide) (fun z => absurd z (by decide)) (fun _ => ?_)
  refine lv_aload_n hx hb dX5_readClause_29 rfl (lv_at hl 2 rfl) ?_
  refine va_get (D := D) (ci := 5) (v := .ref a1) (C := RX5) (T := TX5) (N := 4) hx hb hT i_X5 hown hK hP 0 rfl rfl 0 (by decide) (hT _ q_143) (fun _ h9 => h9) rfl dX5_readClause_30 ?_
  refine lv_iload_n hx hb dX5_readClause_33 rfl (lv_at hl 1 rfl) ?_
  refine lv_iconst (v := 0) hx hb dX5_readClause_34 (by decide) ?_
  have hFc := va_free (wc := [(a1, .inr (7, [.ref b, .int 0, .int 0, .int 0]))]) hD hS hA [1] rfl
  refine va_callv (va_runV (As := [.int 0, .int 0]) (rest := []) ⟨hx, hb, hml, hown, hT⟩ (c_X7_fail l D cs kK kV a1 b H.size) (cwV 2 hT (hz_gV q_147 q_116 q_117 q_96 q_118) rfl rfl rfl (by decide +kernel) ⟨(Nat.le_of_ble_eq_true rfl), (Nat.le_of_ble_eq_true rfl)⟩) ⟨hz_C.blind, va_recv hK hP (ci := 7) (q0 := 1) rfl rfl, hz_C.mk (hP.sub (ws' := [(a1, .inr (7, [.ref b, .int 0, .int 0, .int 0]))]) [1] rfl) (hD.sub (ws' := [(a1, .inr (7, [.ref b, .int 0, .int 0, .int 0]))]) [1] (by decide) rfl) hE hS hFc⟩ rfl rfl hl.1 rfl (lv_room (Nat.le_of_ble_eq_true rfl)) dX5_readClause_35 ⟨(Nat.le_of_ble_eq_true rfl), (Nat.le_of_ble_eq_true rfl)⟩) hS (fun q _ h => hFc q h) hFc (fun u t H1 locs ht hvm hw hB hz1 hk1 hS => ?_)
  obtain ⟨hP1, hD1⟩ := hB
  rw [ht] at hP1
  obtain ⟨hP, hD⟩ := va_join (wr := [(a0, .inr (5, [.ref a1, .ref cd, .int 0, .int 0]))]) (w1 := [(a1, .inr (7, [.ref b, .int 0, .int 0, .int 1]))]) hP hD [1] [0] rfl rfl (by decide) (by decide) hk1 hFc hP1 hD1
  generalize H1 = H at hP hS ⊢
  have hP : va_P D classes [(a0, .inr (5, [.ref a1, .ref cd, .int 0, .int 0])), (a1, .inr (7, [.ref b, .int 0, .int 0, .int 1]))] H := hP
  have hD : va_D A [(a0, .inr (5, [.ref a1, .ref cd, .int 0, .int 0])), (a1, .inr (7, [.ref b, .int 0, .int 0, .int 1]))] := hD
  clear hk1 hFc hP1 hD1 hz1
  exact W.vret hx hb hr (fun t ht hW => ⟨⟨(), rfl, trivial, by rw [ht]; exact hP.sub [0, 1] rfl, hD.sub [0, 1] (by decide) rfl⟩, hS.F ht⟩) hS.2.2 dX5_readClause_38
theorem dX5_readRule_0 : decode cX5_readRule 0 = .ok (.aload_n 0, 1) := by decide +kernel
theorem dX5_readRule_1 : decode cX5_readRule 1 = .ok (.aload_n 1, 1) := by decide +kernel
theorem dX5_readRule_2 : decode cX5_readRule 2 = .ok (.putfield 15, 3) := by decide +kernel
theorem dX5_readRule_5 : decode cX5_readRule 5 = .ok (.new 19, 3) := by decide +kernel
theorem dX5_readRule_8 : decode cX5_readRule 8 = .ok (.dup, 1) := by decide +kernel
theorem dX5_readRule_9 : decode cX5_readRule 9 = .ok (.invokespecial 21, 3) := by decide +kernel
theorem dX5_readRule_12 : decode cX5_readRule 12 = .ok (.astore_n 2, 1) := by decide +kernel
theorem dX5_readRule_13 : decode cX5_readRule 13 = .ok (.aload_n 0, 1) := by decide +kernel
theorem dX5_readRule_14 : decode cX5_readRule 14 = .ok (.iconst 0, 1) := by decide +kernel
theorem dX5_readRule_15 : decode cX5_readRule 15 = .ok (.putfield 22, 3) := by decide +kernel
theorem dX5_readRule_18 : decode cX5_readRule 18 = .ok (.aload_n 0, 1) := by decide +kernel
theorem dX5_readRule_19 : decode cX5_readRule 19 = .ok (.iconst 0, 1) := by decide +kernel
theorem dX5_readRule_20 : decode cX5_readRule 20 = .ok (.putfield 26, 3) := by decide +kernel
theorem dX5_readRule_23 : decode cX5_readRule 23 = .ok (.aload_n 0, 1) := by decide +kernel
theorem dX5_readRule_24 : decode cX5_readRule 24 = .ok (.getfield 15, 3) := by decide +kernel
theorem dX5_readRule_27 : decode cX5_readRule 27 = .ok (.invokevirtual 29, 3) := by decide +kernel
theorem dX5_readRule_30 : decode cX5_readRule 30 = .ok (.iconst 1, 1) := by decide +kernel
theorem dX5_readRule_31 : decode cX5_readRule 31 = .ok (.istore_n 3, 1) := by decide +kernel
theorem dX5_readRule_32 : decode cX5_readRule 32 = .ok (.iconst 0, 1) := by decide +kernel
theorem dX5_readRule_33 : decode cX5_readRule 33 = .ok (.istore 4, 2) := by decide +kernel
theorem dX5_readRule_35 : decode cX5_readRule 35 = .ok (.iload 4, 2) := by decide +kernel
theorem dX5_readRule_37 : decode cX5_readRule 37 = .ok (.bipush 12, 2) := by decide +kernel
theorem dX5_readRule_39 : decode cX5_readRule 39 = .ok (.if_icmp .gt 54, 3) := by decide +kernel
theorem dX5_readRule_42 : decode cX5_readRule 42 = .ok (.iload_n 3, 1) := by decide +kernel
theorem dX5_readRule_43 : decode cX5_readRule 43 = .ok (.ifCond .eq 50, 3) := by decide +kernel
theorem dX5_readRule_46 : decode cX5_readRule 46 = .ok (.aload_n 0, 1) := by decide +kernel
theorem dX5_readRule_47 : decode cX5_readRule 47 = .ok (.getfield 15, 3) := by decide +kernel
theorem dX5_readRule_50 : decode cX5_readRule 50 = .ok (.invokevirtual 34, 3) := by decide +kernel
theorem dX5_readRule_53 : decode cX5_readRule 53 = .ok (.ifCond .eq 40, 3) := by decide +kernel
theorem dX5_readRule_56 : decode cX5_readRule 56 = .ok (.aload_n 0, 1) := by decide +kernel
theorem dX5_readRule_57 : decode cX5_readRule 57 = .ok (.aload_n 2, 1) := by decide +kernel
theorem dX5_readRule_58 : decode cX5_readRule 58 = .ok (.invokevirtual 38, 3) := by decide +kernel
theorem dX5_readRule_61 : decode cX5_readRule 61 = .ok (.aload_n 0, 1) := by decide +kernel
theorem dX5_readRule_62 : decode cX5_readRule 62 = .ok (.getfield 15, 3) := by decide +kernel
theorem dX5_readRule_65 : decode cX5_readRule 65 = .ok (.invokevirtual 34, 3) := by decide +kernel
theorem dX5_readRule_68 : decode cX5_readRule 68 = .ok (.ifCond .eq 17, 3) := by decide +kernel
theorem dX5_readRule_85 : decode cX5_readRule 85 = .ok (.iconst 0, 1) := by decide +kernel
theorem dX5_readRule_86 : decode cX5_readRule 86 = .ok (.istore_n 3, 1) := by decide +kernel
theorem dX5_readRule_87 : decode cX5_readRule 87 = .ok (.iinc 4 1, 3) := by decide +kernel
theorem dX5_readRule_90 : decode cX5_readRule 90 = .ok (.goto (-55), 3) := by decide +kernel
theorem dX5_readRule_93 : decode cX5_readRule 93 = .ok (.aload_n 0, 1) := by decide +kernel
theorem dX5_readRule_94 : decode cX5_readRule 94 = .ok (.getfield 15, 3) := by decide +kernel
theorem dX5_readRule_97 : decode cX5_readRule 97 = .ok (.invokevirtual 34, 3) := by decide +kernel
theorem dX5_readRule_100 : decode cX5_readRule 100 = .ok (.ifCond .eq 18, 3) := by decide +kernel
theorem dX5_readRule_118 : decode cX5_readRule 118 = .ok (.aload_n 2, 1) := by decide +kernel
theorem dX5_readRule_119 : decode cX5_readRule 119 = .ok (.areturn, 1) := by decide +kernel
set_option maxHeartbeats 4000000 in
set_option maxRecDepth 100000 in
theorem c_X5_readRule (l : Launch) (D : va_G) (cs : Nat → ClassId) (kK kV : Nat → Nat) (a0 : Nat) (a1 : Nat) (b : Nat) (cd : Nat) (sz : Nat) : Met l yX5_readRule (hz_w yX5_readRule cX5_readRule 5 (some (.object "HalfFair$Rule"))) ({ frames := 6, cells := 6, slots := 54, locals := 135 }) (va_Pc [.ref a0, .ref a1] (hz_C D cs kK kV sz [(a0, .inr (5, [.null, .ref cd, .int 0, .int 0])), (a1, .inr (7, [.ref b, .int 0, .int 0, .int 0]))])) (va_Qr (fun (_ : Unit) => True) (fun _ ra t => va_P D classes [(a1, .inr (7, [.ref b, .int 0, .int 0, .int 1]))] t.heap ∧ va_D (va_A [(a0, .inr (5, [.null, .ref cd, .int 0, .int 0])), (a1, .inr (7, [.ref b, .int 0, .int 0, .int 0]))] sz) [(a1, .inr (7, [.ref b, .int 0, .int 0, .int 1]))]) (va_A [(a0, .inr (5, [.null, .ref cd, .int 0, .int 0])), (a1, .inr (7, [.ref b, .int 0, .int 0, .int 0]))] sz)) 6 54 (va_A [(a0, .inr (5, [.null, .ref cd, .int 0, .int 0])), (a1, .inr (7, [.ref b, .int 0, .int 0, .int 0]))] sz) := by
  refine Met.ofW (cc := cX5_readRule) (maxL := 5) (ret := (some (.object "HalfFair$Rule"))) (by decide) rfl ?_
  intro p e s m args below meth c s₁ B hml hv
  obtain ⟨rfl, hsz, hP, hD0, hE⟩ := hv
  have hx := B.exec
  have hb := B.bytes
  have hr := B.returns
  have hT : ∀ w ∈ TB, w.before _ s = true := fun w h => atoms_spec (ws := hz_w yX5_readRule cX5_readRule 5 (some (.object "HalfFair$Rule"))) B.pre w (List.mem_cons_of_mem _ h)
  have hown : s.vm.findClass RX5 = some m.cls := findClass_of_methodNamed B.named
  have hlocks := B.notSynchronized
  clear B
  subst hsz
  have hD := hD0.self (sz := s.heap.size)
  generalize hAe : va_A [(a0, .inr (5, [.null, .ref cd, .int 0, .int 0])), (a1, .inr (7, [.ref b, .int 0, .int 0, .int 0]))] s.heap.size = A at hD hE ⊢
  have hA : ∀ q : Nat, s.heap.size ≤ q → A q := fun q h => by rw [← hAe]; exact Or.inr h
  clear hAe hD0
  have hS : va_S A s.heap s.heap [] := va_S.rf
  have hK := hE.1
  have hl := lv_entry ([.ref a0, .ref a1]) (n := 5) (Nat.le_of_ble_eq_true rfl)
  rw [lg_entry_eq]
  generalize (lg_sl ([.ref a0, .ref a1]) ++ List.replicate (5 - (lg_sl ([.ref a0, .ref a1])).length) Slot.unset).toArray = ls at hl ⊢
  have hl : lv_has ls 5 [(0, .ref a0), (1, .ref a1)] := hl
  obtain ⟨H, eH⟩ : ∃ z, z = s.heap := ⟨_, rfl⟩
  have hP : va_P D classes [(a0, .inr (5, [.null, .ref cd, .int 0, .int 0])), (a1, .inr (7, [.ref b, .int 0, .int 0, .int 0]))] H := by rw [eH]; exact hP
  have hS : va_S A s.heap H [] := by rw [eH]; exact hS
  rw [← eH]
  clear eH
  refine lv_aload_n hx hb dX5_readRule_0 rfl (lv_at hl 0 rfl) ?_
  refine lv_aload_n hx hb dX5_readRule_1 rfl (lv_at hl 1 rfl) ?_
  refine va_put (D := D) (ci := 5) (v := .ref a1) (ty := .object "HalfFair$Tape") (C := RX5) (T := TX5) (N := 4) hx hb hT i_X5 tyX5 tyX5_ok nmX5 hown hK hP hD hS 0 rfl rfl 0 (by decide) (hT _ q_143) (fun _ h9 => h9) rfl (by decide +kernel) rfl rfl (Nat.le_of_ble_eq_true rfl) dX5_readRule_2 (fun H locs hP hD hS => ?_)
  have hP : va_P D classes [(a0, .inr (5, [.ref a1, .ref cd, .int 0, .int 0])), (a1, .inr (7, [.ref b, .int 0, .int 0, .int 0]))] H := hP
  have hD : va_D A [(a0, .inr (5, [.ref a1, .ref cd, .int 0, .int 0])), (a1, .inr (7, [.ref b, .int 0, .int 0, .int 0]))] := hD
  refine va_new (D := D) (ci := 4) (fs := [.int 0, .null, .null, .null, .null, .null]) (C := RX4) (T := TX4) (N := 6) hx hb hT i_X4 tyX4 tyX4_ok hown (hT _ q_148) (hT _ q_149) (hT _ q_150) hK hP hD hS hA rfl df_X4 (Nat.le_of_ble_eq_true rfl) (Nat.le_of_ble_eq_true rfl) dX5_readRule_5 (fun n_1 H hP hD hS => ?_)
  have hP : va_P D classes [(a0, .inr (5, [.ref a1, .ref cd, .int 0, .int 0])), (a1, .inr (7, [.ref b, .int 0, .int 0, .int 0])), (n_1, .inr (4, [.int 0, .null, .null, .null, .null, .null]))] H := hP
  have hD : va_D A [(a0, .inr (5, [.ref a1, .ref cd, .int 0, .int 0])), (a1, .inr (7, [.ref b, .int 0, .int 0, .int 0])), (n_1, .inr (4, [.int 0, .null, .null, .null, .null, .null]))] := hD
  refine W.widen (k := 1) (n := 6) (Nat.le_of_ble_eq_true rfl) (Nat.le_of_ble_eq_true rfl) ?_
  refine lv_dup hx hb dX5_readRule_8 rfl ?_
  have hFc := va_free (wc := [(n_1, .inr (4, [.int 0, .null, .null, .null, .null, .null]))]) hD hS hA [2] rfl
  refine va_callv (va_runIN (As := []) (rest := [.ref n_1]) ⟨hx, hb, hml, hown, hT⟩ (c_X4_init l D cs kK kV n_1 H.size) ⟨va_cnB 0 hT (hz_gw q_151) rfl rfl rfl (hE.2.1 10 (by decide)) (hT _ q_150) (by decide +kernel) ⟨(Nat.le_of_ble_eq_true rfl), (Nat.le_of_ble_eq_true rfl)⟩, rfl, hT _ q_152⟩ ⟨hz_C.blind, hz_C.mk (hP.sub (ws' := [(n_1, .inr (4, [.int 0, .null, .null, .null, .null, .null]))]) [2] rfl) (hD.sub (ws' := [(n_1, .inr (4, [.int 0, .null, .null, .null, .null, .null]))]) [2] (by decide) rfl) hE hS hFc⟩ rfl rfl hl.1 rfl (lv_room (Nat.le_of_ble_eq_true rfl)) dX5_readRule_9 ⟨(Nat.le_of_ble_eq_true rfl), (Nat.le_of_ble_eq_true rfl)⟩) hS (fun q _ h => hFc q h) hFc (fun u t H1 locs ht hvm hw hB hz1 hk1 hS => ?_)
  obtain ⟨g_3, hP1, hD1⟩ := hB
  rw [ht] at hP1
  obtain ⟨hP, hD⟩ := va_join (wr := [(a0, .inr (5, [.ref a1, .ref cd, .int 0, .int 0])), (a1, .inr (7, [.ref b, .int 0, .int 0, .int 0]))]) (w1 := [(n_1, .inr (4, [.int 0, .ref (g_3 0), .ref (g_3 1), .ref (g_3 2), .ref (g_3 3), .ref (g_3 4)]))]) hP hD [2] [0, 1] rfl rfl (by decide) (by decide) hk1 hFc hP1 hD1
  generalize H1 = H at hP hS ⊢
  have hP : va_P D classes [(a0, .inr (5, [.ref a1, .ref cd, .int 0, .int 0])), (a1, .inr (7, [.ref b, .int 0, .int 0, .int 0])), (n_1, .inr (4, [.int 0, .ref (g_3 0), .ref (g_3 1), .ref (g_3 2), .ref (g_3 3), .ref (g_3 4)]))] H := hP
  have hD : va_D A [(a0, .inr (5, [.ref a1, .ref cd, .int 0, .int 0])), (a1, .inr (7, [.ref b, .int 0, .int 0, .int 0])), (n_1, .inr (4, [.int 0, .ref (g_3 0), .ref (g_3 1), .ref (g_3 2), .ref (g_3 3), .ref (g_3 4)]))] := hD
  clear hk1 hFc hP1 hD1 hz1
  refine W.widen (k := 6) (n := 54) (Nat.le_of_ble_eq_true rfl) (Nat.le_of_ble_eq_true rfl) ?_
  refine lv_astore_n (lv' := [(2, .ref n_1), (0, .ref a0), (1, .ref a1)]) hx hb dX5_readRule_12 rfl hl (by decide) rfl (fun ls hl => ?_)
  refine lv_aload_n hx hb dX5_readRule_13 rfl (lv_at hl 1 rfl) ?_
  refine lv_iconst (v := 0) hx hb dX5_readRule_14 (by decide) ?_
  refine va_put (D := D) (ci := 5) (v := .int 0) (ty := .int) (C := RX5) (T := TX5) (N := 4) hx hb hT i_X5 tyX5 tyX5_ok nmX5 hown hK hP hD hS 0 rfl rfl 2 (by decide) (hT _ q_153) (fun _ h9 => h9) rfl (by decide +kernel) rfl rfl (Nat.le_of_ble_eq_true rfl) dX5_readRule_15 (fun H locs hP hD hS => ?_)
  have hP : va_P D classes [(a0, .inr (5, [.ref a1, .ref cd, .int 0, .int 0])), (a1, .inr (7, [.ref b, .int 0, .int 0, .int 0])), (n_1, .inr (4, [.int 0, .ref (g_3 0), .ref (g_3 1), .ref (g_3 2), .ref (g_3 3), .ref (g_3 4)]))] H := hP
  have hD : va_D A [(a0, .inr (5, [.ref a1, .ref cd, .int 0, .int 0])), (a1, .inr (7, [.ref b, .int 0, .int 0, .int 0])), (n_1, .inr (4, [.int 0, .ref (g_3 0), .ref (g_3 1), .ref (g_3 2), .ref (g_3 3), .ref (g_3 4)]))] := hD
  refine lv_aload_n hx hb dX5_readRule_18 rfl (lv_at hl 1 rfl) ?_
  refine lv_iconst (v := 0) hx hb dX5_readRule_19 (by decide) ?_
  refine va_put (D := D) (ci := 5) (v := .int 0) (ty := .int) (C := RX5) (T := TX5) (N := 4) hx hb hT i_X5 tyX5 tyX5_ok nmX5 hown hK hP hD hS 0 rfl rfl 3 (by decide) (hT _ q_154) (fun _ h9 => h9) rfl (by decide +kernel) rfl rfl (Nat.le_of_ble_eq_true rfl) dX5_readRule_20 (fun H locs hP hD hS => ?_)
  have hP : va_P D classes [(a0, .inr (5, [.ref a1, .ref cd, .int 0, .int 0])), (a1, .inr (7, [.ref b, .int 0, .int 0, .int 0])), (n_1, .inr (4, [.int 0, .ref (g_3 0), .ref (g_3 1), .ref (g_3 2), .ref (g_3 3), .ref (g_3 4)]))] H := hP
  have hD : va_D A [(a0, .inr (5, [.ref a1, .ref cd, .int 0, .int 0])), (a1, .inr (7, [.ref b, .int 0, .int 0, .int 0])), (n_1, .inr (4, [.int 0, .ref (g_3 0), .ref (g_3 1), .ref (g_3 2), .ref (g_3 3), .ref (g_3 4)]))] := hD
  refine lv_aload_n hx hb dX5_readRule_23 rfl (lv_at hl 1 rfl) ?_
  refine va_get (D := D) (ci := 5) (v := .ref a1) (C := RX5) (T := TX5) (N := 4) hx hb hT i_X5 hown hK hP 0 rfl rfl 0 (by decide) (hT _ q_143) (fun _ h9 => h9) rfl dX5_readRule_24 ?_
  have hFc := va_free (wc := [(a1, .inr (7, [.ref b, .int 0, .int 0, .int 0]))]) hD hS hA [1] rfl
  refine va_callv (va_runV (As := []) (rest := []) ⟨hx, hb, hml, hown, hT⟩ (c_X7_rewind l D cs kK kV a1 b 0 0 H.size) (cwV 0 hT (hz_gV q_155 q_127 q_128 q_96 q_129) rfl rfl rfl (by decide +kernel) ⟨(Nat.le_of_ble_eq_true rfl), (Nat.le_of_ble_eq_true rfl)⟩) ⟨hz_C.blind, va_recv hK hP (ci := 7) (q0 := 1) rfl rfl, hz_C.mk (hP.sub (ws' := [(a1, .inr (7, [.ref b, .int 0, .int 0, .int 0]))]) [1] rfl) (hD.sub (ws' := [(a1, .inr (7, [.ref b, .int 0, .int 0, .int 0]))]) [1] (by decide) rfl) hE hS hFc⟩ rfl rfl hl.1 rfl (lv_room (Nat.le_of_ble_eq_true rfl)) dX5_readRule_27 ⟨(Nat.le_of_ble_eq_true rfl), (Nat.le_of_ble_eq_true rfl)⟩) hS (fun q _ h => hFc q h) hFc (fun u t H1 locs ht hvm hw hB hz1 hk1 hS => ?_)
  obtain ⟨hP1, hD1⟩ := hB
  rw [ht] at hP1
  obtain ⟨hP, hD⟩ := va_join (wr := [(a0, .inr (5, [.ref a1, .ref cd, .int 0, .int 0])), (n_1, .inr (4, [.int 0, .ref (g_3 0), .ref (g_3 1), .ref (g_3 2), .ref (g_3 3), .ref (g_3 4)]))]) (w1 := [(a1, .inr (7, [.ref b, .int 0, .int 0, .int 0]))]) hP hD [1] [0, 2] rfl rfl (by decide) (by decide) hk1 hFc hP1 hD1
  generalize H1 = H at hP hS ⊢
  have hP : va_P D classes [(a0, .inr (5, [.ref a1, .ref cd, .int 0, .int 0])), (n_1, .inr (4, [.int 0, .ref (g_3 0), .ref (g_3 1), .ref (g_3 2), .ref (g_3 3), .ref (g_3 4)])), (a1, .inr (7, [.ref b, .int 0, .int 0, .int 0]))] H := hP
  have hD : va_D A [(a0, .inr (5, [.ref a1, .ref cd, .int 0, .int 0])), (n_1, .inr (4, [.int 0, .ref (g_3 0), .ref (g_3 1), .ref (g_3 2), .ref (g_3 3), .ref (g_3 4)])), (a1, .inr (7, [.ref b, .int 0, .int 0, .int 0]))] := hD
  clear hk1 hFc hP1 hD1 hz1
  refine lv_iconst (v := 1) hx hb dX5_readRule_30 (by decide) ?_
  refine lv_istore_n (lv' := [(3, .int 1), (2, .ref n_1), (0, .ref a0), (1, .ref a1)]) hx hb dX5_readRule_31 rfl hl (by decide) rfl (fun ls hl => ?_)
  refine lv_iconst (v := 0) hx hb dX5_readRule_32 (by decide) ?_
  refine lv_istore (lv' := [(4, .int 0), (3, .int 1), (2, .ref n_1), (0, .ref a0), (1, .ref a1)]) hx hb dX5_readRule_33 hl (by decide) rfl (fun ls hl => ?_)
  refine lv_iload hx hb dX5_readRule_35 (lv_at hl 0 rfl) ?_
  refine lv_bipush (v := 12) hx hb dX5_readRule_37 (by decide) ?_
  refine lv_icmp_gt (tgt := 93) hx hb dX5_readRule_39 (by decide) (fun z => absurd z (by decide)) (fun _ => ?_)
  refine lv_iload_n hx hb dX5_readRule_42 rfl (lv_at hl 1 rfl) ?_
  refine lv_if_eq (tgt := 93) hx hb dX5_readRule_43 (by decide) (fun z => absurd z (by decide)) (fun _ => ?_)
  refine lv_aload_n hx hb dX5_readRule_46 rfl (lv_at hl 3 rfl) ?_
  refine va_get (D := D) (ci := 5) (v := .ref a1) (C := RX5) (T := TX5) (N := 4) hx hb hT i_X5 hown hK hP 0 rfl rfl 0 (by decide) (hT _ q_143) (fun _ h9 => h9) rfl dX5_readRule_47 ?_
  refine va_calli (va_runV (As := []) (rest := []) ⟨hx, hb, hml, hown, hT⟩ (c_X7_isSound0 l D cs kK kV a1 b 0 0) (cwV 0 hT (hz_gV q_156 q_131 q_132 q_96 q_133) rfl rfl rfl (by decide +kernel) ⟨(Nat.le_of_ble_eq_true rfl), (Nat.le_of_ble_eq_true rfl)⟩) ⟨hz_P.blind, va_recv hK hP (ci := 7) (q0 := 2) rfl rfl, hz_P.mk (hP.sub (ws' := [(a1, .inr (7, [.ref b, .int 0, .int 0, .int 0]))]) [2] rfl) hE hS⟩ rfl rfl hl.1 rfl (lv_room (Nat.le_of_ble_eq_true rfl)) dX5_readRule_50 ⟨(Nat.le_of_ble_eq_true rfl), (Nat.le_of_ble_eq_true rfl)⟩) hS (fun _ _ h => h.elim) (fun _ h => h.elim) (fun r_5 u t H1 locs ht hvm hw hB hz1 hk1 hS => ?_)
  have hP := hz_keep hP hk1
  clear hk1 hB hz1
  generalize H1 = H at hP hS ⊢
  subst hw
  refine lv_if_eq (tgt := 93) hx hb dX5_readRule_53 (by decide) (fun z => absurd z (by decide)) (fun _ => ?_)
  refine lv_aload_n hx hb dX5_readRule_56 rfl (lv_at hl 3 rfl) ?_
  refine lv_aload_n hx hb dX5_readRule_57 rfl (lv_at hl 2 rfl) ?_
  have hFc := va_free (wc := [(a0, .inr (5, [.ref a1, .ref cd, .int 0, .int 0])), (a1, .inr (7, [.ref b, .int 0, .int 0, .int 0]))]) hD hS hA [0,2] rfl
  refine va_callv (va_runV (As := [.ref n_1]) (rest := []) ⟨hx, hb, hml, hown, hT⟩ (c_X5_readClause l D cs kK kV a0 a1 b cd n_1 H.size) (cwV 1 hT (hz_gV q_157 q_158 q_159 q_160 q_161) rfl rfl rfl (by decide +kernel) ⟨(Nat.le_of_ble_eq_true rfl), (Nat.le_of_ble_eq_true rfl)⟩) ⟨hz_C.blind, va_recv hK hP (ci := 5) (q0 := 0) rfl rfl, hz_C.mk (hP.sub (ws' := [(a0, .inr (5, [.ref a1, .ref cd, .int 0, .int 0])), (a1, .inr (7, [.ref b, .int 0, .int 0, .int 0]))]) [0,2] rfl) (hD.sub (ws' := [(a0, .inr (5, [.ref a1, .ref cd, .int 0, .int 0])), (a1, .inr (7, [.ref b, .int 0, .int 0, .int 0]))]) [0,2] (by decide) rfl) hE hS hFc⟩ rfl rfl hl.1 rfl (lv_room (Nat.le_of_ble_eq_true rfl)) dX5_readRule_58 ⟨(Nat.le_of_ble_eq_true rfl), (Nat.le_of_ble_eq_true rfl)⟩) hS (fun q _ h => hFc q h) hFc (fun u t H1 locs ht hvm hw hB hz1 hk1 hS => ?_)
  obtain ⟨hP1, hD1⟩ := hB
  rw [ht] at hP1
  obtain ⟨hP, hD⟩ := va_join (wr := [(n_1, .inr (4, [.int 0, .ref (g_3 0), .ref (g_3 1), .ref (g_3 2), .ref (g_3 3), .ref (g_3 4)]))]) (w1 := [(a0, .inr (5, [.ref a1, .ref cd, .int 0, .int 0])), (a1, .inr (7, [.ref b, .int 0, .int 0, .int 1]))]) hP hD [0, 2] [1] rfl rfl (by decide) (by decide) hk1 hFc hP1 hD1
  generalize H1 = H at hP hS ⊢
  have hP : va_P D classes [(n_1, .inr (4, [.int 0, .ref (g_3 0), .ref (g_3 1), .ref (g_3 2), .ref (g_3 3), .ref (g_3 4)])), (a0, .inr (5, [.ref a1, .ref cd, .int 0, .int 0])), (a1, .inr (7, [.ref b, .int 0, .int 0, .int 1]))] H := hP
  have hD : va_D A [(n_1, .inr (4, [.int 0, .ref (g_3 0), .ref (g_3 1), .ref (g_3 2), .ref (g_3 3), .ref (g_3 4)])), (a0, .inr (5, [.ref a1, .ref cd, .int 0, .int 0])), (a1, .inr (7, [.ref b, .int 0, .int 0, .int 1]))] := hD
  clear hk1 hFc hP1 hD1 hz1
  refine lv_aload_n hx hb dX5_readRule_61 rfl (lv_at hl 3 rfl) ?_
  refine va_get (D := D) (ci := 5) (v := .ref a1) (C := RX5) (T := TX5) (N := 4) hx hb hT i_X5 hown hK hP 1 rfl rfl 0 (by decide) (hT _ q_143) (fun _ h9 => h9) rfl dX5_readRule_62 ?_
  refine va_calli (va_runV (As := []) (rest := []) ⟨hx, hb, hml, hown, hT⟩ (c_X7_isSound1 l D cs kK kV a1 b 0 0) (cwV 0 hT (hz_gV q_156 q_131 q_132 q_96 q_133) rfl rfl rfl (by decide +kernel) ⟨(Nat.le_of_ble_eq_true rfl), (Nat.le_of_ble_eq_true rfl)⟩) ⟨hz_P.blind, va_recv hK hP (ci := 7) (q0 := 2) rfl rfl, hz_P.mk (hP.sub (ws' := [(a1, .inr (7, [.ref b, .int 0, .int 0, .int 1]))]) [2] rfl) hE hS⟩ rfl rfl hl.1 rfl (lv_room (Nat.le_of_ble_eq_true rfl)) dX5_readRule_65 ⟨(Nat.le_of_ble_eq_true rfl), (Nat.le_of_ble_eq_true rfl)⟩) hS (fun _ _ h => h.elim) (fun _ h => h.elim) (fun r_7 u t H1 locs ht hvm hw hB hz1 hk1 hS => ?_)
  have hP := hz_keep hP hk1
  clear hk1 hB hz1
  generalize H1 = H at hP hS ⊢
  subst hw
  refine lv_if_eq (tgt := 85) hx hb dX5_readRule_68 (by decide) (fun _ => ?_) (fun z => absurd (by decide) z)
  refine lv_iconst (v := 0) hx hb dX5_readRule_85 (by decide) ?_
  refine lv_istore_n (lv' := [(3, .int 0), (4, .int 0), (2, .ref n_1), (0, .ref a0), (1, .ref a1)]) hx hb dX5_readRule_86 rfl hl (by decide) rfl (fun ls hl => ?_)
  refine lv_iinc (v := 1) (lv' := [(4, .int 1), (3, .int 0), (2, .ref n_1), (0, .ref a0), (1, .ref a1)]) hx hb dX5_readRule_87 hl (k := 1) rfl (by decide) (by decide) rfl (fun ls hl => ?_)
  refine lv_goto (tgt := 35) hx hb dX5_readRule_90 (by decide) ?_
  refine lv_iload hx hb dX5_readRule_35 (lv_at hl 0 rfl) ?_
  refine lv_bipush (v := 12) hx hb dX5_readRule_37 (by decide) ?_
  refine lv_icmp_gt (tgt := 93) hx hb dX5_readRule_39 (by decide) (fun z => absurd z (by decide)) (fun _ => ?_)
  refine lv_iload_n hx hb dX5_readRule_42 rfl (lv_at hl 1 rfl) ?_
  refine lv_if_eq (tgt := 93) hx hb dX5_readRule_43 (by decide) (fun _ => ?_) (fun z => absurd (by decide) z)
  refine lv_aload_n hx hb dX5_readRule_93 rfl (lv_at hl 3 rfl) ?_
  refine va_get (D := D) (ci := 5) (v := .ref a1) (C := RX5) (T := TX5) (N := 4) hx hb hT i_X5 hown hK hP 1 rfl rfl 0 (by decide) (hT _ q_143) (fun _ h9 => h9) rfl dX5_readRule_94 ?_
  refine va_calli (va_runV (As := []) (rest := []) ⟨hx, hb, hml, hown, hT⟩ (c_X7_isSound1 l D cs kK kV a1 b 0 0) (cwV 0 hT (hz_gV q_156 q_131 q_132 q_96 q_133) rfl rfl rfl (by decide +kernel) ⟨(Nat.le_of_ble_eq_true rfl), (Nat.le_of_ble_eq_true rfl)⟩) ⟨hz_P.blind, va_recv hK hP (ci := 7) (q0 := 2) rfl rfl, hz_P.mk (hP.sub (ws' := [(a1, .inr (7, [.ref b, .int 0, .int 0, .int 1]))]) [2] rfl) hE hS⟩ rfl rfl hl.1 rfl (lv_room (Nat.le_of_ble_eq_true rfl)) dX5_readRule_97 ⟨(Nat.le_of_ble_eq_true rfl), (Nat.le_of_ble_eq_true rfl)⟩) hS (fun _ _ h => h.elim) (fun _ h => h.elim) (fun r_8 u t H1 locs ht hvm hw hB hz1 hk1 hS => ?_)
  have hP := hz_keep hP hk1
  clear hk1 hB hz1
  generalize H1 = H at hP hS ⊢
  subst hw
  refine lv_if_eq (tgt := 118) hx hb dX5_readRule_100 (by decide) (fun _ => ?_) (fun z => absurd (by decide) z)
  refine lv_aload_n hx hb dX5_readRule_118 rfl (lv_at hl 2 rfl) ?_
  exact W.aret (v := .ref n_1) hx hb hr (Or.inl ⟨_, rfl⟩) (Or.inr ⟨_, rfl⟩) (fun t ht hW => ⟨⟨(), n_1, rfl, trivial, by rw [ht]; exact hP.sub [2] rfl, hD.sub [2] (by decide) rfl⟩, hS.F ht⟩) hS.2.2 dX5_readRule_119
theorem dX6_atStalls_0 : decode cX6_atStalls 0 = .ok (.iconst 0, 1) := by decide +kernel
theorem dX6_atStalls_1 : decode cX6_atStalls 1 = .ok (.istore_n 1, 1) := by decide +kernel
theorem dX6_atStalls_2 : decode cX6_atStalls 2 = .ok (.iconst 0, 1) := by decide +kernel
theorem dX6_atStalls_3 : decode cX6_atStalls 3 = .ok (.istore_n 2, 1) := by decide +kernel
theorem dX6_atStalls_4 : decode cX6_atStalls 4 = .ok (.iload_n 2, 1) := by decide +kernel
theorem dX6_atStalls_5 : decode cX6_atStalls 5 = .ok (.bipush 8, 2) := by decide +kernel
theorem dX6_atStalls_7 : decode cX6_atStalls 7 = .ok (.if_icmp .ge 18, 3) := by decide +kernel
theorem dX6_atStalls_10 : decode cX6_atStalls 10 = .ok (.iload_n 1, 1) := by decide +kernel
theorem dX6_atStalls_11 : decode cX6_atStalls 11 = .ok (.aload_n 0, 1) := by decide +kernel
theorem dX6_atStalls_12 : decode cX6_atStalls 12 = .ok (.getfield 24, 3) := by decide +kernel
theorem dX6_atStalls_15 : decode cX6_atStalls 15 = .ok (.iload_n 2, 1) := by decide +kernel
theorem dX6_atStalls_16 : decode cX6_atStalls 16 = .ok (.iaload, 1) := by decide +kernel
theorem dX6_atStalls_17 : decode cX6_atStalls 17 = .ok (.ior, 1) := by decide +kernel
theorem dX6_atStalls_18 : decode cX6_atStalls 18 = .ok (.istore_n 1, 1) := by decide +kernel
theorem dX6_atStalls_19 : decode cX6_atStalls 19 = .ok (.iinc 2 1, 3) := by decide +kernel
theorem dX6_atStalls_22 : decode cX6_atStalls 22 = .ok (.goto (-18), 3) := by decide +kernel
theorem dX6_atStalls_25 : decode cX6_atStalls 25 = .ok (.iload_n 1, 1) := by decide +kernel
theorem dX6_atStalls_26 : decode cX6_atStalls 26 = .ok (.ireturn, 1) := by decide +kernel
set_option maxHeartbeats 4000000 in
set_option maxRecDepth 100000 in
theorem c_X6_atStalls (l : Launch) (D : va_G) (cs : Nat → ClassId) (kK kV : Nat → Nat) (a : Nat) (q : Nat → Nat) : Met l yX6_atStalls (hz_w yX6_atStalls cX6_atStalls 3 (some .int)) ({ frames := 0, cells := 0, slots := 0, locals := 0 }) (va_Pc [.ref a] (hz_P D cs kK kV [(a, .inr (6, [.int 0, .ref (q 0), .ref (q 1), .ref (q 2), .ref (q 3), .ref (q 4)])), (q 4, .inl (cs 0, 8, .inl (fun _ => 0)))])) (va_Qi (fun (r : Int32) (_ : Unit) => r = 0) (fun _ t => True) (fun _ => False)) 0 0 (fun _ => False) := by
  refine Met.ofW (cc := cX6_atStalls) (maxL := 3) (ret := (some .int)) (by decide) rfl ?_
  intro p e s m args below meth c s₁ B hml hv
  obtain ⟨rfl, hP, hE⟩ := hv
  have hx := B.exec
  have hb := B.bytes
  have hr := B.returns
  have hT : ∀ w ∈ TB, w.before _ s = true := fun w h => atoms_spec (ws := hz_w yX6_atStalls cX6_atStalls 3 (some .int)) B.pre w (List.mem_cons_of_mem _ h)
  have hown : s.vm.findClass RX6 = some m.cls := findClass_of_methodNamed B.named
  have hlocks := B.notSynchronized
  clear B
  have hS : va_S (fun _ => False) s.heap s.heap [] := va_S.rf
  have hP : va_P D classes [(a, .inr (6, [.int 0, .ref (q 0), .ref (q 1), .ref (q 2), .ref (q 3), .ref (q 4)])), (q 4, .inl (cs 0, 8, .inl (fun _ => 0)))] s.heap := hP
  have hK := hE.1
  have hl := lv_entry ([.ref a]) (n := 3) (Nat.le_of_ble_eq_true rfl)
  rw [lg_entry_eq]
  generalize (lg_sl ([.ref a]) ++ List.replicate (3 - (lg_sl ([.ref a])).length) Slot.unset).toArray = ls at hl ⊢
  have hl : lv_has ls 3 [(0, .ref a)] := hl
  obtain ⟨H, eH⟩ : ∃ z, z = s.heap := ⟨_, rfl⟩
  have hP : va_P D classes [(a, .inr (6, [.int 0, .ref (q 0), .ref (q 1), .ref (q 2), .ref (q 3), .ref (q 4)])), (q 4, .inl (cs 0, 8, .inl (fun _ => 0)))] H := by rw [eH]; exact hP
  have hS : va_S (fun _ => False) s.heap H [] := by rw [eH]; exact hS
  rw [← eH]
  clear eH
  refine lv_iconst (v := 0) hx hb dX6_atStalls_0 (by decide) ?_
  refine lv_istore_n (lv' := [(1, .int 0), (0, .ref a)]) hx hb dX6_atStalls_1 rfl hl (by decide) rfl (fun ls hl => ?_)
  refine lv_iconst (v := 0) hx hb dX6_atStalls_2 (by decide) ?_
  refine lv_istore_n (lv' := [(2, .int 0), (1, .int 0), (0, .ref a)]) hx hb dX6_atStalls_3 rfl hl (by decide) rfl (fun ls hl => ?_)
  refine lv_iload_n hx hb dX6_atStalls_4 rfl (lv_at hl 0 rfl) ?_
  refine lv_bipush (v := 8) hx hb dX6_atStalls_5 (by decide) ?_
  refine lv_icmp_ge (tgt := 25) hx hb dX6_atStalls_7 (by decide) (fun z => absurd z (by decide)) (fun _ => ?_)
  refine lv_iload_n hx hb dX6_atStalls_10 rfl (lv_at hl 1 rfl) ?_
  refine lv_aload_n hx hb dX6_atStalls_11 rfl (lv_at hl 2 rfl) ?_
  refine va_get (D := D) (ci := 6) (v := .ref (q 4)) (C := RX6) (T := TX6) (N := 6) hx hb hT i_X6 hown hK hP 0 rfl rfl 5 (by decide) (hT _ q_26) (fun _ h9 => h9) rfl dX6_atStalls_12 ?_
  refine lv_iload_n hx hb dX6_atStalls_15 rfl (lv_at hl 0 rfl) ?_
  refine va_iald hx hb hK hP 1 0 rfl rfl (by unfold vp_in; decide) dX6_atStalls_16 ?_
  refine hz_ev 0 rfl ?_
  refine lv_ior hx hb dX6_atStalls_17 ?_
  refine hz_ev 0 (by decide) ?_
  refine lv_istore_n (lv' := [(1, .int 0), (2, .int 0), (0, .ref a)]) hx hb dX6_atStalls_18 rfl hl (by decide) rfl (fun ls hl => ?_)
  refine lv_iinc (v := 1) (lv' := [(2, .int 1), (1, .int 0), (0, .ref a)]) hx hb dX6_atStalls_19 hl (k := 1) rfl (by decide) (by decide) rfl (fun ls hl => ?_)
  refine lv_goto (tgt := 4) hx hb dX6_atStalls_22 (by decide) ?_
  refine lv_iload_n hx hb dX6_atStalls_4 rfl (lv_at hl 0 rfl) ?_
  refine lv_bipush (v := 8) hx hb dX6_atStalls_5 (by decide) ?_
  refine lv_icmp_ge (tgt := 25) hx hb dX6_atStalls_7 (by decide) (fun z => absurd z (by decide)) (fun _ => ?_)
  refine lv_iload_n hx hb dX6_atStalls_10 rfl (lv_at hl 1 rfl) ?_
  refine lv_aload_n hx hb dX6_atStalls_11 rfl (lv_at hl 2 rfl) ?_
  refine va_get (D := D) (ci := 6) (v := .ref (q 4)) (C := RX6) (T := TX6) (N := 6) hx hb hT i_X6 hown hK hP 0 rfl rfl 5 (by decide) (hT _ q_26) (fun _ h9 => h9) rfl dX6_atStalls_12 ?_
  refine lv_iload_n hx hb dX6_atStalls_15 rfl (lv_at hl 0 rfl) ?_
  refine va_iald hx hb hK hP 1 0 rfl rfl (by unfold vp_in; decide) dX6_atStalls_16 ?_
  refine hz_ev 0 rfl ?_
  refine lv_ior hx hb dX6_atStalls_17 ?_
  refine hz_ev 0 (by decide) ?_
  refine lv_istore_n (lv' := [(1, .int 0), (2, .int 1), (0, .ref a)]) hx hb dX6_atStalls_18 rfl hl (by decide) rfl (fun ls hl => ?_)
  refine lv_iinc (v := 2) (lv' := [(2, .int 2), (1, .int 0), (0, .ref a)]) hx hb dX6_atStalls_19 hl (k := 1) rfl (by decide) (by decide) rfl (fun ls hl => ?_)
  refine lv_goto (tgt := 4) hx hb dX6_atStalls_22 (by decide) ?_
  refine lv_iload_n hx hb dX6_atStalls_4 rfl (lv_at hl 0 rfl) ?_
  refine lv_bipush (v := 8) hx hb dX6_atStalls_5 (by decide) ?_
  refine lv_icmp_ge (tgt := 25) hx hb dX6_atStalls_7 (by decide) (fun z => absurd z (by decide)) (fun _ => ?_)
  refine lv_iload_n hx hb dX6_atStalls_10 rfl (lv_at hl 1 rfl) ?_
  refine lv_aload_n hx hb dX6_atStalls_11 rfl (lv_at hl 2 rfl) ?_
  refine va_get (D := D) (ci := 6) (v := .ref (q 4)) (C := RX6) (T := TX6) (N := 6) hx hb hT i_X6 hown hK hP 0 rfl rfl 5 (by decide) (hT _ q_26) (fun _ h9 => h9) rfl dX6_atStalls_12 ?_
  refine lv_iload_n hx hb dX6_atStalls_15 rfl (lv_at hl 0 rfl) ?_
  refine va_iald hx hb hK hP 1 0 rfl rfl (by unfold vp_in; decide) dX6_atStalls_16 ?_
  refine hz_ev 0 rfl ?_
  refine lv_ior hx hb dX6_atStalls_17 ?_
  refine hz_ev 0 (by decide) ?_
  refine lv_istore_n (lv' := [(1, .int 0), (2, .int 2), (0, .ref a)]) hx hb dX6_atStalls_18 rfl hl (by decide) rfl (fun ls hl => ?_)
  refine lv_iinc (v := 3) (lv' := [(2, .int 3), (1, .int 0), (0, .ref a)]) hx hb dX6_atStalls_19 hl (k := 1) rfl (by decide) (by decide) rfl (fun ls hl => ?_)
  refine lv_goto (tgt := 4) hx hb dX6_atStalls_22 (by decide) ?_
  refine lv_iload_n hx hb dX6_atStalls_4 rfl (lv_at hl 0 rfl) ?_
  refine lv_bipush (v := 8) hx hb dX6_atStalls_5 (by decide) ?_
  refine lv_icmp_ge (tgt := 25) hx hb dX6_atStalls_7 (by decide) (fun z => absurd z (by decide)) (fun _ => ?_)
  refine lv_iload_n hx hb dX6_atStalls_10 rfl (lv_at hl 1 rfl) ?_
  refine lv_aload_n hx hb dX6_atStalls_11 rfl (lv_at hl 2 rfl) ?_
  refine va_get (D := D) (ci := 6) (v := .ref (q 4)) (C := RX6) (T := TX6) (N := 6) hx hb hT i_X6 hown hK hP 0 rfl rfl 5 (by decide) (hT _ q_26) (fun _ h9 => h9) rfl dX6_atStalls_12 ?_
  refine lv_iload_n hx hb dX6_atStalls_15 rfl (lv_at hl 0 rfl) ?_
  refine va_iald hx hb hK hP 1 0 rfl rfl (by unfold vp_in; decide) dX6_atStalls_16 ?_
  refine hz_ev 0 rfl ?_
  refine lv_ior hx hb dX6_atStalls_17 ?_
  refine hz_ev 0 (by decide) ?_
  refine lv_istore_n (lv' := [(1, .int 0), (2, .int 3), (0, .ref a)]) hx hb dX6_atStalls_18 rfl hl (by decide) rfl (fun ls hl => ?_)
  refine lv_iinc (v := 4) (lv' := [(2, .int 4), (1, .int 0), (0, .ref a)]) hx hb dX6_atStalls_19 hl (k := 1) rfl (by decide) (by decide) rfl (fun ls hl => ?_)
  refine lv_goto (tgt := 4) hx hb dX6_atStalls_22 (by decide) ?_
  refine lv_iload_n hx hb dX6_atStalls_4 rfl (lv_at hl 0 rfl) ?_
  refine lv_bipush (v := 8) hx hb dX6_atStalls_5 (by decide) ?_
  refine lv_icmp_ge (tgt := 25) hx hb dX6_atStalls_7 (by decide) (fun z => absurd z (by decide)) (fun _ => ?_)
  refine lv_iload_n hx hb dX6_atStalls_10 rfl (lv_at hl 1 rfl) ?_
  refine lv_aload_n hx hb dX6_atStalls_11 rfl (lv_at hl 2 rfl) ?_
  refine va_get (D := D) (ci := 6) (v := .ref (q 4)) (C := RX6) (T := TX6) (N := 6) hx hb hT i_X6 hown hK hP 0 rfl rfl 5 (by decide) (hT _ q_26) (fun _ h9 => h9) rfl dX6_atStalls_12 ?_
  refine lv_iload_n hx hb dX6_atStalls_15 rfl (lv_at hl 0 rfl) ?_
  refine va_iald hx hb hK hP 1 0 rfl rfl (by unfold vp_in; decide) dX6_atStalls_16 ?_
  refine hz_ev 0 rfl ?_
  refine lv_ior hx hb dX6_atStalls_17 ?_
  refine hz_ev 0 (by decide) ?_
  refine lv_istore_n (lv' := [(1, .int 0), (2, .int 4), (0, .ref a)]) hx hb dX6_atStalls_18 rfl hl (by decide) rfl (fun ls hl => ?_)
  refine lv_iinc (v := 5) (lv' := [(2, .int 5), (1, .int 0), (0, .ref a)]) hx hb dX6_atStalls_19 hl (k := 1) rfl (by decide) (by decide) rfl (fun ls hl => ?_)
  refine lv_goto (tgt := 4) hx hb dX6_atStalls_22 (by decide) ?_
  refine lv_iload_n hx hb dX6_atStalls_4 rfl (lv_at hl 0 rfl) ?_
  refine lv_bipush (v := 8) hx hb dX6_atStalls_5 (by decide) ?_
  refine lv_icmp_ge (tgt := 25) hx hb dX6_atStalls_7 (by decide) (fun z => absurd z (by decide)) (fun _ => ?_)
  refine lv_iload_n hx hb dX6_atStalls_10 rfl (lv_at hl 1 rfl) ?_
  refine lv_aload_n hx hb dX6_atStalls_11 rfl (lv_at hl 2 rfl) ?_
  refine va_get (D := D) (ci := 6) (v := .ref (q 4)) (C := RX6) (T := TX6) (N := 6) hx hb hT i_X6 hown hK hP 0 rfl rfl 5 (by decide) (hT _ q_26) (fun _ h9 => h9) rfl dX6_atStalls_12 ?_
  refine lv_iload_n hx hb dX6_atStalls_15 rfl (lv_at hl 0 rfl) ?_
  refine va_iald hx hb hK hP 1 0 rfl rfl (by unfold vp_in; decide) dX6_atStalls_16 ?_
  refine hz_ev 0 rfl ?_
  refine lv_ior hx hb dX6_atStalls_17 ?_
  refine hz_ev 0 (by decide) ?_
  refine lv_istore_n (lv' := [(1, .int 0), (2, .int 5), (0, .ref a)]) hx hb dX6_atStalls_18 rfl hl (by decide) rfl (fun ls hl => ?_)
  refine lv_iinc (v := 6) (lv' := [(2, .int 6), (1, .int 0), (0, .ref a)]) hx hb dX6_atStalls_19 hl (k := 1) rfl (by decide) (by decide) rfl (fun ls hl => ?_)
  refine lv_goto (tgt := 4) hx hb dX6_atStalls_22 (by decide) ?_
  refine lv_iload_n hx hb dX6_atStalls_4 rfl (lv_at hl 0 rfl) ?_
  refine lv_bipush (v := 8) hx hb dX6_atStalls_5 (by decide) ?_
  refine lv_icmp_ge (tgt := 25) hx hb dX6_atStalls_7 (by decide) (fun z => absurd z (by decide)) (fun _ => ?_)
  refine lv_iload_n hx hb dX6_atStalls_10 rfl (lv_at hl 1 rfl) ?_
  refine lv_aload_n hx hb dX6_atStalls_11 rfl (lv_at hl 2 rfl) ?_
  refine va_get (D := D) (ci := 6) (v := .ref (q 4)) (C := RX6) (T := TX6) (N := 6) hx hb hT i_X6 hown hK hP 0 rfl rfl 5 (by decide) (hT _ q_26) (fun _ h9 => h9) rfl dX6_atStalls_12 ?_
  refine lv_iload_n hx hb dX6_atStalls_15 rfl (lv_at hl 0 rfl) ?_
  refine va_iald hx hb hK hP 1 0 rfl rfl (by unfold vp_in; decide) dX6_atStalls_16 ?_
  refine hz_ev 0 rfl ?_
  refine lv_ior hx hb dX6_atStalls_17 ?_
  refine hz_ev 0 (by decide) ?_
  refine lv_istore_n (lv' := [(1, .int 0), (2, .int 6), (0, .ref a)]) hx hb dX6_atStalls_18 rfl hl (by decide) rfl (fun ls hl => ?_)
  refine lv_iinc (v := 7) (lv' := [(2, .int 7), (1, .int 0), (0, .ref a)]) hx hb dX6_atStalls_19 hl (k := 1) rfl (by decide) (by decide) rfl (fun ls hl => ?_)
  refine lv_goto (tgt := 4) hx hb dX6_atStalls_22 (by decide) ?_
  refine lv_iload_n hx hb dX6_atStalls_4 rfl (lv_at hl 0 rfl) ?_
  refine lv_bipush (v := 8) hx hb dX6_atStalls_5 (by decide) ?_
  refine lv_icmp_ge (tgt := 25) hx hb dX6_atStalls_7 (by decide) (fun z => absurd z (by decide)) (fun _ => ?_)
  refine lv_iload_n hx hb dX6_atStalls_10 rfl (lv_at hl 1 rfl) ?_
  refine lv_aload_n hx hb dX6_atStalls_11 rfl (lv_at hl 2 rfl) ?_
  refine va_get (D := D) (ci := 6) (v := .ref (q 4)) (C := RX6) (T := TX6) (N := 6) hx hb hT i_X6 hown hK hP 0 rfl rfl 5 (by decide) (hT _ q_26) (fun _ h9 => h9) rfl dX6_atStalls_12 ?_
  refine lv_iload_n hx hb dX6_atStalls_15 rfl (lv_at hl 0 rfl) ?_
  refine va_iald hx hb hK hP 1 0 rfl rfl (by unfold vp_in; decide) dX6_atStalls_16 ?_
  refine hz_ev 0 rfl ?_
  refine lv_ior hx hb dX6_atStalls_17 ?_
  refine hz_ev 0 (by decide) ?_
  refine lv_istore_n (lv' := [(1, .int 0), (2, .int 7), (0, .ref a)]) hx hb dX6_atStalls_18 rfl hl (by decide) rfl (fun ls hl => ?_)
  refine lv_iinc (v := 8) (lv' := [(2, .int 8), (1, .int 0), (0, .ref a)]) hx hb dX6_atStalls_19 hl (k := 1) rfl (by decide) (by decide) rfl (fun ls hl => ?_)
  refine lv_goto (tgt := 4) hx hb dX6_atStalls_22 (by decide) ?_
  refine lv_iload_n hx hb dX6_atStalls_4 rfl (lv_at hl 0 rfl) ?_
  refine lv_bipush (v := 8) hx hb dX6_atStalls_5 (by decide) ?_
  refine lv_icmp_ge (tgt := 25) hx hb dX6_atStalls_7 (by decide) (fun _ => ?_) (fun z => absurd (by decide) z)
  refine lv_iload_n hx hb dX6_atStalls_25 rfl (lv_at hl 1 rfl) ?_
  exact W.iret (v := 0) hx hb hr (fun t ht hW => ⟨⟨0, (), rfl, rfl, trivial⟩, hS.F ht⟩) hS.2.2 dX6_atStalls_26
theorem dX6_copyFrom_0 : decode cX6_copyFrom 0 = .ok (.aload_n 0, 1) := by decide +kernel
theorem dX6_copyFrom_1 : decode cX6_copyFrom 1 = .ok (.aload_n 1, 1) := by decide +kernel
theorem dX6_copyFrom_2 : decode cX6_copyFrom 2 = .ok (.getfield 27, 3) := by decide +kernel
theorem dX6_copyFrom_5 : decode cX6_copyFrom 5 = .ok (.putfield 27, 3) := by decide +kernel
theorem dX6_copyFrom_8 : decode cX6_copyFrom 8 = .ok (.aload_n 1, 1) := by decide +kernel
theorem dX6_copyFrom_9 : decode cX6_copyFrom 9 = .ok (.getfield 9, 3) := by decide +kernel
theorem dX6_copyFrom_12 : decode cX6_copyFrom 12 = .ok (.iconst 0, 1) := by decide +kernel
theorem dX6_copyFrom_13 : decode cX6_copyFrom 13 = .ok (.aload_n 0, 1) := by decide +kernel
theorem dX6_copyFrom_14 : decode cX6_copyFrom 14 = .ok (.getfield 9, 3) := by decide +kernel
theorem dX6_copyFrom_17 : decode cX6_copyFrom 17 = .ok (.iconst 0, 1) := by decide +kernel
theorem dX6_copyFrom_18 : decode cX6_copyFrom 18 = .ok (.iconst 4, 1) := by decide +kernel
theorem dX6_copyFrom_19 : decode cX6_copyFrom 19 = .ok (.invokestatic 31, 3) := by decide +kernel
theorem dX6_copyFrom_22 : decode cX6_copyFrom 22 = .ok (.aload_n 1, 1) := by decide +kernel
theorem dX6_copyFrom_23 : decode cX6_copyFrom 23 = .ok (.getfield 15, 3) := by decide +kernel
theorem dX6_copyFrom_26 : decode cX6_copyFrom 26 = .ok (.iconst 0, 1) := by decide +kernel
theorem dX6_copyFrom_27 : decode cX6_copyFrom 27 = .ok (.aload_n 0, 1) := by decide +kernel
theorem dX6_copyFrom_28 : decode cX6_copyFrom 28 = .ok (.getfield 15, 3) := by decide +kernel
theorem dX6_copyFrom_31 : decode cX6_copyFrom 31 = .ok (.iconst 0, 1) := by decide +kernel
theorem dX6_copyFrom_32 : decode cX6_copyFrom 32 = .ok (.iconst 4, 1) := by decide +kernel
theorem dX6_copyFrom_33 : decode cX6_copyFrom 33 = .ok (.invokestatic 31, 3) := by decide +kernel
theorem dX6_copyFrom_36 : decode cX6_copyFrom 36 = .ok (.aload_n 1, 1) := by decide +kernel
theorem dX6_copyFrom_37 : decode cX6_copyFrom 37 = .ok (.getfield 18, 3) := by decide +kernel
theorem dX6_copyFrom_40 : decode cX6_copyFrom 40 = .ok (.iconst 0, 1) := by decide +kernel
theorem dX6_copyFrom_41 : decode cX6_copyFrom 41 = .ok (.aload_n 0, 1) := by decide +kernel
theorem dX6_copyFrom_42 : decode cX6_copyFrom 42 = .ok (.getfield 18, 3) := by decide +kernel
theorem dX6_copyFrom_45 : decode cX6_copyFrom 45 = .ok (.iconst 0, 1) := by decide +kernel
theorem dX6_copyFrom_46 : decode cX6_copyFrom 46 = .ok (.iconst 4, 1) := by decide +kernel
theorem dX6_copyFrom_47 : decode cX6_copyFrom 47 = .ok (.invokestatic 31, 3) := by decide +kernel
theorem dX6_copyFrom_50 : decode cX6_copyFrom 50 = .ok (.aload_n 1, 1) := by decide +kernel
theorem dX6_copyFrom_51 : decode cX6_copyFrom 51 = .ok (.getfield 21, 3) := by decide +kernel
theorem dX6_copyFrom_54 : decode cX6_copyFrom 54 = .ok (.iconst 0, 1) := by decide +kernel
theorem dX6_copyFrom_55 : decode cX6_copyFrom 55 = .ok (.aload_n 0, 1) := by decide +kernel
theorem dX6_copyFrom_56 : decode cX6_copyFrom 56 = .ok (.getfield 21, 3) := by decide +kernel
theorem dX6_copyFrom_59 : decode cX6_copyFrom 59 = .ok (.iconst 0, 1) := by decide +kernel
theorem dX6_copyFrom_60 : decode cX6_copyFrom 60 = .ok (.iconst 4, 1) := by decide +kernel
theorem dX6_copyFrom_61 : decode cX6_copyFrom 61 = .ok (.invokestatic 31, 3) := by decide +kernel
theorem dX6_copyFrom_64 : decode cX6_copyFrom 64 = .ok (.aload_n 1, 1) := by decide +kernel
theorem dX6_copyFrom_65 : decode cX6_copyFrom 65 = .ok (.getfield 24, 3) := by decide +kernel
theorem dX6_copyFrom_68 : decode cX6_copyFrom 68 = .ok (.iconst 0, 1) := by decide +kernel
theorem dX6_copyFrom_69 : decode cX6_copyFrom 69 = .ok (.aload_n 0, 1) := by decide +kernel
theorem dX6_copyFrom_70 : decode cX6_copyFrom 70 = .ok (.getfield 24, 3) := by decide +kernel
theorem dX6_copyFrom_73 : decode cX6_copyFrom 73 = .ok (.iconst 0, 1) := by decide +kernel
theorem dX6_copyFrom_74 : decode cX6_copyFrom 74 = .ok (.bipush 8, 2) := by decide +kernel
theorem dX6_copyFrom_76 : decode cX6_copyFrom 76 = .ok (.invokestatic 31, 3) := by decide +kernel
theorem dX6_copyFrom_79 : decode cX6_copyFrom 79 = .ok (.return_, 1) := by decide +kernel
set_option maxHeartbeats 4000000 in
set_option maxRecDepth 100000 in
theorem c_X6_copyFrom (l : Launch) (D : va_G) (cs : Nat → ClassId) (kK kV : Nat → Nat) (a : Nat) (b : Nat) (q : Nat → Nat) (z : Nat → Nat) (sz : Nat) : Met l yX6_copyFrom (hz_w yX6_copyFrom cX6_copyFrom 2 none) ({ frames := 1, cells := 0, slots := 0, locals := 200 }) (va_Pc [.ref a, .ref b] (hz_C D cs kK kV sz [(a, .inr (6, [.int 0, .ref (q 0), .ref (q 1), .ref (q 2), .ref (q 3), .ref (q 4)])), (b, .inr (6, [.int 0, .ref (z 0), .ref (z 1), .ref (z 2), .ref (z 3), .ref (z 4)])), (q 0, .inl (cs 0, 4, .inl (fun _ => 0))), (q 1, .inl (cs 0, 4, .inl (fun _ => 0))), (q 2, .inl (cs 0, 4, .inl (fun _ => 0))), (q 3, .inl (cs 0, 4, .inl (fun _ => 0))), (q 4, .inl (cs 0, 8, .inl (fun _ => 0))), (z 0, .inl (cs 0, 4, .inl (fun _ => 0))), (z 1, .inl (cs 0, 4, .inl (fun _ => 0))), (z 2, .inl (cs 0, 4, .inl (fun _ => 0))), (z 3, .inl (cs 0, 4, .inl (fun _ => 0))), (z 4, .inl (cs 0, 8, .inl (fun _ => 0)))])) (va_Qv (fun (_ : Unit) => True) (fun _ t => va_P D classes [(b, .inr (6, [.int 0, .ref (z 0), .ref (z 1), .ref (z 2), .ref (z 3), .ref (z 4)]))] t.heap ∧ va_D (va_A [(a, .inr (6, [.int 0, .ref (q 0), .ref (q 1), .ref (q 2), .ref (q 3), .ref (q 4)])), (b, .inr (6, [.int 0, .ref (z 0), .ref (z 1), .ref (z 2), .ref (z 3), .ref (z 4)])), (q 0, .inl (cs 0, 4, .inl (fun _ => 0))), (q 1, .inl (cs 0, 4, .inl (fun _ => 0))), (q 2, .inl (cs 0, 4, .inl (fun _ => 0))), (q 3, .inl (cs 0, 4, .inl (fun _ => 0))), (q 4, .inl (cs 0, 8, .inl (fun _ => 0))), (z 0, .inl (cs 0, 4, .inl (fun _ => 0))), (z 1, .inl (cs 0, 4, .inl (fun _ => 0))), (z 2, .inl (cs 0, 4, .inl (fun _ => 0))), (z 3, .inl (cs 0, 4, .inl (fun _ => 0))), (z 4, .inl (cs 0, 8, .inl (fun _ => 0)))] sz) [(b, .inr (6, [.int 0, .ref (z 0), .ref (z 1), .ref (z 2), .ref (z 3), .ref (z 4)]))]) (va_A [(a, .inr (6, [.int 0, .ref (q 0), .ref (q 1), .ref (q 2), .ref (q 3), .ref (q 4)])), (b, .inr (6, [.int 0, .ref (z 0), .ref (z 1), .ref (z 2), .ref (z 3), .ref (z 4)])), (q 0, .inl (cs 0, 4, .inl (fun _ => 0))), (q 1, .inl (cs 0, 4, .inl (fun _ => 0))), (q 2, .inl (cs 0, 4, .inl (fun _ => 0))), (q 3, .inl (cs 0, 4, .inl (fun _ => 0))), (q 4, .inl (cs 0, 8, .inl (fun _ => 0))), (z 0, .inl (cs 0, 4, .inl (fun _ => 0))), (z 1, .inl (cs 0, 4, .inl (fun _ => 0))), (z 2, .inl (cs 0, 4, .inl (fun _ => 0))), (z 3, .inl (cs 0, 4, .inl (fun _ => 0))), (z 4, .inl (cs 0, 8, .inl (fun _ => 0)))] sz)) 0 0 (va_A [(a, .inr (6, [.int 0, .ref (q 0), .ref (q 1), .ref (q 2), .ref (q 3), .ref (q 4)])), (b, .inr (6, [.int 0, .ref (z 0), .ref (z 1), .ref (z 2), .ref (z 3), .ref (z 4)])), (q 0, .inl (cs 0, 4, .inl (fun _ => 0))), (q 1, .inl (cs 0, 4, .inl (fun _ => 0))), (q 2, .inl (cs 0, 4, .inl (fun _ => 0))), (q 3, .inl (cs 0, 4, .inl (fun _ => 0))), (q 4, .inl (cs 0, 8, .inl (fun _ => 0))), (z 0, .inl (cs 0, 4, .inl (fun _ => 0))), (z 1, .inl (cs 0, 4, .inl (fun _ => 0))), (z 2, .inl (cs 0, 4, .inl (fun _ => 0))), (z 3, .inl (cs 0, 4, .inl (fun _ => 0))), (z 4, .inl (cs 0, 8, .inl (fun _ => 0)))] sz) := by
  refine Met.ofW (cc := cX6_copyFrom) (maxL := 2) (ret := none) (by decide) rfl ?_
  intro p e s m args below meth c s₁ B hml hv
  obtain ⟨rfl, hsz, hP, hD0, hE⟩ := hv
  have hx := B.exec
  have hb := B.bytes
  have hr := B.returns
  have hT : ∀ w ∈ TB, w.before _ s = true := fun w h => atoms_spec (ws := hz_w yX6_copyFrom cX6_copyFrom 2 none) B.pre w (List.mem_cons_of_mem _ h)
  have hown : s.vm.findClass RX6 = some m.cls := findClass_of_methodNamed B.named
  have hlocks := B.notSynchronized
  clear B
  subst hsz
  have hD := hD0.self (sz := s.heap.size)
  generalize hAe : va_A [(a, .inr (6, [.int 0, .ref (q 0), .ref (q 1), .ref (q 2), .ref (q 3), .ref (q 4)])), (b, .inr (6, [.int 0, .ref (z 0), .ref (z 1), .ref (z 2), .ref (z 3), .ref (z 4)])), (q 0, .inl (cs 0, 4, .inl (fun _ => 0))), (q 1, .inl (cs 0, 4, .inl (fun _ => 0))), (q 2, .inl (cs 0, 4, .inl (fun _ => 0))), (q 3, .inl (cs 0, 4, .inl (fun _ => 0))), (q 4, .inl (cs 0, 8, .inl (fun _ => 0))), (z 0, .inl (cs 0, 4, .inl (fun _ => 0))), (z 1, .inl (cs 0, 4, .inl (fun _ => 0))), (z 2, .inl (cs 0, 4, .inl (fun _ => 0))), (z 3, .inl (cs 0, 4, .inl (fun _ => 0))), (z 4, .inl (cs 0, 8, .inl (fun _ => 0)))] s.heap.size = A at hD hE ⊢
  have hA : ∀ q : Nat, s.heap.size ≤ q → A q := fun q h => by rw [← hAe]; exact Or.inr h
  clear hAe hD0
  have hS : va_S A s.heap s.heap [] := va_S.rf
  have hK := hE.1
  have hl := lv_entry ([.ref a, .ref b]) (n := 2) (Nat.le_of_ble_eq_true rfl)
  rw [lg_entry_eq]
  generalize (lg_sl ([.ref a, .ref b]) ++ List.replicate (2 - (lg_sl ([.ref a, .ref b])).length) Slot.unset).toArray = ls at hl ⊢
  have hl : lv_has ls 2 [(0, .ref a), (1, .ref b)] := hl
  obtain ⟨H, eH⟩ : ∃ z, z = s.heap := ⟨_, rfl⟩
  have hP : va_P D classes [(a, .inr (6, [.int 0, .ref (q 0), .ref (q 1), .ref (q 2), .ref (q 3), .ref (q 4)])), (b, .inr (6, [.int 0, .ref (z 0), .ref (z 1), .ref (z 2), .ref (z 3), .ref (z 4)])), (q 0, .inl (cs 0, 4, .inl (fun _ => 0))), (q 1, .inl (cs 0, 4, .inl (fun _ => 0))), (q 2, .inl (cs 0, 4, .inl (fun _ => 0))), (q 3, .inl (cs 0, 4, .inl (fun _ => 0))), (q 4, .inl (cs 0, 8, .inl (fun _ => 0))), (z 0, .inl (cs 0, 4, .inl (fun _ => 0))), (z 1, .inl (cs 0, 4, .inl (fun _ => 0))), (z 2, .inl (cs 0, 4, .inl (fun _ => 0))), (z 3, .inl (cs 0, 4, .inl (fun _ => 0))), (z 4, .inl (cs 0, 8, .inl (fun _ => 0)))] H := by rw [eH]; exact hP
  have hS : va_S A s.heap H [] := by rw [eH]; exact hS
  rw [← eH]
  clear eH
  refine lv_aload_n hx hb dX6_copyFrom_0 rfl (lv_at hl 0 rfl) ?_
  refine lv_aload_n hx hb dX6_copyFrom_1 rfl (lv_at hl 1 rfl) ?_
  refine va_get (D := D) (ci := 6) (v := .int 0) (C := RX6) (T := TX6) (N := 6) hx hb hT i_X6 hown hK hP 1 rfl rfl 0 (by decide) (hT _ q_162) (fun _ h9 => h9) rfl dX6_copyFrom_2 ?_
  refine va_put (D := D) (ci := 6) (v := .int 0) (ty := .int) (C := RX6) (T := TX6) (N := 6) hx hb hT i_X6 tyX6 tyX6_ok nmX6 hown hK hP hD hS 0 rfl rfl 0 (by decide) (hT _ q_162) (fun _ h9 => h9) rfl (by decide +kernel) rfl rfl (Nat.le_of_ble_eq_true rfl) dX6_copyFrom_5 (fun H locs hP hD hS => ?_)
  have hP : va_P D classes [(a, .inr (6, [.int 0, .ref (q 0), .ref (q 1), .ref (q 2), .ref (q 3), .ref (q 4)])), (b, .inr (6, [.int 0, .ref (z 0), .ref (z 1), .ref (z 2), .ref (z 3), .ref (z 4)])), (q 0, .inl (cs 0, 4, .inl (fun _ => 0))), (q 1, .inl (cs 0, 4, .inl (fun _ => 0))), (q 2, .inl (cs 0, 4, .inl (fun _ => 0))), (q 3, .inl (cs 0, 4, .inl (fun _ => 0))), (q 4, .inl (cs 0, 8, .inl (fun _ => 0))), (z 0, .inl (cs 0, 4, .inl (fun _ => 0))), (z 1, .inl (cs 0, 4, .inl (fun _ => 0))), (z 2, .inl (cs 0, 4, .inl (fun _ => 0))), (z 3, .inl (cs 0, 4, .inl (fun _ => 0))), (z 4, .inl (cs 0, 8, .inl (fun _ => 0)))] H := hP
  have hD : va_D A [(a, .inr (6, [.int 0, .ref (q 0), .ref (q 1), .ref (q 2), .ref (q 3), .ref (q 4)])), (b, .inr (6, [.int 0, .ref (z 0), .ref (z 1), .ref (z 2), .ref (z 3), .ref (z 4)])), (q 0, .inl (cs 0, 4, .inl (fun _ => 0))), (q 1, .inl (cs 0, 4, .inl (fun _ => 0))), (q 2, .inl (cs 0, 4, .inl (fun _ => 0))), (q 3, .inl (cs 0, 4, .inl (fun _ => 0))), (q 4, .inl (cs 0, 8, .inl (fun _ => 0))), (z 0, .inl (cs 0, 4, .inl (fun _ => 0))), (z 1, .inl (cs 0, 4, .inl (fun _ => 0))), (z 2, .inl (cs 0, 4, .inl (fun _ => 0))), (z 3, .inl (cs 0, 4, .inl (fun _ => 0))), (z 4, .inl (cs 0, 8, .inl (fun _ => 0)))] := hD
  refine lv_aload_n hx hb dX6_copyFrom_8 rfl (lv_at hl 1 rfl) ?_
  refine va_get (D := D) (ci := 6) (v := .ref (z 0)) (C := RX6) (T := TX6) (N := 6) hx hb hT i_X6 hown hK hP 1 rfl rfl 1 (by decide) (hT _ q_22) (fun _ h9 => h9) rfl dX6_copyFrom_9 ?_
  refine lv_iconst (v := 0) hx hb dX6_copyFrom_12 (by decide) ?_
  refine lv_aload_n hx hb dX6_copyFrom_13 rfl (lv_at hl 0 rfl) ?_
  refine va_get (D := D) (ci := 6) (v := .ref (q 0)) (C := RX6) (T := TX6) (N := 6) hx hb hT i_X6 hown hK hP 0 rfl rfl 1 (by decide) (hT _ q_22) (fun _ h9 => h9) rfl dX6_copyFrom_14 ?_
  refine lv_iconst (v := 0) hx hb dX6_copyFrom_17 (by decide) ?_
  refine lv_iconst (v := 4) hx hb dX6_copyFrom_18 (by decide) ?_
  refine va_copyi (ty := .int) hx hb (hml.trans hl.1.symm) hown (hT _ q_163) (hT _ q_164) (hT _ q_165) (hT _ q_166) hK hP hD hS 7 2 0 0 rfl rfl rfl rfl rfl (by decide) (by decide) (by decide) (by decide) (by decide) (fun _ _ => rfl) (Nat.le_of_ble_eq_true rfl) (Nat.le_of_ble_eq_true rfl) dX6_copyFrom_19 (fun H locs hP hD hS => ?_)
  have hP : va_P D classes [(a, .inr (6, [.int 0, .ref (q 0), .ref (q 1), .ref (q 2), .ref (q 3), .ref (q 4)])), (b, .inr (6, [.int 0, .ref (z 0), .ref (z 1), .ref (z 2), .ref (z 3), .ref (z 4)])), (q 0, .inl (cs 0, 4, .inl (va_cpy (α := Int32) (fun _ => 0) (fun _ => 0) (Int32.toNatClampNeg 0) (Int32.toNatClampNeg 0) (Int32.toNatClampNeg 4)))), (q 1, .inl (cs 0, 4, .inl (fun _ => 0))), (q 2, .inl (cs 0, 4, .inl (fun _ => 0))), (q 3, .inl (cs 0, 4, .inl (fun _ => 0))), (q 4, .inl (cs 0, 8, .inl (fun _ => 0))), (z 0, .inl (cs 0, 4, .inl (fun _ => 0))), (z 1, .inl (cs 0, 4, .inl (fun _ => 0))), (z 2, .inl (cs 0, 4, .inl (fun _ => 0))), (z 3, .inl (cs 0, 4, .inl (fun _ => 0))), (z 4, .inl (cs 0, 8, .inl (fun _ => 0)))] H := hP
  have hD : va_D A [(a, .inr (6, [.int 0, .ref (q 0), .ref (q 1), .ref (q 2), .ref (q 3), .ref (q 4)])), (b, .inr (6, [.int 0, .ref (z 0), .ref (z 1), .ref (z 2), .ref (z 3), .ref (z 4)])), (q 0, .inl (cs 0, 4, .inl (va_cpy (α := Int32) (fun _ => 0) (fun _ => 0) (Int32.toNatClampNeg 0) (Int32.toNatClampNeg 0) (Int32.toNatClampNeg 4)))), (q 1, .inl (cs 0, 4, .inl (fun _ => 0))), (q 2, .inl (cs 0, 4, .inl (fun _ => 0))), (q 3, .inl (cs 0, 4, .inl (fun _ => 0))), (q 4, .inl (cs 0, 8, .inl (fun _ => 0))), (z 0, .inl (cs 0, 4, .inl (fun _ => 0))), (z 1, .inl (cs 0, 4, .inl (fun _ => 0))), (z 2, .inl (cs 0, 4, .inl (fun _ => 0))), (z 3, .inl (cs 0, 4, .inl (fun _ => 0))), (z 4, .inl (cs 0, 8, .inl (fun _ => 0)))] := hD
  generalize va_cpy (α := Int32) (fun _ => 0) (fun _ => 0) (Int32.toNatClampNeg 0) (Int32.toNatClampNeg 0) (Int32.toNatClampNeg 4) = f_1 at hP hD
  refine lv_aload_n hx hb dX6_copyFrom_22 rfl (lv_at hl 1 rfl) ?_
  refine va_get (D := D) (ci := 6) (v := .ref (z 1)) (C := RX6) (T := TX6) (N := 6) hx hb hT i_X6 hown hK hP 1 rfl rfl 2 (by decide) (hT _ q_23) (fun _ h9 => h9) rfl dX6_copyFrom_23 ?_
  refine lv_iconst (v := 0) hx hb dX6_copyFrom_26 (by decide) ?_
  refine lv_aload_n hx hb dX6_copyFrom_27 rfl (lv_at hl 0 rfl) ?_
  refine va_get (D := D) (ci := 6) (v := .ref (q 1)) (C := RX6) (T := TX6) (N := 6) hx hb hT i_X6 hown hK hP 0 rfl rfl 2 (by decide) (hT _ q_23) (fun _ h9 => h9) rfl dX6_copyFrom_28 ?_
  refine lv_iconst (v := 0) hx hb dX6_copyFrom_31 (by decide) ?_
  refine lv_iconst (v := 4) hx hb dX6_copyFrom_32 (by decide) ?_
  refine va_copyi (ty := .int) hx hb (hml.trans hl.1.symm) hown (hT _ q_163) (hT _ q_164) (hT _ q_165) (hT _ q_166) hK hP hD hS 8 3 0 0 rfl rfl rfl rfl rfl (by decide) (by decide) (by decide) (by decide) (by decide) (fun _ _ => rfl) (Nat.le_of_ble_eq_true rfl) (Nat.le_of_ble_eq_true rfl) dX6_copyFrom_33 (fun H locs hP hD hS => ?_)
  have hP : va_P D classes [(a, .inr (6, [.int 0, .ref (q 0), .ref (q 1), .ref (q 2), .ref (q 3), .ref (q 4)])), (b, .inr (6, [.int 0, .ref (z 0), .ref (z 1), .ref (z 2), .ref (z 3), .ref (z 4)])), (q 0, .inl (cs 0, 4, .inl f_1)), (q 1, .inl (cs 0, 4, .inl (va_cpy (α := Int32) (fun _ => 0) (fun _ => 0) (Int32.toNatClampNeg 0) (Int32.toNatClampNeg 0) (Int32.toNatClampNeg 4)))), (q 2, .inl (cs 0, 4, .inl (fun _ => 0))), (q 3, .inl (cs 0, 4, .inl (fun _ => 0))), (q 4, .inl (cs 0, 8, .inl (fun _ => 0))), (z 0, .inl (cs 0, 4, .inl (fun _ => 0))), (z 1, .inl (cs 0, 4, .inl (fun _ => 0))), (z 2, .inl (cs 0, 4, .inl (fun _ => 0))), (z 3, .inl (cs 0, 4, .inl (fun _ => 0))), (z 4, .inl (cs 0, 8, .inl (fun _ => 0)))] H := hP
  have hD : va_D A [(a, .inr (6, [.int 0, .ref (q 0), .ref (q 1), .ref (q 2), .ref (q 3), .ref (q 4)])), (b, .inr (6, [.int 0, .ref (z 0), .ref (z 1), .ref (z 2), .ref (z 3), .ref (z 4)])), (q 0, .inl (cs 0, 4, .inl f_1)), (q 1, .inl (cs 0, 4, .inl (va_cpy (α := Int32) (fun _ => 0) (fun _ => 0) (Int32.toNatClampNeg 0) (Int32.toNatClampNeg 0) (Int32.toNatClampNeg 4)))), (q 2, .inl (cs 0, 4, .inl (fun _ => 0))), (q 3, .inl (cs 0, 4, .inl (fun _ => 0))), (q 4, .inl (cs 0, 8, .inl (fun _ => 0))), (z 0, .inl (cs 0, 4, .inl (fun _ => 0))), (z 1, .inl (cs 0, 4, .inl (fun _ => 0))), (z 2, .inl (cs 0, 4, .inl (fun _ => 0))), (z 3, .inl (cs 0, 4, .inl (fun _ => 0))), (z 4, .inl (cs 0, 8, .inl (fun _ => 0)))] := hD
  generalize va_cpy (α := Int32) (fun _ => 0) (fun _ => 0) (Int32.toNatClampNeg 0) (Int32.toNatClampNeg 0) (Int32.toNatClampNeg 4) = f_2 at hP hD
  refine lv_aload_n hx hb dX6_copyFrom_36 rfl (lv_at hl 1 rfl) ?_
  refine va_get (D := D) (ci := 6) (v := .ref (z 2)) (C := RX6) (T := TX6) (N := 6) hx hb hT i_X6 hown hK hP 1 rfl rfl 3 (by decide) (hT _ q_24) (fun _ h9 => h9) rfl dX6_copyFrom_37 ?_
  refine lv_iconst (v := 0) hx hb dX6_copyFrom_40 (by decide) ?_
  refine lv_aload_n hx hb dX6_copyFrom_41 rfl (lv_at hl 0 rfl) ?_
  refine va_get (D := D) (ci := 6) (v := .ref (q 2)) (C := RX6) (T := TX6) (N := 6) hx hb hT i_X6 hown hK hP 0 rfl rfl 3 (by decide) (hT _ q_24) (fun _ h9 => h9) rfl dX6_copyFrom_42 ?_
  refine lv_iconst (v := 0) hx hb dX6_copyFrom_45 (by decide) ?_
  refine lv_iconst (v := 4) hx hb dX6_copyFrom_46 (by decide) ?_
  refine va_copyi (ty := .int) hx hb (hml.trans hl.1.symm) hown (hT _ q_163) (hT _ q_164) (hT _ q_165) (hT _ q_166) hK hP hD hS 9 4 0 0 rfl rfl rfl rfl rfl (by decide) (by decide) (by decide) (by decide) (by decide) (fun _ _ => rfl) (Nat.le_of_ble_eq_true rfl) (Nat.le_of_ble_eq_true rfl) dX6_copyFrom_47 (fun H locs hP hD hS => ?_)
  have hP : va_P D classes [(a, .inr (6, [.int 0, .ref (q 0), .ref (q 1), .ref (q 2), .ref (q 3), .ref (q 4)])), (b, .inr (6, [.int 0, .ref (z 0), .ref (z 1), .ref (z 2), .ref (z 3), .ref (z 4)])), (q 0, .inl (cs 0, 4, .inl f_1)), (q 1, .inl (cs 0, 4, .inl f_2)), (q 2, .inl (cs 0, 4, .inl (va_cpy (α := Int32) (fun _ => 0) (fun _ => 0) (Int32.toNatClampNeg 0) (Int32.toNatClampNeg 0) (Int32.toNatClampNeg 4)))), (q 3, .inl (cs 0, 4, .inl (fun _ => 0))), (q 4, .inl (cs 0, 8, .inl (fun _ => 0))), (z 0, .inl (cs 0, 4, .inl (fun _ => 0))), (z 1, .inl (cs 0, 4, .inl (fun _ => 0))), (z 2, .inl (cs 0, 4, .inl (fun _ => 0))), (z 3, .inl (cs 0, 4, .inl (fun _ => 0))), (z 4, .inl (cs 0, 8, .inl (fun _ => 0)))] H := hP
  have hD : va_D A [(a, .inr (6, [.int 0, .ref (q 0), .ref (q 1), .ref (q 2), .ref (q 3), .ref (q 4)])), (b, .inr (6, [.int 0, .ref (z 0), .ref (z 1), .ref (z 2), .ref (z 3), .ref (z 4)])), (q 0, .inl (cs 0, 4, .inl f_1)), (q 1, .inl (cs 0, 4, .inl f_2)), (q 2, .inl (cs 0, 4, .inl (va_cpy (α := Int32) (fun _ => 0) (fun _ => 0) (Int32.toNatClampNeg 0) (Int32.toNatClampNeg 0) (Int32.toNatClampNeg 4)))), (q 3, .inl (cs 0, 4, .inl (fun _ => 0))), (q 4, .inl (cs 0, 8, .inl (fun _ => 0))), (z 0, .inl (cs 0, 4, .inl (fun _ => 0))), (z 1, .inl (cs 0, 4, .inl (fun _ => 0))), (z 2, .inl (cs 0, 4, .inl (fun _ => 0))), (z 3, .inl (cs 0, 4, .inl (fun _ => 0))), (z 4, .inl (cs 0, 8, .inl (fun _ => 0)))] := hD
  generalize va_cpy (α := Int32) (fun _ => 0) (fun _ => 0) (Int32.toNatClampNeg 0) (Int32.toNatClampNeg 0) (Int32.toNatClampNeg 4) = f_3 at hP hD
  refine lv_aload_n hx hb dX6_copyFrom_50 rfl (lv_at hl 1 rfl) ?_
  refine va_get (D := D) (ci := 6) (v := .ref (z 3)) (C := RX6) (T := TX6) (N := 6) hx hb hT i_X6 hown hK hP 1 rfl rfl 4 (by decide) (hT _ q_25) (fun _ h9 => h9) rfl dX6_copyFrom_51 ?_
  refine lv_iconst (v := 0) hx hb dX6_copyFrom_54 (by decide) ?_
  refine lv_aload_n hx hb dX6_copyFrom_55 rfl (lv_at hl 0 rfl) ?_
  refine va_get (D := D) (ci := 6) (v := .ref (q 3)) (C := RX6) (T := TX6) (N := 6) hx hb hT i_X6 hown hK hP 0 rfl rfl 4 (by decide) (hT _ q_25) (fun _ h9 => h9) rfl dX6_copyFrom_56 ?_
  refine lv_iconst (v := 0) hx hb dX6_copyFrom_59 (by decide) ?_
  refine lv_iconst (v := 4) hx hb dX6_copyFrom_60 (by decide) ?_
  refine va_copyi (ty := .int) hx hb (hml.trans hl.1.symm) hown (hT _ q_163) (hT _ q_164) (hT _ q_165) (hT _ q_166) hK hP hD hS 10 5 0 0 rfl rfl rfl rfl rfl (by decide) (by decide) (by decide) (by decide) (by decide) (fun _ _ => rfl) (Nat.le_of_ble_eq_true rfl) (Nat.le_of_ble_eq_true rfl) dX6_copyFrom_61 (fun H locs hP hD hS => ?_)
  have hP : va_P D classes [(a, .inr (6, [.int 0, .ref (q 0), .ref (q 1), .ref (q 2), .ref (q 3), .ref (q 4)])), (b, .inr (6, [.int 0, .ref (z 0), .ref (z 1), .ref (z 2), .ref (z 3), .ref (z 4)])), (q 0, .inl (cs 0, 4, .inl f_1)), (q 1, .inl (cs 0, 4, .inl f_2)), (q 2, .inl (cs 0, 4, .inl f_3)), (q 3, .inl (cs 0, 4, .inl (va_cpy (α := Int32) (fun _ => 0) (fun _ => 0) (Int32.toNatClampNeg 0) (Int32.toNatClampNeg 0) (Int32.toNatClampNeg 4)))), (q 4, .inl (cs 0, 8, .inl (fun _ => 0))), (z 0, .inl (cs 0, 4, .inl (fun _ => 0))), (z 1, .inl (cs 0, 4, .inl (fun _ => 0))), (z 2, .inl (cs 0, 4, .inl (fun _ => 0))), (z 3, .inl (cs 0, 4, .inl (fun _ => 0))), (z 4, .inl (cs 0, 8, .inl (fun _ => 0)))] H := hP
  have hD : va_D A [(a, .inr (6, [.int 0, .ref (q 0), .ref (q 1), .ref (q 2), .ref (q 3), .ref (q 4)])), (b, .inr (6, [.int 0, .ref (z 0), .ref (z 1), .ref (z 2), .ref (z 3), .ref (z 4)])), (q 0, .inl (cs 0, 4, .inl f_1)), (q 1, .inl (cs 0, 4, .inl f_2)), (q 2, .inl (cs 0, 4, .inl f_3)), (q 3, .inl (cs 0, 4, .inl (va_cpy (α := Int32) (fun _ => 0) (fun _ => 0) (Int32.toNatClampNeg 0) (Int32.toNatClampNeg 0) (Int32.toNatClampNeg 4)))), (q 4, .inl (cs 0, 8, .inl (fun _ => 0))), (z 0, .inl (cs 0, 4, .inl (fun _ => 0))), (z 1, .inl (cs 0, 4, .inl (fun _ => 0))), (z 2, .inl (cs 0, 4, .inl (fun _ => 0))), (z 3, .inl (cs 0, 4, .inl (fun _ => 0))), (z 4, .inl (cs 0, 8, .inl (fun _ => 0)))] := hD
  generalize va_cpy (α := Int32) (fun _ => 0) (fun _ => 0) (Int32.toNatClampNeg 0) (Int32.toNatClampNeg 0) (Int32.toNatClampNeg 4) = f_4 at hP hD
  refine lv_aload_n hx hb dX6_copyFrom_64 rfl (lv_at hl 1 rfl) ?_
  refine va_get (D := D) (ci := 6) (v := .ref (z 4)) (C := RX6) (T := TX6) (N := 6) hx hb hT i_X6 hown hK hP 1 rfl rfl 5 (by decide) (hT _ q_26) (fun _ h9 => h9) rfl dX6_copyFrom_65 ?_
  refine lv_iconst (v := 0) hx hb dX6_copyFrom_68 (by decide) ?_
  refine lv_aload_n hx hb dX6_copyFrom_69 rfl (lv_at hl 0 rfl) ?_
  refine va_get (D := D) (ci := 6) (v := .ref (q 4)) (C := RX6) (T := TX6) (N := 6) hx hb hT i_X6 hown hK hP 0 rfl rfl 5 (by decide) (hT _ q_26) (fun _ h9 => h9) rfl dX6_copyFrom_70 ?_
  refine lv_iconst (v := 0) hx hb dX6_copyFrom_73 (by decide) ?_
  refine lv_bipush (v := 8) hx hb dX6_copyFrom_74 (by decide) ?_
  refine va_copyi (ty := .int) hx hb (hml.trans hl.1.symm) hown (hT _ q_163) (hT _ q_164) (hT _ q_165) (hT _ q_166) hK hP hD hS 11 6 0 0 rfl rfl rfl rfl rfl (by decide) (by decide) (by decide) (by decide) (by decide) (fun _ _ => rfl) (Nat.le_of_ble_eq_true rfl) (Nat.le_of_ble_eq_true rfl) dX6_copyFrom_76 (fun H locs hP hD hS => ?_)
  have hP : va_P D classes [(a, .inr (6, [.int 0, .ref (q 0), .ref (q 1), .ref (q 2), .ref (q 3), .ref (q 4)])), (b, .inr (6, [.int 0, .ref (z 0), .ref (z 1), .ref (z 2), .ref (z 3), .ref (z 4)])), (q 0, .inl (cs 0, 4, .inl f_1)), (q 1, .inl (cs 0, 4, .inl f_2)), (q 2, .inl (cs 0, 4, .inl f_3)), (q 3, .inl (cs 0, 4, .inl f_4)), (q 4, .inl (cs 0, 8, .inl (va_cpy (α := Int32) (fun _ => 0) (fun _ => 0) (Int32.toNatClampNeg 0) (Int32.toNatClampNeg 0) (Int32.toNatClampNeg 8)))), (z 0, .inl (cs 0, 4, .inl (fun _ => 0))), (z 1, .inl (cs 0, 4, .inl (fun _ => 0))), (z 2, .inl (cs 0, 4, .inl (fun _ => 0))), (z 3, .inl (cs 0, 4, .inl (fun _ => 0))), (z 4, .inl (cs 0, 8, .inl (fun _ => 0)))] H := hP
  have hD : va_D A [(a, .inr (6, [.int 0, .ref (q 0), .ref (q 1), .ref (q 2), .ref (q 3), .ref (q 4)])), (b, .inr (6, [.int 0, .ref (z 0), .ref (z 1), .ref (z 2), .ref (z 3), .ref (z 4)])), (q 0, .inl (cs 0, 4, .inl f_1)), (q 1, .inl (cs 0, 4, .inl f_2)), (q 2, .inl (cs 0, 4, .inl f_3)), (q 3, .inl (cs 0, 4, .inl f_4)), (q 4, .inl (cs 0, 8, .inl (va_cpy (α := Int32) (fun _ => 0) (fun _ => 0) (Int32.toNatClampNeg 0) (Int32.toNatClampNeg 0) (Int32.toNatClampNeg 8)))), (z 0, .inl (cs 0, 4, .inl (fun _ => 0))), (z 1, .inl (cs 0, 4, .inl (fun _ => 0))), (z 2, .inl (cs 0, 4, .inl (fun _ => 0))), (z 3, .inl (cs 0, 4, .inl (fun _ => 0))), (z 4, .inl (cs 0, 8, .inl (fun _ => 0)))] := hD
  generalize va_cpy (α := Int32) (fun _ => 0) (fun _ => 0) (Int32.toNatClampNeg 0) (Int32.toNatClampNeg 0) (Int32.toNatClampNeg 8) = f_5 at hP hD
  exact W.vret hx hb hr (fun t ht hW => ⟨⟨(), rfl, trivial, by rw [ht]; exact hP.sub [1] rfl, hD.sub [1] (by decide) rfl⟩, hS.F ht⟩) hS.2.2 dX6_copyFrom_79
theorem dX9_copyFrom_0 : decode cX9_copyFrom 0 = .ok (.aload_n 0, 1) := by decide +kernel
theorem dX9_copyFrom_1 : decode cX9_copyFrom 1 = .ok (.aload_n 1, 1) := by decide +kernel
theorem dX9_copyFrom_2 : decode cX9_copyFrom 2 = .ok (.getfield 25, 3) := by decide +kernel
theorem dX9_copyFrom_5 : decode cX9_copyFrom 5 = .ok (.putfield 25, 3) := by decide +kernel
theorem dX9_copyFrom_8 : decode cX9_copyFrom 8 = .ok (.iconst 0, 1) := by decide +kernel
theorem dX9_copyFrom_9 : decode cX9_copyFrom 9 = .ok (.istore_n 2, 1) := by decide +kernel
theorem dX9_copyFrom_10 : decode cX9_copyFrom 10 = .ok (.iload_n 2, 1) := by decide +kernel
theorem dX9_copyFrom_11 : decode cX9_copyFrom 11 = .ok (.bipush 12, 2) := by decide +kernel
theorem dX9_copyFrom_13 : decode cX9_copyFrom 13 = .ok (.if_icmp .ge 45, 3) := by decide +kernel
theorem dX9_copyFrom_16 : decode cX9_copyFrom 16 = .ok (.aload_n 0, 1) := by decide +kernel
theorem dX9_copyFrom_17 : decode cX9_copyFrom 17 = .ok (.getfield 15, 3) := by decide +kernel
theorem dX9_copyFrom_20 : decode cX9_copyFrom 20 = .ok (.iload_n 2, 1) := by decide +kernel
theorem dX9_copyFrom_21 : decode cX9_copyFrom 21 = .ok (.aload_n 1, 1) := by decide +kernel
theorem dX9_copyFrom_22 : decode cX9_copyFrom 22 = .ok (.getfield 15, 3) := by decide +kernel
theorem dX9_copyFrom_25 : decode cX9_copyFrom 25 = .ok (.iload_n 2, 1) := by decide +kernel
theorem dX9_copyFrom_26 : decode cX9_copyFrom 26 = .ok (.iaload, 1) := by decide +kernel
theorem dX9_copyFrom_27 : decode cX9_copyFrom 27 = .ok (.iastore, 1) := by decide +kernel
theorem dX9_copyFrom_28 : decode cX9_copyFrom 28 = .ok (.aload_n 0, 1) := by decide +kernel
theorem dX9_copyFrom_29 : decode cX9_copyFrom 29 = .ok (.getfield 18, 3) := by decide +kernel
theorem dX9_copyFrom_32 : decode cX9_copyFrom 32 = .ok (.iload_n 2, 1) := by decide +kernel
theorem dX9_copyFrom_33 : decode cX9_copyFrom 33 = .ok (.aload_n 1, 1) := by decide +kernel
theorem dX9_copyFrom_34 : decode cX9_copyFrom 34 = .ok (.getfield 18, 3) := by decide +kernel
theorem dX9_copyFrom_37 : decode cX9_copyFrom 37 = .ok (.iload_n 2, 1) := by decide +kernel
theorem dX9_copyFrom_38 : decode cX9_copyFrom 38 = .ok (.iaload, 1) := by decide +kernel
theorem dX9_copyFrom_39 : decode cX9_copyFrom 39 = .ok (.iastore, 1) := by decide +kernel
theorem dX9_copyFrom_40 : decode cX9_copyFrom 40 = .ok (.aload_n 0, 1) := by decide +kernel
theorem dX9_copyFrom_41 : decode cX9_copyFrom 41 = .ok (.getfield 21, 3) := by decide +kernel
theorem dX9_copyFrom_44 : decode cX9_copyFrom 44 = .ok (.iload_n 2, 1) := by decide +kernel
theorem dX9_copyFrom_45 : decode cX9_copyFrom 45 = .ok (.aload_n 1, 1) := by decide +kernel
theorem dX9_copyFrom_46 : decode cX9_copyFrom 46 = .ok (.getfield 21, 3) := by decide +kernel
theorem dX9_copyFrom_49 : decode cX9_copyFrom 49 = .ok (.iload_n 2, 1) := by decide +kernel
theorem dX9_copyFrom_50 : decode cX9_copyFrom 50 = .ok (.baload, 1) := by decide +kernel
theorem dX9_copyFrom_51 : decode cX9_copyFrom 51 = .ok (.bastore, 1) := by decide +kernel
theorem dX9_copyFrom_52 : decode cX9_copyFrom 52 = .ok (.iinc 2 1, 3) := by decide +kernel
theorem dX9_copyFrom_55 : decode cX9_copyFrom 55 = .ok (.goto (-45), 3) := by decide +kernel
theorem dX9_copyFrom_58 : decode cX9_copyFrom 58 = .ok (.return_, 1) := by decide +kernel
set_option maxHeartbeats 4000000 in
set_option maxRecDepth 100000 in
theorem c_X9_copyFrom (l : Launch) (D : va_G) (cs : Nat → ClassId) (kK kV : Nat → Nat) (a : Nat) (b : Nat) (q : Nat → Nat) (z : Nat → Nat) (sz : Nat) : Met l yX9_copyFrom (hz_w yX9_copyFrom cX9_copyFrom 3 none) ({ frames := 0, cells := 0, slots := 0, locals := 0 }) (va_Pc [.ref a, .ref b] (hz_C D cs kK kV sz [(a, .inr (9, [.int 0, .int 0, .int 0, .ref (q 0), .ref (q 1), .ref (q 2), .ref (q 3)])), (b, .inr (9, [.int 0, .int 0, .int 0, .ref (z 0), .ref (z 1), .ref (z 2), .ref (z 3)])), (q 1, .inl (cs 0, 12, .inl (fun _ => 0))), (q 2, .inl (cs 0, 12, .inl (fun _ => 0))), (q 3, .inl (cs 2, 12, .inl (fun _ => 0))), (z 1, .inl (cs 0, 12, .inl (fun _ => 0))), (z 2, .inl (cs 0, 12, .inl (fun _ => 0))), (z 3, .inl (cs 2, 12, .inl (fun _ => 0)))])) (va_Qv (fun (_ : Unit) => True) (fun _ t => True) (va_A [(a, .inr (9, [.int 0, .int 0, .int 0, .ref (q 0), .ref (q 1), .ref (q 2), .ref (q 3)])), (b, .inr (9, [.int 0, .int 0, .int 0, .ref (z 0), .ref (z 1), .ref (z 2), .ref (z 3)])), (q 1, .inl (cs 0, 12, .inl (fun _ => 0))), (q 2, .inl (cs 0, 12, .inl (fun _ => 0))), (q 3, .inl (cs 2, 12, .inl (fun _ => 0))), (z 1, .inl (cs 0, 12, .inl (fun _ => 0))), (z 2, .inl (cs 0, 12, .inl (fun _ => 0))), (z 3, .inl (cs 2, 12, .inl (fun _ => 0)))] sz)) 0 0 (va_A [(a, .inr (9, [.int 0, .int 0, .int 0, .ref (q 0), .ref (q 1), .ref (q 2), .ref (q 3)])), (b, .inr (9, [.int 0, .int 0, .int 0, .ref (z 0), .ref (z 1), .ref (z 2), .ref (z 3)])), (q 1, .inl (cs 0, 12, .inl (fun _ => 0))), (q 2, .inl (cs 0, 12, .inl (fun _ => 0))), (q 3, .inl (cs 2, 12, .inl (fun _ => 0))), (z 1, .inl (cs 0, 12, .inl (fun _ => 0))), (z 2, .inl (cs 0, 12, .inl (fun _ => 0))), (z 3, .inl (cs 2, 12, .inl (fun _ => 0)))] sz) := by
  refine Met.ofW (cc := cX9_copyFrom) (maxL := 3) (ret := none) (by decide) rfl ?_
  intro p e s m args below meth c s₁ B hml hv
  obtain ⟨rfl, hsz, hP, hD0, hE⟩ := hv
  have hx := B.exec
  have hb := B.bytes
  have hr := B.returns
  have hT : ∀ w ∈ TB, w.before _ s = true := fun w h => atoms_spec (ws := hz_w yX9_copyFrom cX9_copyFrom 3 none) B.pre w (List.mem_cons_of_mem _ h)
  have hown : s.vm.findClass RX9 = some m.cls := findClass_of_methodNamed B.named
  have hlocks := B.notSynchronized
  clear B
  subst hsz
  have hD := hD0.self (sz := s.heap.size)
  generalize hAe : va_A [(a, .inr (9, [.int 0, .int 0, .int 0, .ref (q 0), .ref (q 1), .ref (q 2), .ref (q 3)])), (b, .inr (9, [.int 0, .int 0, .int 0, .ref (z 0), .ref (z 1), .ref (z 2), .ref (z 3)])), (q 1, .inl (cs 0, 12, .inl (fun _ => 0))), (q 2, .inl (cs 0, 12, .inl (fun _ => 0))), (q 3, .inl (cs 2, 12, .inl (fun _ => 0))), (z 1, .inl (cs 0, 12, .inl (fun _ => 0))), (z 2, .inl (cs 0, 12, .inl (fun _ => 0))), (z 3, .inl (cs 2, 12, .inl (fun _ => 0)))] s.heap.size = A at hD hE ⊢
  have hA : ∀ q : Nat, s.heap.size ≤ q → A q := fun q h => by rw [← hAe]; exact Or.inr h
  clear hAe hD0
  have hS : va_S A s.heap s.heap [] := va_S.rf
  have hK := hE.1
  have hl := lv_entry ([.ref a, .ref b]) (n := 3) (Nat.le_of_ble_eq_true rfl)
  rw [lg_entry_eq]
  generalize (lg_sl ([.ref a, .ref b]) ++ List.replicate (3 - (lg_sl ([.ref a, .ref b])).length) Slot.unset).toArray = ls at hl ⊢
  have hl : lv_has ls 3 [(0, .ref a), (1, .ref b)] := hl
  obtain ⟨H, eH⟩ : ∃ z, z = s.heap := ⟨_, rfl⟩
  have hP : va_P D classes [(a, .inr (9, [.int 0, .int 0, .int 0, .ref (q 0), .ref (q 1), .ref (q 2), .ref (q 3)])), (b, .inr (9, [.int 0, .int 0, .int 0, .ref (z 0), .ref (z 1), .ref (z 2), .ref (z 3)])), (q 1, .inl (cs 0, 12, .inl (fun _ => 0))), (q 2, .inl (cs 0, 12, .inl (fun _ => 0))), (q 3, .inl (cs 2, 12, .inl (fun _ => 0))), (z 1, .inl (cs 0, 12, .inl (fun _ => 0))), (z 2, .inl (cs 0, 12, .inl (fun _ => 0))), (z 3, .inl (cs 2, 12, .inl (fun _ => 0)))] H := by rw [eH]; exact hP
  have hS : va_S A s.heap H [] := by rw [eH]; exact hS
  rw [← eH]
  clear eH
  refine lv_aload_n hx hb dX9_copyFrom_0 rfl (lv_at hl 0 rfl) ?_
  refine lv_aload_n hx hb dX9_copyFrom_1 rfl (lv_at hl 1 rfl) ?_
  refine va_get (D := D) (ci := 9) (v := .int 0) (C := RX9) (T := TX9) (N := 7) hx hb hT i_X9 hown hK hP 1 rfl rfl 0 (by decide) (hT _ q_167) (fun _ h9 => h9) rfl dX9_copyFrom_2 ?_
  refine va_put (D := D) (ci := 9) (v := .int 0) (ty := .int) (C := RX9) (T := TX9) (N := 7) hx hb hT i_X9 tyX9 tyX9_ok nmX9 hown hK hP hD hS 0 rfl rfl 0 (by decide) (hT _ q_167) (fun _ h9 => h9) rfl (by decide +kernel) rfl rfl (Nat.le_of_ble_eq_true rfl) dX9_copyFrom_5 (fun H locs hP hD hS => ?_)
  have hP : va_P D classes [(a, .inr (9, [.int 0, .int 0, .int 0, .ref (q 0), .ref (q 1), .ref (q 2), .ref (q 3)])), (b, .inr (9, [.int 0, .int 0, .int 0, .ref (z 0), .ref (z 1), .ref (z 2), .ref (z 3)])), (q 1, .inl (cs 0, 12, .inl (fun _ => 0))), (q 2, .inl (cs 0, 12, .inl (fun _ => 0))), (q 3, .inl (cs 2, 12, .inl (fun _ => 0))), (z 1, .inl (cs 0, 12, .inl (fun _ => 0))), (z 2, .inl (cs 0, 12, .inl (fun _ => 0))), (z 3, .inl (cs 2, 12, .inl (fun _ => 0)))] H := hP
  have hD : va_D A [(a, .inr (9, [.int 0, .int 0, .int 0, .ref (q 0), .ref (q 1), .ref (q 2), .ref (q 3)])), (b, .inr (9, [.int 0, .int 0, .int 0, .ref (z 0), .ref (z 1), .ref (z 2), .ref (z 3)])), (q 1, .inl (cs 0, 12, .inl (fun _ => 0))), (q 2, .inl (cs 0, 12, .inl (fun _ => 0))), (q 3, .inl (cs 2, 12, .inl (fun _ => 0))), (z 1, .inl (cs 0, 12, .inl (fun _ => 0))), (z 2, .inl (cs 0, 12, .inl (fun _ => 0))), (z 3, .inl (cs 2, 12, .inl (fun _ => 0)))] := hD
  refine lv_iconst (v := 0) hx hb dX9_copyFrom_8 (by decide) ?_
  refine lv_istore_n (lv' := [(2, .int 0), (0, .ref a), (1, .ref b)]) hx hb dX9_copyFrom_9 rfl hl (by decide) rfl (fun ls hl => ?_)
  refine lv_iload_n hx hb dX9_copyFrom_10 rfl (lv_at hl 0 rfl) ?_
  refine lv_bipush (v := 12) hx hb dX9_copyFrom_11 (by decide) ?_
  refine lv_icmp_ge (tgt := 58) hx hb dX9_copyFrom_13 (by decide) (fun z => absurd z (by decide)) (fun _ => ?_)
  refine lv_aload_n hx hb dX9_copyFrom_16 rfl (lv_at hl 1 rfl) ?_
  refine va_get (D := D) (ci := 9) (v := .ref (q 1)) (C := RX9) (T := TX9) (N := 7) hx hb hT i_X9 hown hK hP 0 rfl rfl 4 (by decide) (hT _ q_29) (fun _ h9 => h9) rfl dX9_copyFrom_17 ?_
  refine lv_iload_n hx hb dX9_copyFrom_20 rfl (lv_at hl 0 rfl) ?_
  refine lv_aload_n hx hb dX9_copyFrom_21 rfl (lv_at hl 2 rfl) ?_
  refine va_get (D := D) (ci := 9) (v := .ref (z 1)) (C := RX9) (T := TX9) (N := 7) hx hb hT i_X9 hown hK hP 1 rfl rfl 4 (by decide) (hT _ q_29) (fun _ h9 => h9) rfl dX9_copyFrom_22 ?_
  refine lv_iload_n hx hb dX9_copyFrom_25 rfl (lv_at hl 0 rfl) ?_
  refine va_iald hx hb hK hP 5 0 rfl rfl (by unfold vp_in; decide) dX9_copyFrom_26 ?_
  refine hz_ev 0 rfl ?_
  refine va_iast hx hb hK hP hD hS 2 0 rfl rfl (by unfold vp_in; decide) dX9_copyFrom_27 (fun H locs hP hD hS => ?_)
  have hP : va_P D classes [(a, .inr (9, [.int 0, .int 0, .int 0, .ref (q 0), .ref (q 1), .ref (q 2), .ref (q 3)])), (b, .inr (9, [.int 0, .int 0, .int 0, .ref (z 0), .ref (z 1), .ref (z 2), .ref (z 3)])), (q 1, .inl (cs 0, 12, .inl (upd (fun _ => 0) (Int32.toNatClampNeg (0 : Int32)) (0 : Int32)))), (q 2, .inl (cs 0, 12, .inl (fun _ => 0))), (q 3, .inl (cs 2, 12, .inl (fun _ => 0))), (z 1, .inl (cs 0, 12, .inl (fun _ => 0))), (z 2, .inl (cs 0, 12, .inl (fun _ => 0))), (z 3, .inl (cs 2, 12, .inl (fun _ => 0)))] H := hP
  have hD : va_D A [(a, .inr (9, [.int 0, .int 0, .int 0, .ref (q 0), .ref (q 1), .ref (q 2), .ref (q 3)])), (b, .inr (9, [.int 0, .int 0, .int 0, .ref (z 0), .ref (z 1), .ref (z 2), .ref (z 3)])), (q 1, .inl (cs 0, 12, .inl (upd (fun _ => 0) (Int32.toNatClampNeg (0 : Int32)) (0 : Int32)))), (q 2, .inl (cs 0, 12, .inl (fun _ => 0))), (q 3, .inl (cs 2, 12, .inl (fun _ => 0))), (z 1, .inl (cs 0, 12, .inl (fun _ => 0))), (z 2, .inl (cs 0, 12, .inl (fun _ => 0))), (z 3, .inl (cs 2, 12, .inl (fun _ => 0)))] := hD
  generalize upd (fun _ => 0) (Int32.toNatClampNeg (0 : Int32)) (0 : Int32) = f_1 at hP hD
  refine lv_aload_n hx hb dX9_copyFrom_28 rfl (lv_at hl 1 rfl) ?_
  refine va_get (D := D) (ci := 9) (v := .ref (q 2)) (C := RX9) (T := TX9) (N := 7) hx hb hT i_X9 hown hK hP 0 rfl rfl 5 (by decide) (hT _ q_30) (fun _ h9 => h9) rfl dX9_copyFrom_29 ?_
  refine lv_iload_n hx hb dX9_copyFrom_32 rfl (lv_at hl 0 rfl) ?_
  refine lv_aload_n hx hb dX9_copyFrom_33 rfl (lv_at hl 2 rfl) ?_
  refine va_get (D := D) (ci := 9) (v := .ref (z 2)) (C := RX9) (T := TX9) (N := 7) hx hb hT i_X9 hown hK hP 1 rfl rfl 5 (by decide) (hT _ q_30) (fun _ h9 => h9) rfl dX9_copyFrom_34 ?_
  refine lv_iload_n hx hb dX9_copyFrom_37 rfl (lv_at hl 0 rfl) ?_
  refine va_iald hx hb hK hP 6 0 rfl rfl (by unfold vp_in; decide) dX9_copyFrom_38 ?_
  refine hz_ev 0 rfl ?_
  refine va_iast hx hb hK hP hD hS 3 0 rfl rfl (by unfold vp_in; decide) dX9_copyFrom_39 (fun H locs hP hD hS => ?_)
  have hP : va_P D classes [(a, .inr (9, [.int 0, .int 0, .int 0, .ref (q 0), .ref (q 1), .ref (q 2), .ref (q 3)])), (b, .inr (9, [.int 0, .int 0, .int 0, .ref (z 0), .ref (z 1), .ref (z 2), .ref (z 3)])), (q 1, .inl (cs 0, 12, .inl f_1)), (q 2, .inl (cs 0, 12, .inl (upd (fun _ => 0) (Int32.toNatClampNeg (0 : Int32)) (0 : Int32)))), (q 3, .inl (cs 2, 12, .inl (fun _ => 0))), (z 1, .inl (cs 0, 12, .inl (fun _ => 0))), (z 2, .inl (cs 0, 12, .inl (fun _ => 0))), (z 3, .inl (cs 2, 12, .inl (fun _ => 0)))] H := hP
  have hD : va_D A [(a, .inr (9, [.int 0, .int 0, .int 0, .ref (q 0), .ref (q 1), .ref (q 2), .ref (q 3)])), (b, .inr (9, [.int 0, .int 0, .int 0, .ref (z 0), .ref (z 1), .ref (z 2), .ref (z 3)])), (q 1, .inl (cs 0, 12, .inl f_1)), (q 2, .inl (cs 0, 12, .inl (upd (fun _ => 0) (Int32.toNatClampNeg (0 : Int32)) (0 : Int32)))), (q 3, .inl (cs 2, 12, .inl (fun _ => 0))), (z 1, .inl (cs 0, 12, .inl (fun _ => 0))), (z 2, .inl (cs 0, 12, .inl (fun _ => 0))), (z 3, .inl (cs 2, 12, .inl (fun _ => 0)))] := hD
  generalize upd (fun _ => 0) (Int32.toNatClampNeg (0 : Int32)) (0 : Int32) = f_2 at hP hD
  refine lv_aload_n hx hb dX9_copyFrom_40 rfl (lv_at hl 1 rfl) ?_
  refine va_get (D := D) (ci := 9) (v := .ref (q 3)) (C := RX9) (T := TX9) (N := 7) hx hb hT i_X9 hown hK hP 0 rfl rfl 6 (by decide) (hT _ q_32) (fun _ h9 => h9) rfl dX9_copyFrom_41 ?_
  refine lv_iload_n hx hb dX9_copyFrom_44 rfl (lv_at hl 0 rfl) ?_
  refine lv_aload_n hx hb dX9_copyFrom_45 rfl (lv_at hl 2 rfl) ?_
  refine va_get (D := D) (ci := 9) (v := .ref (z 3)) (C := RX9) (T := TX9) (N := 7) hx hb hT i_X9 hown hK hP 1 rfl rfl 6 (by decide) (hT _ q_32) (fun _ h9 => h9) rfl dX9_copyFrom_46 ?_
  refine lv_iload_n hx hb dX9_copyFrom_49 rfl (lv_at hl 0 rfl) ?_
  refine va_zald hx hb hK hP 7 2 rfl rfl (by unfold vp_in; decide) dX9_copyFrom_50 ?_
  refine hz_ev 0 rfl ?_
  refine va_zast hx hb hK hP hD hS 4 2 rfl rfl (by unfold vp_in; decide) dX9_copyFrom_51 (fun H locs hP hD hS => ?_)
  have hP : va_P D classes [(a, .inr (9, [.int 0, .int 0, .int 0, .ref (q 0), .ref (q 1), .ref (q 2), .ref (q 3)])), (b, .inr (9, [.int 0, .int 0, .int 0, .ref (z 0), .ref (z 1), .ref (z 2), .ref (z 3)])), (q 1, .inl (cs 0, 12, .inl f_1)), (q 2, .inl (cs 0, 12, .inl f_2)), (q 3, .inl (cs 2, 12, .inl (upd (fun _ => 0) (Int32.toNatClampNeg (0 : Int32)) (vp_nar .boolean (0 : Int32))))), (z 1, .inl (cs 0, 12, .inl (fun _ => 0))), (z 2, .inl (cs 0, 12, .inl (fun _ => 0))), (z 3, .inl (cs 2, 12, .inl (fun _ => 0)))] H := hP
  have hD : va_D A [(a, .inr (9, [.int 0, .int 0, .int 0, .ref (q 0), .ref (q 1), .ref (q 2), .ref (q 3)])), (b, .inr (9, [.int 0, .int 0, .int 0, .ref (z 0), .ref (z 1), .ref (z 2), .ref (z 3)])), (q 1, .inl (cs 0, 12, .inl f_1)), (q 2, .inl (cs 0, 12, .inl f_2)), (q 3, .inl (cs 2, 12, .inl (upd (fun _ => 0) (Int32.toNatClampNeg (0 : Int32)) (vp_nar .boolean (0 : Int32))))), (z 1, .inl (cs 0, 12, .inl (fun _ => 0))), (z 2, .inl (cs 0, 12, .inl (fun _ => 0))), (z 3, .inl (cs 2, 12, .inl (fun _ => 0)))] := hD
  generalize upd (fun _ => 0) (Int32.toNatClampNeg (0 : Int32)) (vp_nar .boolean (0 : Int32)) = f_3 at hP hD
  refine lv_iinc (v := 1) (lv' := [(2, .int 1), (0, .ref a), (1, .ref b)]) hx hb dX9_copyFrom_52 hl (k := 0) rfl (by decide) (by decide) rfl (fun ls hl => ?_)
  refine lv_goto (tgt := 10) hx hb dX9_copyFrom_55 (by decide) ?_
  refine lv_iload_n hx hb dX9_copyFrom_10 rfl (lv_at hl 0 rfl) ?_
  refine lv_bipush (v := 12) hx hb dX9_copyFrom_11 (by decide) ?_
  refine lv_icmp_ge (tgt := 58) hx hb dX9_copyFrom_13 (by decide) (fun z => absurd z (by decide)) (fun _ => ?_)
  refine lv_aload_n hx hb dX9_copyFrom_16 rfl (lv_at hl 1 rfl) ?_
  refine va_get (D := D) (ci := 9) (v := .ref (q 1)) (C := RX9) (T := TX9) (N := 7) hx hb hT i_X9 hown hK hP 0 rfl rfl 4 (by decide) (hT _ q_29) (fun _ h9 => h9) rfl dX9_copyFrom_17 ?_
  refine lv_iload_n hx hb dX9_copyFrom_20 rfl (lv_at hl 0 rfl) ?_
  refine lv_aload_n hx hb dX9_copyFrom_21 rfl (lv_at hl 2 rfl) ?_
  refine va_get (D := D) (ci := 9) (v := .ref (z 1)) (C := RX9) (T := TX9) (N := 7) hx hb hT i_X9 hown hK hP 1 rfl rfl 4 (by decide) (hT _ q_29) (fun _ h9 => h9) rfl dX9_copyFrom_22 ?_
  refine lv_iload_n hx hb dX9_copyFrom_25 rfl (lv_at hl 0 rfl) ?_
  refine va_iald hx hb hK hP 5 0 rfl rfl (by unfold vp_in; decide) dX9_copyFrom_26 ?_
  refine hz_ev 0 rfl ?_
  refine va_iast hx hb hK hP hD hS 2 0 rfl rfl (by unfold vp_in; decide) dX9_copyFrom_27 (fun H locs hP hD hS => ?_)
  have hP : va_P D classes [(a, .inr (9, [.int 0, .int 0, .int 0, .ref (q 0), .ref (q 1), .ref (q 2), .ref (q 3)])), (b, .inr (9, [.int 0, .int 0, .int 0, .ref (z 0), .ref (z 1), .ref (z 2), .ref (z 3)])), (q 1, .inl (cs 0, 12, .inl (upd f_1 (Int32.toNatClampNeg (1 : Int32)) (0 : Int32)))), (q 2, .inl (cs 0, 12, .inl f_2)), (q 3, .inl (cs 2, 12, .inl f_3)), (z 1, .inl (cs 0, 12, .inl (fun _ => 0))), (z 2, .inl (cs 0, 12, .inl (fun _ => 0))), (z 3, .inl (cs 2, 12, .inl (fun _ => 0)))] H := hP
  have hD : va_D A [(a, .inr (9, [.int 0, .int 0, .int 0, .ref (q 0), .ref (q 1), .ref (q 2), .ref (q 3)])), (b, .inr (9, [.int 0, .int 0, .int 0, .ref (z 0), .ref (z 1), .ref (z 2), .ref (z 3)])), (q 1, .inl (cs 0, 12, .inl (upd f_1 (Int32.toNatClampNeg (1 : Int32)) (0 : Int32)))), (q 2, .inl (cs 0, 12, .inl f_2)), (q 3, .inl (cs 2, 12, .inl f_3)), (z 1, .inl (cs 0, 12, .inl (fun _ => 0))), (z 2, .inl (cs 0, 12, .inl (fun _ => 0))), (z 3, .inl (cs 2, 12, .inl (fun _ => 0)))] := hD
  generalize upd f_1 (Int32.toNatClampNeg (1 : Int32)) (0 : Int32) = f_4 at hP hD
  refine lv_aload_n hx hb dX9_copyFrom_28 rfl (lv_at hl 1 rfl) ?_
  refine va_get (D := D) (ci := 9) (v := .ref (q 2)) (C := RX9) (T := TX9) (N := 7) hx hb hT i_X9 hown hK hP 0 rfl rfl 5 (by decide) (hT _ q_30) (fun _ h9 => h9) rfl dX9_copyFrom_29 ?_
  refine lv_iload_n hx hb dX9_copyFrom_32 rfl (lv_at hl 0 rfl) ?_
  refine lv_aload_n hx hb dX9_copyFrom_33 rfl (lv_at hl 2 rfl) ?_
  refine va_get (D := D) (ci := 9) (v := .ref (z 2)) (C := RX9) (T := TX9) (N := 7) hx hb hT i_X9 hown hK hP 1 rfl rfl 5 (by decide) (hT _ q_30) (fun _ h9 => h9) rfl dX9_copyFrom_34 ?_
  refine lv_iload_n hx hb dX9_copyFrom_37 rfl (lv_at hl 0 rfl) ?_
  refine va_iald hx hb hK hP 6 0 rfl rfl (by unfold vp_in; decide) dX9_copyFrom_38 ?_
  refine hz_ev 0 rfl ?_
  refine va_iast hx hb hK hP hD hS 3 0 rfl rfl (by unfold vp_in; decide) dX9_copyFrom_39 (fun H locs hP hD hS => ?_)
  have hP : va_P D classes [(a, .inr (9, [.int 0, .int 0, .int 0, .ref (q 0), .ref (q 1), .ref (q 2), .ref (q 3)])), (b, .inr (9, [.int 0, .int 0, .int 0, .ref (z 0), .ref (z 1), .ref (z 2), .ref (z 3)])), (q 1, .inl (cs 0, 12, .inl f_4)), (q 2, .inl (cs 0, 12, .inl (upd f_2 (Int32.toNatClampNeg (1 : Int32)) (0 : Int32)))), (q 3, .inl (cs 2, 12, .inl f_3)), (z 1, .inl (cs 0, 12, .inl (fun _ => 0))), (z 2, .inl (cs 0, 12, .inl (fun _ => 0))), (z 3, .inl (cs 2, 12, .inl (fun _ => 0)))] H := hP
  have hD : va_D A [(a, .inr (9, [.int 0, .int 0, .int 0, .ref (q 0), .ref (q 1), .ref (q 2), .ref (q 3)])), (b, .inr (9, [.int 0, .int 0, .int 0, .ref (z 0), .ref (z 1), .ref (z 2), .ref (z 3)])), (q 1, .inl (cs 0, 12, .inl f_4)), (q 2, .inl (cs 0, 12, .inl (upd f_2 (Int32.toNatClampNeg (1 : Int32)) (0 : Int32)))), (q 3, .inl (cs 2, 12, .inl f_3)), (z 1, .inl (cs 0, 12, .inl (fun _ => 0))), (z 2, .inl (cs 0, 12, .inl (fun _ => 0))), (z 3, .inl (cs 2, 12, .inl (fun _ => 0)))] := hD
  generalize upd f_2 (Int32.toNatClampNeg (1 : Int32)) (0 : Int32) = f_5 at hP hD
  refine lv_aload_n hx hb dX9_copyFrom_40 rfl (lv_at hl 1 rfl) ?_
  refine va_get (D := D) (ci := 9) (v := .ref (q 3)) (C := RX9) (T := TX9) (N := 7) hx hb hT i_X9 hown hK hP 0 rfl rfl 6 (by decide) (hT _ q_32) (fun _ h9 => h9) rfl dX9_copyFrom_41 ?_
  refine lv_iload_n hx hb dX9_copyFrom_44 rfl (lv_at hl 0 rfl) ?_
  refine lv_aload_n hx hb dX9_copyFrom_45 rfl (lv_at hl 2 rfl) ?_
  refine va_get (D := D) (ci := 9) (v := .ref (z 3)) (C := RX9) (T := TX9) (N := 7) hx hb hT i_X9 hown hK hP 1 rfl rfl 6 (by decide) (hT _ q_32) (fun _ h9 => h9) rfl dX9_copyFrom_46 ?_
  refine lv_iload_n hx hb dX9_copyFrom_49 rfl (lv_at hl 0 rfl) ?_
  refine va_zald hx hb hK hP 7 2 rfl rfl (by unfold vp_in; decide) dX9_copyFrom_50 ?_
  refine hz_ev 0 rfl ?_
  refine va_zast hx hb hK hP hD hS 4 2 rfl rfl (by unfold vp_in; decide) dX9_copyFrom_51 (fun H locs hP hD hS => ?_)
  have hP : va_P D classes [(a, .inr (9, [.int 0, .int 0, .int 0, .ref (q 0), .ref (q 1), .ref (q 2), .ref (q 3)])), (b, .inr (9, [.int 0, .int 0, .int 0, .ref (z 0), .ref (z 1), .ref (z 2), .ref (z 3)])), (q 1, .inl (cs 0, 12, .inl f_4)), (q 2, .inl (cs 0, 12, .inl f_5)), (q 3, .inl (cs 2, 12, .inl (upd f_3 (Int32.toNatClampNeg (1 : Int32)) (vp_nar .boolean (0 : Int32))))), (z 1, .inl (cs 0, 12, .inl (fun _ => 0))), (z 2, .inl (cs 0, 12, .inl (fun _ => 0))), (z 3, .inl (cs 2, 12, .inl (fun _ => 0)))] H := hP
  have hD : va_D A [(a, .inr (9, [.int 0, .int 0, .int 0, .ref (q 0), .ref (q 1), .ref (q 2), .ref (q 3)])), (b, .inr (9, [.int 0, .int 0, .int 0, .ref (z 0), .ref (z 1), .ref (z 2), .ref (z 3)])), (q 1, .inl (cs 0, 12, .inl f_4)), (q 2, .inl (cs 0, 12, .inl f_5)), (q 3, .inl (cs 2, 12, .inl (upd f_3 (Int32.toNatClampNeg (1 : Int32)) (vp_nar .boolean (0 : Int32))))), (z 1, .inl (cs 0, 12, .inl (fun _ => 0))), (z 2, .inl (cs 0, 12, .inl (fun _ => 0))), (z 3, .inl (cs 2, 12, .inl (fun _ => 0)))] := hD
  generalize upd f_3 (Int32.toNatClampNeg (1 : Int32)) (vp_nar .boolean (0 : Int32)) = f_6 at hP hD
  refine lv_iinc (v := 2) (lv' := [(2, .int 2), (0, .ref a), (1, .ref b)]) hx hb dX9_copyFrom_52 hl (k := 0) rfl (by decide) (by decide) rfl (fun ls hl => ?_)
  refine lv_goto (tgt := 10) hx hb dX9_copyFrom_55 (by decide) ?_
  refine lv_iload_n hx hb dX9_copyFrom_10 rfl (lv_at hl 0 rfl) ?_
  refine lv_bipush (v := 12) hx hb dX9_copyFrom_11 (by decide) ?_
  refine lv_icmp_ge (tgt := 58) hx hb dX9_copyFrom_13 (by decide) (fun z => absurd z (by decide)) (fun _ => ?_)
  refine lv_aload_n hx hb dX9_copyFrom_16 rfl (lv_at hl 1 rfl) ?_
  refine va_get (D := D) (ci := 9) (v := .ref (q 1)) (C := RX9) (T := TX9) (N := 7) hx hb hT i_X9 hown hK hP 0 rfl rfl 4 (by decide) (hT _ q_29) (fun _ h9 => h9) rfl dX9_copyFrom_17 ?_
  refine lv_iload_n hx hb dX9_copyFrom_20 rfl (lv_at hl 0 rfl) ?_
  refine lv_aload_n hx hb dX9_copyFrom_21 rfl (lv_at hl 2 rfl) ?_
  refine va_get (D := D) (ci := 9) (v := .ref (z 1)) (C := RX9) (T := TX9) (N := 7) hx hb hT i_X9 hown hK hP 1 rfl rfl 4 (by decide) (hT _ q_29) (fun _ h9 => h9) rfl dX9_copyFrom_22 ?_
  refine lv_iload_n hx hb dX9_copyFrom_25 rfl (lv_at hl 0 rfl) ?_
  refine va_iald hx hb hK hP 5 0 rfl rfl (by unfold vp_in; decide) dX9_copyFrom_26 ?_
  refine hz_ev 0 rfl ?_
  refine va_iast hx hb hK hP hD hS 2 0 rfl rfl (by unfold vp_in; decide) dX9_copyFrom_27 (fun H locs hP hD hS => ?_)
  have hP : va_P D classes [(a, .inr (9, [.int 0, .int 0, .int 0, .ref (q 0), .ref (q 1), .ref (q 2), .ref (q 3)])), (b, .inr (9, [.int 0, .int 0, .int 0, .ref (z 0), .ref (z 1), .ref (z 2), .ref (z 3)])), (q 1, .inl (cs 0, 12, .inl (upd f_4 (Int32.toNatClampNeg (2 : Int32)) (0 : Int32)))), (q 2, .inl (cs 0, 12, .inl f_5)), (q 3, .inl (cs 2, 12, .inl f_6)), (z 1, .inl (cs 0, 12, .inl (fun _ => 0))), (z 2, .inl (cs 0, 12, .inl (fun _ => 0))), (z 3, .inl (cs 2, 12, .inl (fun _ => 0)))] H := hP
  have hD : va_D A [(a, .inr (9, [.int 0, .int 0, .int 0, .ref (q 0), .ref (q 1), .ref (q 2), .ref (q 3)])), (b, .inr (9, [.int 0, .int 0, .int 0, .ref (z 0), .ref (z 1), .ref (z 2), .ref (z 3)])), (q 1, .inl (cs 0, 12, .inl (upd f_4 (Int32.toNatClampNeg (2 : Int32)) (0 : Int32)))), (q 2, .inl (cs 0, 12, .inl f_5)), (q 3, .inl (cs 2, 12, .inl f_6)), (z 1, .inl (cs 0, 12, .inl (fun _ => 0))), (z 2, .inl (cs 0, 12, .inl (fun _ => 0))), (z 3, .inl (cs 2, 12, .inl (fun _ => 0)))] := hD
  generalize upd f_4 (Int32.toNatClampNeg (2 : Int32)) (0 : Int32) = f_7 at hP hD
  refine lv_aload_n hx hb dX9_copyFrom_28 rfl (lv_at hl 1 rfl) ?_
  refine va_get (D := D) (ci := 9) (v := .ref (q 2)) (C := RX9) (T := TX9) (N := 7) hx hb hT i_X9 hown hK hP 0 rfl rfl 5 (by decide) (hT _ q_30) (fun _ h9 => h9) rfl dX9_copyFrom_29 ?_
  refine lv_iload_n hx hb dX9_copyFrom_32 rfl (lv_at hl 0 rfl) ?_
  refine lv_aload_n hx hb dX9_copyFrom_33 rfl (lv_at hl 2 rfl) ?_
  refine va_get (D := D) (ci := 9) (v := .ref (z 2)) (C := RX9) (T := TX9) (N := 7) hx hb hT i_X9 hown hK hP 1 rfl rfl 5 (by decide) (hT _ q_30) (fun _ h9 => h9) rfl dX9_copyFrom_34 ?_
  refine lv_iload_n hx hb dX9_copyFrom_37 rfl (lv_at hl 0 rfl) ?_
  refine va_iald hx hb hK hP 6 0 rfl rfl (by unfold vp_in; decide) dX9_copyFrom_38 ?_
  refine hz_ev 0 rfl ?_
  refine va_iast hx hb hK hP hD hS 3 0 rfl rfl (by unfold vp_in; decide) dX9_copyFrom_39 (fun H locs hP hD hS => ?_)
  have hP : va_P D classes [(a, .inr (9, [.int 0, .int 0, .int 0, .ref (q 0), .ref (q 1), .ref (q 2), .ref (q 3)])), (b, .inr (9, [.int 0, .int 0, .int 0, .ref (z 0), .ref (z 1), .ref (z 2), .ref (z 3)])), (q 1, .inl (cs 0, 12, .inl f_7)), (q 2, .inl (cs 0, 12, .inl (upd f_5 (Int32.toNatClampNeg (2 : Int32)) (0 : Int32)))), (q 3, .inl (cs 2, 12, .inl f_6)), (z 1, .inl (cs 0, 12, .inl (fun _ => 0))), (z 2, .inl (cs 0, 12, .inl (fun _ => 0))), (z 3, .inl (cs 2, 12, .inl (fun _ => 0)))] H := hP
  have hD : va_D A [(a, .inr (9, [.int 0, .int 0, .int 0, .ref (q 0), .ref (q 1), .ref (q 2), .ref (q 3)])), (b, .inr (9, [.int 0, .int 0, .int 0, .ref (z 0), .ref (z 1), .ref (z 2), .ref (z 3)])), (q 1, .inl (cs 0, 12, .inl f_7)), (q 2, .inl (cs 0, 12, .inl (upd f_5 (Int32.toNatClampNeg (2 : Int32)) (0 : Int32)))), (q 3, .inl (cs 2, 12, .inl f_6)), (z 1, .inl (cs 0, 12, .inl (fun _ => 0))), (z 2, .inl (cs 0, 12, .inl (fun _ => 0))), (z 3, .inl (cs 2, 12, .inl (fun _ => 0)))] := hD
  generalize upd f_5 (Int32.toNatClampNeg (2 : Int32)) (0 : Int32) = f_8 at hP hD
  refine lv_aload_n hx hb dX9_copyFrom_40 rfl (lv_at hl 1 rfl) ?_
  refine va_get (D := D) (ci := 9) (v := .ref (q 3)) (C := RX9) (T := TX9) (N := 7) hx hb hT i_X9 hown hK hP 0 rfl rfl 6 (by decide) (hT _ q_32) (fun _ h9 => h9) rfl dX9_copyFrom_41 ?_
  refine lv_iload_n hx hb dX9_copyFrom_44 rfl (lv_at hl 0 rfl) ?_
  refine lv_aload_n hx hb dX9_copyFrom_45 rfl (lv_at hl 2 rfl) ?_
  refine va_get (D := D) (ci := 9) (v := .ref (z 3)) (C := RX9) (T := TX9) (N := 7) hx hb hT i_X9 hown hK hP 1 rfl rfl 6 (by decide) (hT _ q_32) (fun _ h9 => h9) rfl dX9_copyFrom_46 ?_
  refine lv_iload_n hx hb dX9_copyFrom_49 rfl (lv_at hl 0 rfl) ?_
  refine va_zald hx hb hK hP 7 2 rfl rfl (by unfold vp_in; decide) dX9_copyFrom_50 ?_
  refine hz_ev 0 rfl ?_
  refine va_zast hx hb hK hP hD hS 4 2 rfl rfl (by unfold vp_in; decide) dX9_copyFrom_51 (fun H locs hP hD hS => ?_)
  have hP : va_P D classes [(a, .inr (9, [.int 0, .int 0, .int 0, .ref (q 0), .ref (q 1), .ref (q 2), .ref (q 3)])), (b, .inr (9, [.int 0, .int 0, .int 0, .ref (z 0), .ref (z 1), .ref (z 2), .ref (z 3)])), (q 1, .inl (cs 0, 12, .inl f_7)), (q 2, .inl (cs 0, 12, .inl f_8)), (q 3, .inl (cs 2, 12, .inl (upd f_6 (Int32.toNatClampNeg (2 : Int32)) (vp_nar .boolean (0 : Int32))))), (z 1, .inl (cs 0, 12, .inl (fun _ => 0))), (z 2, .inl (cs 0, 12, .inl (fun _ => 0))), (z 3, .inl (cs 2, 12, .inl (fun _ => 0)))] H := hP
  have hD : va_D A [(a, .inr (9, [.int 0, .int 0, .int 0, .ref (q 0), .ref (q 1), .ref (q 2), .ref (q 3)])), (b, .inr (9, [.int 0, .int 0, .int 0, .ref (z 0), .ref (z 1), .ref (z 2), .ref (z 3)])), (q 1, .inl (cs 0, 12, .inl f_7)), (q 2, .inl (cs 0, 12, .inl f_8)), (q 3, .inl (cs 2, 12, .inl (upd f_6 (Int32.toNatClampNeg (2 : Int32)) (vp_nar .boolean (0 : Int32))))), (z 1, .inl (cs 0, 12, .inl (fun _ => 0))), (z 2, .inl (cs 0, 12, .inl (fun _ => 0))), (z 3, .inl (cs 2, 12, .inl (fun _ => 0)))] := hD
  generalize upd f_6 (Int32.toNatClampNeg (2 : Int32)) (vp_nar .boolean (0 : Int32)) = f_9 at hP hD
  refine lv_iinc (v := 3) (lv' := [(2, .int 3), (0, .ref a), (1, .ref b)]) hx hb dX9_copyFrom_52 hl (k := 0) rfl (by decide) (by decide) rfl (fun ls hl => ?_)
  refine lv_goto (tgt := 10) hx hb dX9_copyFrom_55 (by decide) ?_
  refine lv_iload_n hx hb dX9_copyFrom_10 rfl (lv_at hl 0 rfl) ?_
  refine lv_bipush (v := 12) hx hb dX9_copyFrom_11 (by decide) ?_
  refine lv_icmp_ge (tgt := 58) hx hb dX9_copyFrom_13 (by decide) (fun z => absurd z (by decide)) (fun _ => ?_)
  refine lv_aload_n hx hb dX9_copyFrom_16 rfl (lv_at hl 1 rfl) ?_
  refine va_get (D := D) (ci := 9) (v := .ref (q 1)) (C := RX9) (T := TX9) (N := 7) hx hb hT i_X9 hown hK hP 0 rfl rfl 4 (by decide) (hT _ q_29) (fun _ h9 => h9) rfl dX9_copyFrom_17 ?_
  refine lv_iload_n hx hb dX9_copyFrom_20 rfl (lv_at hl 0 rfl) ?_
  refine lv_aload_n hx hb dX9_copyFrom_21 rfl (lv_at hl 2 rfl) ?_
  refine va_get (D := D) (ci := 9) (v := .ref (z 1)) (C := RX9) (T := TX9) (N := 7) hx hb hT i_X9 hown hK hP 1 rfl rfl 4 (by decide) (hT _ q_29) (fun _ h9 => h9) rfl dX9_copyFrom_22 ?_
  refine lv_iload_n hx hb dX9_copyFrom_25 rfl (lv_at hl 0 rfl) ?_
  refine va_iald hx hb hK hP 5 0 rfl rfl (by unfold vp_in; decide) dX9_copyFrom_26 ?_
  refine hz_ev 0 rfl ?_
  refine va_iast hx hb hK hP hD hS 2 0 rfl rfl (by unfold vp_in; decide) dX9_copyFrom_27 (fun H locs hP hD hS => ?_)
  have hP : va_P D classes [(a, .inr (9, [.int 0, .int 0, .int 0, .ref (q 0), .ref (q 1), .ref (q 2), .ref (q 3)])), (b, .inr (9, [.int 0, .int 0, .int 0, .ref (z 0), .ref (z 1), .ref (z 2), .ref (z 3)])), (q 1, .inl (cs 0, 12, .inl (upd f_7 (Int32.toNatClampNeg (3 : Int32)) (0 : Int32)))), (q 2, .inl (cs 0, 12, .inl f_8)), (q 3, .inl (cs 2, 12, .inl f_9)), (z 1, .inl (cs 0, 12, .inl (fun _ => 0))), (z 2, .inl (cs 0, 12, .inl (fun _ => 0))), (z 3, .inl (cs 2, 12, .inl (fun _ => 0)))] H := hP
  have hD : va_D A [(a, .inr (9, [.int 0, .int 0, .int 0, .ref (q 0), .ref (q 1), .ref (q 2), .ref (q 3)])), (b, .inr (9, [.int 0, .int 0, .int 0, .ref (z 0), .ref (z 1), .ref (z 2), .ref (z 3)])), (q 1, .inl (cs 0, 12, .inl (upd f_7 (Int32.toNatClampNeg (3 : Int32)) (0 : Int32)))), (q 2, .inl (cs 0, 12, .inl f_8)), (q 3, .inl (cs 2, 12, .inl f_9)), (z 1, .inl (cs 0, 12, .inl (fun _ => 0))), (z 2, .inl (cs 0, 12, .inl (fun _ => 0))), (z 3, .inl (cs 2, 12, .inl (fun _ => 0)))] := hD
  generalize upd f_7 (Int32.toNatClampNeg (3 : Int32)) (0 : Int32) = f_10 at hP hD
  refine lv_aload_n hx hb dX9_copyFrom_28 rfl (lv_at hl 1 rfl) ?_
  refine va_get (D := D) (ci := 9) (v := .ref (q 2)) (C := RX9) (T := TX9) (N := 7) hx hb hT i_X9 hown hK hP 0 rfl rfl 5 (by decide) (hT _ q_30) (fun _ h9 => h9) rfl dX9_copyFrom_29 ?_
  refine lv_iload_n hx hb dX9_copyFrom_32 rfl (lv_at hl 0 rfl) ?_
  refine lv_aload_n hx hb dX9_copyFrom_33 rfl (lv_at hl 2 rfl) ?_
  refine va_get (D := D) (ci := 9) (v := .ref (z 2)) (C := RX9) (T := TX9) (N := 7) hx hb hT i_X9 hown hK hP 1 rfl rfl 5 (by decide) (hT _ q_30) (fun _ h9 => h9) rfl dX9_copyFrom_34 ?_
  refine lv_iload_n hx hb dX9_copyFrom_37 rfl (lv_at hl 0 rfl) ?_
  refine va_iald hx hb hK hP 6 0 rfl rfl (by unfold vp_in; decide) dX9_copyFrom_38 ?_
  refine hz_ev 0 rfl ?_
  refine va_iast hx hb hK hP hD hS 3 0 rfl rfl (by unfold vp_in; decide) dX9_copyFrom_39 (fun H locs hP hD hS => ?_)
  have hP : va_P D classes [(a, .inr (9, [.int 0, .int 0, .int 0, .ref (q 0), .ref (q 1), .ref (q 2), .ref (q 3)])), (b, .inr (9, [.int 0, .int 0, .int 0, .ref (z 0), .ref (z 1), .ref (z 2), .ref (z 3)])), (q 1, .inl (cs 0, 12, .inl f_10)), (q 2, .inl (cs 0, 12, .inl (upd f_8 (Int32.toNatClampNeg (3 : Int32)) (0 : Int32)))), (q 3, .inl (cs 2, 12, .inl f_9)), (z 1, .inl (cs 0, 12, .inl (fun _ => 0))), (z 2, .inl (cs 0, 12, .inl (fun _ => 0))), (z 3, .inl (cs 2, 12, .inl (fun _ => 0)))] H := hP
  have hD : va_D A [(a, .inr (9, [.int 0, .int 0, .int 0, .ref (q 0), .ref (q 1), .ref (q 2), .ref (q 3)])), (b, .inr (9, [.int 0, .int 0, .int 0, .ref (z 0), .ref (z 1), .ref (z 2), .ref (z 3)])), (q 1, .inl (cs 0, 12, .inl f_10)), (q 2, .inl (cs 0, 12, .inl (upd f_8 (Int32.toNatClampNeg (3 : Int32)) (0 : Int32)))), (q 3, .inl (cs 2, 12, .inl f_9)), (z 1, .inl (cs 0, 12, .inl (fun _ => 0))), (z 2, .inl (cs 0, 12, .inl (fun _ => 0))), (z 3, .inl (cs 2, 12, .inl (fun _ => 0)))] := hD
  generalize upd f_8 (Int32.toNatClampNeg (3 : Int32)) (0 : Int32) = f_11 at hP hD
  refine lv_aload_n hx hb dX9_copyFrom_40 rfl (lv_at hl 1 rfl) ?_
  refine va_get (D := D) (ci := 9) (v := .ref (q 3)) (C := RX9) (T := TX9) (N := 7) hx hb hT i_X9 hown hK hP 0 rfl rfl 6 (by decide) (hT _ q_32) (fun _ h9 => h9) rfl dX9_copyFrom_41 ?_
  refine lv_iload_n hx hb dX9_copyFrom_44 rfl (lv_at hl 0 rfl) ?_
  refine lv_aload_n hx hb dX9_copyFrom_45 rfl (lv_at hl 2 rfl) ?_
  refine va_get (D := D) (ci := 9) (v := .ref (z 3)) (C := RX9) (T := TX9) (N := 7) hx hb hT i_X9 hown hK hP 1 rfl rfl 6 (by decide) (hT _ q_32) (fun _ h9 => h9) rfl dX9_copyFrom_46 ?_
  refine lv_iload_n hx hb dX9_copyFrom_49 rfl (lv_at hl 0 rfl) ?_
  refine va_zald hx hb hK hP 7 2 rfl rfl (by unfold vp_in; decide) dX9_copyFrom_50 ?_
  refine hz_ev 0 rfl ?_
  refine va_zast hx hb hK hP hD hS 4 2 rfl rfl (by unfold vp_in; decide) dX9_copyFrom_51 (fun H locs hP hD hS => ?_)
  have hP : va_P D classes [(a, .inr (9, [.int 0, .int 0, .int 0, .ref (q 0), .ref (q 1), .ref (q 2), .ref (q 3)])), (b, .inr (9, [.int 0, .int 0, .int 0, .ref (z 0), .ref (z 1), .ref (z 2), .ref (z 3)])), (q 1, .inl (cs 0, 12, .inl f_10)), (q 2, .inl (cs 0, 12, .inl f_11)), (q 3, .inl (cs 2, 12, .inl (upd f_9 (Int32.toNatClampNeg (3 : Int32)) (vp_nar .boolean (0 : Int32))))), (z 1, .inl (cs 0, 12, .inl (fun _ => 0))), (z 2, .inl (cs 0, 12, .inl (fun _ => 0))), (z 3, .inl (cs 2, 12, .inl (fun _ => 0)))] H := hP
  have hD : va_D A [(a, .inr (9, [.int 0, .int 0, .int 0, .ref (q 0), .ref (q 1), .ref (q 2), .ref (q 3)])), (b, .inr (9, [.int 0, .int 0, .int 0, .ref (z 0), .ref (z 1), .ref (z 2), .ref (z 3)])), (q 1, .inl (cs 0, 12, .inl f_10)), (q 2, .inl (cs 0, 12, .inl f_11)), (q 3, .inl (cs 2, 12, .inl (upd f_9 (Int32.toNatClampNeg (3 : Int32)) (vp_nar .boolean (0 : Int32))))), (z 1, .inl (cs 0, 12, .inl (fun _ => 0))), (z 2, .inl (cs 0, 12, .inl (fun _ => 0))), (z 3, .inl (cs 2, 12, .inl (fun _ => 0)))] := hD
  generalize upd f_9 (Int32.toNatClampNeg (3 : Int32)) (vp_nar .boolean (0 : Int32)) = f_12 at hP hD
  refine lv_iinc (v := 4) (lv' := [(2, .int 4), (0, .ref a), (1, .ref b)]) hx hb dX9_copyFrom_52 hl (k := 0) rfl (by decide) (by decide) rfl (fun ls hl => ?_)
  refine lv_goto (tgt := 10) hx hb dX9_copyFrom_55 (by decide) ?_
  refine lv_iload_n hx hb dX9_copyFrom_10 rfl (lv_at hl 0 rfl) ?_
  refine lv_bipush (v := 12) hx hb dX9_copyFrom_11 (by decide) ?_
  refine lv_icmp_ge (tgt := 58) hx hb dX9_copyFrom_13 (by decide) (fun z => absurd z (by decide)) (fun _ => ?_)
  refine lv_aload_n hx hb dX9_copyFrom_16 rfl (lv_at hl 1 rfl) ?_
  refine va_get (D := D) (ci := 9) (v := .ref (q 1)) (C := RX9) (T := TX9) (N := 7) hx hb hT i_X9 hown hK hP 0 rfl rfl 4 (by decide) (hT _ q_29) (fun _ h9 => h9) rfl dX9_copyFrom_17 ?_
  refine lv_iload_n hx hb dX9_copyFrom_20 rfl (lv_at hl 0 rfl) ?_
  refine lv_aload_n hx hb dX9_copyFrom_21 rfl (lv_at hl 2 rfl) ?_
  refine va_get (D := D) (ci := 9) (v := .ref (z 1)) (C := RX9) (T := TX9) (N := 7) hx hb hT i_X9 hown hK hP 1 rfl rfl 4 (by decide) (hT _ q_29) (fun _ h9 => h9) rfl dX9_copyFrom_22 ?_
  refine lv_iload_n hx hb dX9_copyFrom_25 rfl (lv_at hl 0 rfl) ?_
  refine va_iald hx hb hK hP 5 0 rfl rfl (by unfold vp_in; decide) dX9_copyFrom_26 ?_
  refine hz_ev 0 rfl ?_
  refine va_iast hx hb hK hP hD hS 2 0 rfl rfl (by unfold vp_in; decide) dX9_copyFrom_27 (fun H locs hP hD hS => ?_)
  have hP : va_P D classes [(a, .inr (9, [.int 0, .int 0, .int 0, .ref (q 0), .ref (q 1), .ref (q 2), .ref (q 3)])), (b, .inr (9, [.int 0, .int 0, .int 0, .ref (z 0), .ref (z 1), .ref (z 2), .ref (z 3)])), (q 1, .inl (cs 0, 12, .inl (upd f_10 (Int32.toNatClampNeg (4 : Int32)) (0 : Int32)))), (q 2, .inl (cs 0, 12, .inl f_11)), (q 3, .inl (cs 2, 12, .inl f_12)), (z 1, .inl (cs 0, 12, .inl (fun _ => 0))), (z 2, .inl (cs 0, 12, .inl (fun _ => 0))), (z 3, .inl (cs 2, 12, .inl (fun _ => 0)))] H := hP
  have hD : va_D A [(a, .inr (9, [.int 0, .int 0, .int 0, .ref (q 0), .ref (q 1), .ref (q 2), .ref (q 3)])), (b, .inr (9, [.int 0, .int 0, .int 0, .ref (z 0), .ref (z 1), .ref (z 2), .ref (z 3)])), (q 1, .inl (cs 0, 12, .inl (upd f_10 (Int32.toNatClampNeg (4 : Int32)) (0 : Int32)))), (q 2, .inl (cs 0, 12, .inl f_11)), (q 3, .inl (cs 2, 12, .inl f_12)), (z 1, .inl (cs 0, 12, .inl (fun _ => 0))), (z 2, .inl (cs 0, 12, .inl (fun _ => 0))), (z 3, .inl (cs 2, 12, .inl (fun _ => 0)))] := hD
  generalize upd f_10 (Int32.toNatClampNeg (4 : Int32)) (0 : Int32) = f_13 at hP hD
  refine lv_aload_n hx hb dX9_copyFrom_28 rfl (lv_at hl 1 rfl) ?_
  refine va_get (D := D) (ci := 9) (v := .ref (q 2)) (C := RX9) (T := TX9) (N := 7) hx hb hT i_X9 hown hK hP 0 rfl rfl 5 (by decide) (hT _ q_30) (fun _ h9 => h9) rfl dX9_copyFrom_29 ?_
  refine lv_iload_n hx hb dX9_copyFrom_32 rfl (lv_at hl 0 rfl) ?_
  refine lv_aload_n hx hb dX9_copyFrom_33 rfl (lv_at hl 2 rfl) ?_
  refine va_get (D := D) (ci := 9) (v := .ref (z 2)) (C := RX9) (T := TX9) (N := 7) hx hb hT i_X9 hown hK hP 1 rfl rfl 5 (by decide) (hT _ q_30) (fun _ h9 => h9) rfl dX9_copyFrom_34 ?_
  refine lv_iload_n hx hb dX9_copyFrom_37 rfl (lv_at hl 0 rfl) ?_
  refine va_iald hx hb hK hP 6 0 rfl rfl (by unfold vp_in; decide) dX9_copyFrom_38 ?_
  refine hz_ev 0 rfl ?_
  refine va_iast hx hb hK hP hD hS 3 0 rfl rfl (by unfold vp_in; decide) dX9_copyFrom_39 (fun H locs hP hD hS => ?_)
  have hP : va_P D classes [(a, .inr (9, [.int 0, .int 0, .int 0, .ref (q 0), .ref (q 1), .ref (q 2), .ref (q 3)])), (b, .inr (9, [.int 0, .int 0, .int 0, .ref (z 0), .ref (z 1), .ref (z 2), .ref (z 3)])), (q 1, .inl (cs 0, 12, .inl f_13)), (q 2, .inl (cs 0, 12, .inl (upd f_11 (Int32.toNatClampNeg (4 : Int32)) (0 : Int32)))), (q 3, .inl (cs 2, 12, .inl f_12)), (z 1, .inl (cs 0, 12, .inl (fun _ => 0))), (z 2, .inl (cs 0, 12, .inl (fun _ => 0))), (z 3, .inl (cs 2, 12, .inl (fun _ => 0)))] H := hP
  have hD : va_D A [(a, .inr (9, [.int 0, .int 0, .int 0, .ref (q 0), .ref (q 1), .ref (q 2), .ref (q 3)])), (b, .inr (9, [.int 0, .int 0, .int 0, .ref (z 0), .ref (z 1), .ref (z 2), .ref (z 3)])), (q 1, .inl (cs 0, 12, .inl f_13)), (q 2, .inl (cs 0, 12, .inl (upd f_11 (Int32.toNatClampNeg (4 : Int32)) (0 : Int32)))), (q 3, .inl (cs 2, 12, .inl f_12)), (z 1, .inl (cs 0, 12, .inl (fun _ => 0))), (z 2, .inl (cs 0, 12, .inl (fun _ => 0))), (z 3, .inl (cs 2, 12, .inl (fun _ => 0)))] := hD
  generalize upd f_11 (Int32.toNatClampNeg (4 : Int32)) (0 : Int32) = f_14 at hP hD
  refine lv_aload_n hx hb dX9_copyFrom_40 rfl (lv_at hl 1 rfl) ?_
  refine va_get (D := D) (ci := 9) (v := .ref (q 3)) (C := RX9) (T := TX9) (N := 7) hx hb hT i_X9 hown hK hP 0 rfl rfl 6 (by decide) (hT _ q_32) (fun _ h9 => h9) rfl dX9_copyFrom_41 ?_
  refine lv_iload_n hx hb dX9_copyFrom_44 rfl (lv_at hl 0 rfl) ?_
  refine lv_aload_n hx hb dX9_copyFrom_45 rfl (lv_at hl 2 rfl) ?_
  refine va_get (D := D) (ci := 9) (v := .ref (z 3)) (C := RX9) (T := TX9) (N := 7) hx hb hT i_X9 hown hK hP 1 rfl rfl 6 (by decide) (hT _ q_32) (fun _ h9 => h9) rfl dX9_copyFrom_46 ?_
  refine lv_iload_n hx hb dX9_copyFrom_49 rfl (lv_at hl 0 rfl) ?_
  refine va_zald hx hb hK hP 7 2 rfl rfl (by unfold vp_in; decide) dX9_copyFrom_50 ?_
  refine hz_ev 0 rfl ?_
  refine va_zast hx hb hK hP hD hS 4 2 rfl rfl (by unfold vp_in; decide) dX9_copyFrom_51 (fun H locs hP hD hS => ?_)
  have hP : va_P D classes [(a, .inr (9, [.int 0, .int 0, .int 0, .ref (q 0), .ref (q 1), .ref (q 2), .ref (q 3)])), (b, .inr (9, [.int 0, .int 0, .int 0, .ref (z 0), .ref (z 1), .ref (z 2), .ref (z 3)])), (q 1, .inl (cs 0, 12, .inl f_13)), (q 2, .inl (cs 0, 12, .inl f_14)), (q 3, .inl (cs 2, 12, .inl (upd f_12 (Int32.toNatClampNeg (4 : Int32)) (vp_nar .boolean (0 : Int32))))), (z 1, .inl (cs 0, 12, .inl (fun _ => 0))), (z 2, .inl (cs 0, 12, .inl (fun _ => 0))), (z 3, .inl (cs 2, 12, .inl (fun _ => 0)))] H := hP
  have hD : va_D A [(a, .inr (9, [.int 0, .int 0, .int 0, .ref (q 0), .ref (q 1), .ref (q 2), .ref (q 3)])), (b, .inr (9, [.int 0, .int 0, .int 0, .ref (z 0), .ref (z 1), .ref (z 2), .ref (z 3)])), (q 1, .inl (cs 0, 12, .inl f_13)), (q 2, .inl (cs 0, 12, .inl f_14)), (q 3, .inl (cs 2, 12, .inl (upd f_12 (Int32.toNatClampNeg (4 : Int32)) (vp_nar .boolean (0 : Int32))))), (z 1, .inl (cs 0, 12, .inl (fun _ => 0))), (z 2, .inl (cs 0, 12, .inl (fun _ => 0))), (z 3, .inl (cs 2, 12, .inl (fun _ => 0)))] := hD
  generalize upd f_12 (Int32.toNatClampNeg (4 : Int32)) (vp_nar .boolean (0 : Int32)) = f_15 at hP hD
  refine lv_iinc (v := 5) (lv' := [(2, .int 5), (0, .ref a), (1, .ref b)]) hx hb dX9_copyFrom_52 hl (k := 0) rfl (by decide) (by decide) rfl (fun ls hl => ?_)
  refine lv_goto (tgt := 10) hx hb dX9_copyFrom_55 (by decide) ?_
  refine lv_iload_n hx hb dX9_copyFrom_10 rfl (lv_at hl 0 rfl) ?_
  refine lv_bipush (v := 12) hx hb dX9_copyFrom_11 (by decide) ?_
  refine lv_icmp_ge (tgt := 58) hx hb dX9_copyFrom_13 (by decide) (fun z => absurd z (by decide)) (fun _ => ?_)
  refine lv_aload_n hx hb dX9_copyFrom_16 rfl (lv_at hl 1 rfl) ?_
  refine va_get (D := D) (ci := 9) (v := .ref (q 1)) (C := RX9) (T := TX9) (N := 7) hx hb hT i_X9 hown hK hP 0 rfl rfl 4 (by decide) (hT _ q_29) (fun _ h9 => h9) rfl dX9_copyFrom_17 ?_
  refine lv_iload_n hx hb dX9_copyFrom_20 rfl (lv_at hl 0 rfl) ?_
  refine lv_aload_n hx hb dX9_copyFrom_21 rfl (lv_at hl 2 rfl) ?_
  refine va_get (D := D) (ci := 9) (v := .ref (z 1)) (C := RX9) (T := TX9) (N := 7) hx hb hT i_X9 hown hK hP 1 rfl rfl 4 (by decide) (hT _ q_29) (fun _ h9 => h9) rfl dX9_copyFrom_22 ?_
  refine lv_iload_n hx hb dX9_copyFrom_25 rfl (lv_at hl 0 rfl) ?_
  refine va_iald hx hb hK hP 5 0 rfl rfl (by unfold vp_in; decide) dX9_copyFrom_26 ?_
  refine hz_ev 0 rfl ?_
  refine va_iast hx hb hK hP hD hS 2 0 rfl rfl (by unfold vp_in; decide) dX9_copyFrom_27 (fun H locs hP hD hS => ?_)
  have hP : va_P D classes [(a, .inr (9, [.int 0, .int 0, .int 0, .ref (q 0), .ref (q 1), .ref (q 2), .ref (q 3)])), (b, .inr (9, [.int 0, .int 0, .int 0, .ref (z 0), .ref (z 1), .ref (z 2), .ref (z 3)])), (q 1, .inl (cs 0, 12, .inl (upd f_13 (Int32.toNatClampNeg (5 : Int32)) (0 : Int32)))), (q 2, .inl (cs 0, 12, .inl f_14)), (q 3, .inl (cs 2, 12, .inl f_15)), (z 1, .inl (cs 0, 12, .inl (fun _ => 0))), (z 2, .inl (cs 0, 12, .inl (fun _ => 0))), (z 3, .inl (cs 2, 12, .inl (fun _ => 0)))] H := hP
  have hD : va_D A [(a, .inr (9, [.int 0, .int 0, .int 0, .ref (q 0), .ref (q 1), .ref (q 2), .ref (q 3)])), (b, .inr (9, [.int 0, .int 0, .int 0, .ref (z 0), .ref (z 1), .ref (z 2), .ref (z 3)])), (q 1, .inl (cs 0, 12, .inl (upd f_13 (Int32.toNatClampNeg (5 : Int32)) (0 : Int32)))), (q 2, .inl (cs 0, 12, .inl f_14)), (q 3, .inl (cs 2, 12, .inl f_15)), (z 1, .inl (cs 0, 12, .inl (fun _ => 0))), (z 2, .inl (cs 0, 12, .inl (fun _ => 0))), (z 3, .inl (cs 2, 12, .inl (fun _ => 0)))] := hD
  generalize upd f_13 (Int32.toNatClampNeg (5 : Int32)) (0 : Int32) = f_16 at hP hD
  refine lv_aload_n hx hb dX9_copyFrom_28 rfl (lv_at hl 1 rfl) ?_
  refine va_get (D := D) (ci := 9) (v := .ref (q 2)) (C := RX9) (T := TX9) (N := 7) hx hb hT i_X9 hown hK hP 0 rfl rfl 5 (by decide) (hT _ q_30) (fun _ h9 => h9) rfl dX9_copyFrom_29 ?_
  refine lv_iload_n hx hb dX9_copyFrom_32 rfl (lv_at hl 0 rfl) ?_
  refine lv_aload_n hx hb dX9_copyFrom_33 rfl (lv_at hl 2 rfl) ?_
  refine va_get (D := D) (ci := 9) (v := .ref (z 2)) (C := RX9) (T := TX9) (N := 7) hx hb hT i_X9 hown hK hP 1 rfl rfl 5 (by decide) (hT _ q_30) (fun _ h9 => h9) rfl dX9_copyFrom_34 ?_
  refine lv_iload_n hx hb dX9_copyFrom_37 rfl (lv_at hl 0 rfl) ?_
  refine va_iald hx hb hK hP 6 0 rfl rfl (by unfold vp_in; decide) dX9_copyFrom_38 ?_
  refine hz_ev 0 rfl ?_
  refine va_iast hx hb hK hP hD hS 3 0 rfl rfl (by unfold vp_in; decide) dX9_copyFrom_39 (fun H locs hP hD hS => ?_)
  have hP : va_P D classes [(a, .inr (9, [.int 0, .int 0, .int 0, .ref (q 0), .ref (q 1), .ref (q 2), .ref (q 3)])), (b, .inr (9, [.int 0, .int 0, .int 0, .ref (z 0), .ref (z 1), .ref (z 2), .ref (z 3)])), (q 1, .inl (cs 0, 12, .inl f_16)), (q 2, .inl (cs 0, 12, .inl (upd f_14 (Int32.toNatClampNeg (5 : Int32)) (0 : Int32)))), (q 3, .inl (cs 2, 12, .inl f_15)), (z 1, .inl (cs 0, 12, .inl (fun _ => 0))), (z 2, .inl (cs 0, 12, .inl (fun _ => 0))), (z 3, .inl (cs 2, 12, .inl (fun _ => 0)))] H := hP
  have hD : va_D A [(a, .inr (9, [.int 0, .int 0, .int 0, .ref (q 0), .ref (q 1), .ref (q 2), .ref (q 3)])), (b, .inr (9, [.int 0, .int 0, .int 0, .ref (z 0), .ref (z 1), .ref (z 2), .ref (z 3)])), (q 1, .inl (cs 0, 12, .inl f_16)), (q 2, .inl (cs 0, 12, .inl (upd f_14 (Int32.toNatClampNeg (5 : Int32)) (0 : Int32)))), (q 3, .inl (cs 2, 12, .inl f_15)), (z 1, .inl (cs 0, 12, .inl (fun _ => 0))), (z 2, .inl (cs 0, 12, .inl (fun _ => 0))), (z 3, .inl (cs 2, 12, .inl (fun _ => 0)))] := hD
  generalize upd f_14 (Int32.toNatClampNeg (5 : Int32)) (0 : Int32) = f_17 at hP hD
  refine lv_aload_n hx hb dX9_copyFrom_40 rfl (lv_at hl 1 rfl) ?_
  refine va_get (D := D) (ci := 9) (v := .ref (q 3)) (C := RX9) (T := TX9) (N := 7) hx hb hT i_X9 hown hK hP 0 rfl rfl 6 (by decide) (hT _ q_32) (fun _ h9 => h9) rfl dX9_copyFrom_41 ?_
  refine lv_iload_n hx hb dX9_copyFrom_44 rfl (lv_at hl 0 rfl) ?_
  refine lv_aload_n hx hb dX9_copyFrom_45 rfl (lv_at hl 2 rfl) ?_
  refine va_get (D := D) (ci := 9) (v := .ref (z 3)) (C := RX9) (T := TX9) (N := 7) hx hb hT i_X9 hown hK hP 1 rfl rfl 6 (by decide) (hT _ q_32) (fun _ h9 => h9) rfl dX9_copyFrom_46 ?_
  refine lv_iload_n hx hb dX9_copyFrom_49 rfl (lv_at hl 0 rfl) ?_
  refine va_zald hx hb hK hP 7 2 rfl rfl (by unfold vp_in; decide) dX9_copyFrom_50 ?_
  refine hz_ev 0 rfl ?_
  refine va_zast hx hb hK hP hD hS 4 2 rfl rfl (by unfold vp_in; decide) dX9_copyFrom_51 (fun H locs hP hD hS => ?_)
  have hP : va_P D classes [(a, .inr (9, [.int 0, .int 0, .int 0, .ref (q 0), .ref (q 1), .ref (q 2), .ref (q 3)])), (b, .inr (9, [.int 0, .int 0, .int 0, .ref (z 0), .ref (z 1), .ref (z 2), .ref (z 3)])), (q 1, .inl (cs 0, 12, .inl f_16)), (q 2, .inl (cs 0, 12, .inl f_17)), (q 3, .inl (cs 2, 12, .inl (upd f_15 (Int32.toNatClampNeg (5 : Int32)) (vp_nar .boolean (0 : Int32))))), (z 1, .inl (cs 0, 12, .inl (fun _ => 0))), (z 2, .inl (cs 0, 12, .inl (fun _ => 0))), (z 3, .inl (cs 2, 12, .inl (fun _ => 0)))] H := hP
  have hD : va_D A [(a, .inr (9, [.int 0, .int 0, .int 0, .ref (q 0), .ref (q 1), .ref (q 2), .ref (q 3)])), (b, .inr (9, [.int 0, .int 0, .int 0, .ref (z 0), .ref (z 1), .ref (z 2), .ref (z 3)])), (q 1, .inl (cs 0, 12, .inl f_16)), (q 2, .inl (cs 0, 12, .inl f_17)), (q 3, .inl (cs 2, 12, .inl (upd f_15 (Int32.toNatClampNeg (5 : Int32)) (vp_nar .boolean (0 : Int32))))), (z 1, .inl (cs 0, 12, .inl (fun _ => 0))), (z 2, .inl (cs 0, 12, .inl (fun _ => 0))), (z 3, .inl (cs 2, 12, .inl (fun _ => 0)))] := hD
  generalize upd f_15 (Int32.toNatClampNeg (5 : Int32)) (vp_nar .boolean (0 : Int32)) = f_18 at hP hD
  refine lv_iinc (v := 6) (lv' := [(2, .int 6), (0, .ref a), (1, .ref b)]) hx hb dX9_copyFrom_52 hl (k := 0) rfl (by decide) (by decide) rfl (fun ls hl => ?_)
  refine lv_goto (tgt := 10) hx hb dX9_copyFrom_55 (by decide) ?_
  refine lv_iload_n hx hb dX9_copyFrom_10 rfl (lv_at hl 0 rfl) ?_
  refine lv_bipush (v := 12) hx hb dX9_copyFrom_11 (by decide) ?_
  refine lv_icmp_ge (tgt := 58) hx hb dX9_copyFrom_13 (by decide) (fun z => absurd z (by decide)) (fun _ => ?_)
  refine lv_aload_n hx hb dX9_copyFrom_16 rfl (lv_at hl 1 rfl) ?_
  refine va_get (D := D) (ci := 9) (v := .ref (q 1)) (C := RX9) (T := TX9) (N := 7) hx hb hT i_X9 hown hK hP 0 rfl rfl 4 (by decide) (hT _ q_29) (fun _ h9 => h9) rfl dX9_copyFrom_17 ?_
  refine lv_iload_n hx hb dX9_copyFrom_20 rfl (lv_at hl 0 rfl) ?_
  refine lv_aload_n hx hb dX9_copyFrom_21 rfl (lv_at hl 2 rfl) ?_
  refine va_get (D := D) (ci := 9) (v := .ref (z 1)) (C := RX9) (T := TX9) (N := 7) hx hb hT i_X9 hown hK hP 1 rfl rfl 4 (by decide) (hT _ q_29) (fun _ h9 => h9) rfl dX9_copyFrom_22 ?_
  refine lv_iload_n hx hb dX9_copyFrom_25 rfl (lv_at hl 0 rfl) ?_
  refine va_iald hx hb hK hP 5 0 rfl rfl (by unfold vp_in; decide) dX9_copyFrom_26 ?_
  refine hz_ev 0 rfl ?_
  refine va_iast hx hb hK hP hD hS 2 0 rfl rfl (by unfold vp_in; decide) dX9_copyFrom_27 (fun H locs hP hD hS => ?_)
  have hP : va_P D classes [(a, .inr (9, [.int 0, .int 0, .int 0, .ref (q 0), .ref (q 1), .ref (q 2), .ref (q 3)])), (b, .inr (9, [.int 0, .int 0, .int 0, .ref (z 0), .ref (z 1), .ref (z 2), .ref (z 3)])), (q 1, .inl (cs 0, 12, .inl (upd f_16 (Int32.toNatClampNeg (6 : Int32)) (0 : Int32)))), (q 2, .inl (cs 0, 12, .inl f_17)), (q 3, .inl (cs 2, 12, .inl f_18)), (z 1, .inl (cs 0, 12, .inl (fun _ => 0))), (z 2, .inl (cs 0, 12, .inl (fun _ => 0))), (z 3, .inl (cs 2, 12, .inl (fun _ => 0)))] H := hP
  have hD : va_D A [(a, .inr (9, [.int 0, .int 0, .int 0, .ref (q 0), .ref (q 1), .ref (q 2), .ref (q 3)])), (b, .inr (9, [.int 0, .int 0, .int 0, .ref (z 0), .ref (z 1), .ref (z 2), .ref (z 3)])), (q 1, .inl (cs 0, 12, .inl (upd f_16 (Int32.toNatClampNeg (6 : Int32)) (0 : Int32)))), (q 2, .inl (cs 0, 12, .inl f_17)), (q 3, .inl (cs 2, 12, .inl f_18)), (z 1, .inl (cs 0, 12, .inl (fun _ => 0))), (z 2, .inl (cs 0, 12, .inl (fun _ => 0))), (z 3, .inl (cs 2, 12, .inl (fun _ => 0)))] := hD
  generalize upd f_16 (Int32.toNatClampNeg (6 : Int32)) (0 : Int32) = f_19 at hP hD
  refine lv_aload_n hx hb dX9_copyFrom_28 rfl (lv_at hl 1 rfl) ?_
  refine va_get (D := D) (ci := 9) (v := .ref (q 2)) (C := RX9) (T := TX9) (N := 7) hx hb hT i_X9 hown hK hP 0 rfl rfl 5 (by decide) (hT _ q_30) (fun _ h9 => h9) rfl dX9_copyFrom_29 ?_
  refine lv_iload_n hx hb dX9_copyFrom_32 rfl (lv_at hl 0 rfl) ?_
  refine lv_aload_n hx hb dX9_copyFrom_33 rfl (lv_at hl 2 rfl) ?_
  refine va_get (D := D) (ci := 9) (v := .ref (z 2)) (C := RX9) (T := TX9) (N := 7) hx hb hT i_X9 hown hK hP 1 rfl rfl 5 (by decide) (hT _ q_30) (fun _ h9 => h9) rfl dX9_copyFrom_34 ?_
  refine lv_iload_n hx hb dX9_copyFrom_37 rfl (lv_at hl 0 rfl) ?_
  refine va_iald hx hb hK hP 6 0 rfl rfl (by unfold vp_in; decide) dX9_copyFrom_38 ?_
  refine hz_ev 0 rfl ?_
  refine va_iast hx hb hK hP hD hS 3 0 rfl rfl (by unfold vp_in; decide) dX9_copyFrom_39 (fun H locs hP hD hS => ?_)
  have hP : va_P D classes [(a, .inr (9, [.int 0, .int 0, .int 0, .ref (q 0), .ref (q 1), .ref (q 2), .ref (q 3)])), (b, .inr (9, [.int 0, .int 0, .int 0, .ref (z 0), .ref (z 1), .ref (z 2), .ref (z 3)])), (q 1, .inl (cs 0, 12, .inl f_19)), (q 2, .inl (cs 0, 12, .inl (upd f_17 (Int32.toNatClampNeg (6 : Int32)) (0 : Int32)))), (q 3, .inl (cs 2, 12, .inl f_18)), (z 1, .inl (cs 0, 12, .inl (fun _ => 0))), (z 2, .inl (cs 0, 12, .inl (fun _ => 0))), (z 3, .inl (cs 2, 12, .inl (fun _ => 0)))] H := hP
  have hD : va_D A [(a, .inr (9, [.int 0, .int 0, .int 0, .ref (q 0), .ref (q 1), .ref (q 2), .ref (q 3)])), (b, .inr (9, [.int 0, .int 0, .int 0, .ref (z 0), .ref (z 1), .ref (z 2), .ref (z 3)])), (q 1, .inl (cs 0, 12, .inl f_19)), (q 2, .inl (cs 0, 12, .inl (upd f_17 (Int32.toNatClampNeg (6 : Int32)) (0 : Int32)))), (q 3, .inl (cs 2, 12, .inl f_18)), (z 1, .inl (cs 0, 12, .inl (fun _ => 0))), (z 2, .inl (cs 0, 12, .inl (fun _ => 0))), (z 3, .inl (cs 2, 12, .inl (fun _ => 0)))] := hD
  generalize upd f_17 (Int32.toNatClampNeg (6 : Int32)) (0 : Int32) = f_20 at hP hD
  refine lv_aload_n hx hb dX9_copyFrom_40 rfl (lv_at hl 1 rfl) ?_
  refine va_get (D := D) (ci := 9) (v := .ref (q 3)) (C := RX9) (T := TX9) (N := 7) hx hb hT i_X9 hown hK hP 0 rfl rfl 6 (by decide) (hT _ q_32) (fun _ h9 => h9) rfl dX9_copyFrom_41 ?_
  refine lv_iload_n hx hb dX9_copyFrom_44 rfl (lv_at hl 0 rfl) ?_
  refine lv_aload_n hx hb dX9_copyFrom_45 rfl (lv_at hl 2 rfl) ?_
  refine va_get (D := D) (ci := 9) (v := .ref (z 3)) (C := RX9) (T := TX9) (N := 7) hx hb hT i_X9 hown hK hP 1 rfl rfl 6 (by decide) (hT _ q_32) (fun _ h9 => h9) rfl dX9_copyFrom_46 ?_
  refine lv_iload_n hx hb dX9_copyFrom_49 rfl (lv_at hl 0 rfl) ?_
  refine va_zald hx hb hK hP 7 2 rfl rfl (by unfold vp_in; decide) dX9_copyFrom_50 ?_
  refine hz_ev 0 rfl ?_
  refine va_zast hx hb hK hP hD hS 4 2 rfl rfl (by unfold vp_in; decide) dX9_copyFrom_51 (fun H locs hP hD hS => ?_)
  have hP : va_P D classes [(a, .inr (9, [.int 0, .int 0, .int 0, .ref (q 0), .ref (q 1), .ref (q 2), .ref (q 3)])), (b, .inr (9, [.int 0, .int 0, .int 0, .ref (z 0), .ref (z 1), .ref (z 2), .ref (z 3)])), (q 1, .inl (cs 0, 12, .inl f_19)), (q 2, .inl (cs 0, 12, .inl f_20)), (q 3, .inl (cs 2, 12, .inl (upd f_18 (Int32.toNatClampNeg (6 : Int32)) (vp_nar .boolean (0 : Int32))))), (z 1, .inl (cs 0, 12, .inl (fun _ => 0))), (z 2, .inl (cs 0, 12, .inl (fun _ => 0))), (z 3, .inl (cs 2, 12, .inl (fun _ => 0)))] H := hP
  have hD : va_D A [(a, .inr (9, [.int 0, .int 0, .int 0, .ref (q 0), .ref (q 1), .ref (q 2), .ref (q 3)])), (b, .inr (9, [.int 0, .int 0, .int 0, .ref (z 0), .ref (z 1), .ref (z 2), .ref (z 3)])), (q 1, .inl (cs 0, 12, .inl f_19)), (q 2, .inl (cs 0, 12, .inl f_20)), (q 3, .inl (cs 2, 12, .inl (upd f_18 (Int32.toNatClampNeg (6 : Int32)) (vp_nar .boolean (0 : Int32))))), (z 1, .inl (cs 0, 12, .inl (fun _ => 0))), (z 2, .inl (cs 0, 12, .inl (fun _ => 0))), (z 3, .inl (cs 2, 12, .inl (fun _ => 0)))] := hD
  generalize upd f_18 (Int32.toNatClampNeg (6 : Int32)) (vp_nar .boolean (0 : Int32)) = f_21 at hP hD
  refine lv_iinc (v := 7) (lv' := [(2, .int 7), (0, .ref a), (1, .ref b)]) hx hb dX9_copyFrom_52 hl (k := 0) rfl (by decide) (by decide) rfl (fun ls hl => ?_)
  refine lv_goto (tgt := 10) hx hb dX9_copyFrom_55 (by decide) ?_
  refine lv_iload_n hx hb dX9_copyFrom_10 rfl (lv_at hl 0 rfl) ?_
  refine lv_bipush (v := 12) hx hb dX9_copyFrom_11 (by decide) ?_
  refine lv_icmp_ge (tgt := 58) hx hb dX9_copyFrom_13 (by decide) (fun z => absurd z (by decide)) (fun _ => ?_)
  refine lv_aload_n hx hb dX9_copyFrom_16 rfl (lv_at hl 1 rfl) ?_
  refine va_get (D := D) (ci := 9) (v := .ref (q 1)) (C := RX9) (T := TX9) (N := 7) hx hb hT i_X9 hown hK hP 0 rfl rfl 4 (by decide) (hT _ q_29) (fun _ h9 => h9) rfl dX9_copyFrom_17 ?_
  refine lv_iload_n hx hb dX9_copyFrom_20 rfl (lv_at hl 0 rfl) ?_
  refine lv_aload_n hx hb dX9_copyFrom_21 rfl (lv_at hl 2 rfl) ?_
  refine va_get (D := D) (ci := 9) (v := .ref (z 1)) (C := RX9) (T := TX9) (N := 7) hx hb hT i_X9 hown hK hP 1 rfl rfl 4 (by decide) (hT _ q_29) (fun _ h9 => h9) rfl dX9_copyFrom_22 ?_
  refine lv_iload_n hx hb dX9_copyFrom_25 rfl (lv_at hl 0 rfl) ?_
  refine va_iald hx hb hK hP 5 0 rfl rfl (by unfold vp_in; decide) dX9_copyFrom_26 ?_
  refine hz_ev 0 rfl ?_
  refine va_iast hx hb hK hP hD hS 2 0 rfl rfl (by unfold vp_in; decide) dX9_copyFrom_27 (fun H locs hP hD hS => ?_)
  have hP : va_P D classes [(a, .inr (9, [.int 0, .int 0, .int 0, .ref (q 0), .ref (q 1), .ref (q 2), .ref (q 3)])), (b, .inr (9, [.int 0, .int 0, .int 0, .ref (z 0), .ref (z 1), .ref (z 2), .ref (z 3)])), (q 1, .inl (cs 0, 12, .inl (upd f_19 (Int32.toNatClampNeg (7 : Int32)) (0 : Int32)))), (q 2, .inl (cs 0, 12, .inl f_20)), (q 3, .inl (cs 2, 12, .inl f_21)), (z 1, .inl (cs 0, 12, .inl (fun _ => 0))), (z 2, .inl (cs 0, 12, .inl (fun _ => 0))), (z 3, .inl (cs 2, 12, .inl (fun _ => 0)))] H := hP
  have hD : va_D A [(a, .inr (9, [.int 0, .int 0, .int 0, .ref (q 0), .ref (q 1), .ref (q 2), .ref (q 3)])), (b, .inr (9, [.int 0, .int 0, .int 0, .ref (z 0), .ref (z 1), .ref (z 2), .ref (z 3)])), (q 1, .inl (cs 0, 12, .inl (upd f_19 (Int32.toNatClampNeg (7 : Int32)) (0 : Int32)))), (q 2, .inl (cs 0, 12, .inl f_20)), (q 3, .inl (cs 2, 12, .inl f_21)), (z 1, .inl (cs 0, 12, .inl (fun _ => 0))), (z 2, .inl (cs 0, 12, .inl (fun _ => 0))), (z 3, .inl (cs 2, 12, .inl (fun _ => 0)))] := hD
  generalize upd f_19 (Int32.toNatClampNeg (7 : Int32)) (0 : Int32) = f_22 at hP hD
  refine lv_aload_n hx hb dX9_copyFrom_28 rfl (lv_at hl 1 rfl) ?_
  refine va_get (D := D) (ci := 9) (v := .ref (q 2)) (C := RX9) (T := TX9) (N := 7) hx hb hT i_X9 hown hK hP 0 rfl rfl 5 (by decide) (hT _ q_30) (fun _ h9 => h9) rfl dX9_copyFrom_29 ?_
  refine lv_iload_n hx hb dX9_copyFrom_32 rfl (lv_at hl 0 rfl) ?_
  refine lv_aload_n hx hb dX9_copyFrom_33 rfl (lv_at hl 2 rfl) ?_
  refine va_get (D := D) (ci := 9) (v := .ref (z 2)) (C := RX9) (T := TX9) (N := 7) hx hb hT i_X9 hown hK hP 1 rfl rfl 5 (by decide) (hT _ q_30) (fun _ h9 => h9) rfl dX9_copyFrom_34 ?_
  refine lv_iload_n hx hb dX9_copyFrom_37 rfl (lv_at hl 0 rfl) ?_
  refine va_iald hx hb hK hP 6 0 rfl rfl (by unfold vp_in; decide) dX9_copyFrom_38 ?_
  refine hz_ev 0 rfl ?_
  refine va_iast hx hb hK hP hD hS 3 0 rfl rfl (by unfold vp_in; decide) dX9_copyFrom_39 (fun H locs hP hD hS => ?_)
  have hP : va_P D classes [(a, .inr (9, [.int 0, .int 0, .int 0, .ref (q 0), .ref (q 1), .ref (q 2), .ref (q 3)])), (b, .inr (9, [.int 0, .int 0, .int 0, .ref (z 0), .ref (z 1), .ref (z 2), .ref (z 3)])), (q 1, .inl (cs 0, 12, .inl f_22)), (q 2, .inl (cs 0, 12, .inl (upd f_20 (Int32.toNatClampNeg (7 : Int32)) (0 : Int32)))), (q 3, .inl (cs 2, 12, .inl f_21)), (z 1, .inl (cs 0, 12, .inl (fun _ => 0))), (z 2, .inl (cs 0, 12, .inl (fun _ => 0))), (z 3, .inl (cs 2, 12, .inl (fun _ => 0)))] H := hP
  have hD : va_D A [(a, .inr (9, [.int 0, .int 0, .int 0, .ref (q 0), .ref (q 1), .ref (q 2), .ref (q 3)])), (b, .inr (9, [.int 0, .int 0, .int 0, .ref (z 0), .ref (z 1), .ref (z 2), .ref (z 3)])), (q 1, .inl (cs 0, 12, .inl f_22)), (q 2, .inl (cs 0, 12, .inl (upd f_20 (Int32.toNatClampNeg (7 : Int32)) (0 : Int32)))), (q 3, .inl (cs 2, 12, .inl f_21)), (z 1, .inl (cs 0, 12, .inl (fun _ => 0))), (z 2, .inl (cs 0, 12, .inl (fun _ => 0))), (z 3, .inl (cs 2, 12, .inl (fun _ => 0)))] := hD
  generalize upd f_20 (Int32.toNatClampNeg (7 : Int32)) (0 : Int32) = f_23 at hP hD
  refine lv_aload_n hx hb dX9_copyFrom_40 rfl (lv_at hl 1 rfl) ?_
  refine va_get (D := D) (ci := 9) (v := .ref (q 3)) (C := RX9) (T := TX9) (N := 7) hx hb hT i_X9 hown hK hP 0 rfl rfl 6 (by decide) (hT _ q_32) (fun _ h9 => h9) rfl dX9_copyFrom_41 ?_
  refine lv_iload_n hx hb dX9_copyFrom_44 rfl (lv_at hl 0 rfl) ?_
  refine lv_aload_n hx hb dX9_copyFrom_45 rfl (lv_at hl 2 rfl) ?_
  refine va_get (D := D) (ci := 9) (v := .ref (z 3)) (C := RX9) (T := TX9) (N := 7) hx hb hT i_X9 hown hK hP 1 rfl rfl 6 (by decide) (hT _ q_32) (fun _ h9 => h9) rfl dX9_copyFrom_46 ?_
  refine lv_iload_n hx hb dX9_copyFrom_49 rfl (lv_at hl 0 rfl) ?_
  refine va_zald hx hb hK hP 7 2 rfl rfl (by unfold vp_in; decide) dX9_copyFrom_50 ?_
  refine hz_ev 0 rfl ?_
  refine va_zast hx hb hK hP hD hS 4 2 rfl rfl (by unfold vp_in; decide) dX9_copyFrom_51 (fun H locs hP hD hS => ?_)
  have hP : va_P D classes [(a, .inr (9, [.int 0, .int 0, .int 0, .ref (q 0), .ref (q 1), .ref (q 2), .ref (q 3)])), (b, .inr (9, [.int 0, .int 0, .int 0, .ref (z 0), .ref (z 1), .ref (z 2), .ref (z 3)])), (q 1, .inl (cs 0, 12, .inl f_22)), (q 2, .inl (cs 0, 12, .inl f_23)), (q 3, .inl (cs 2, 12, .inl (upd f_21 (Int32.toNatClampNeg (7 : Int32)) (vp_nar .boolean (0 : Int32))))), (z 1, .inl (cs 0, 12, .inl (fun _ => 0))), (z 2, .inl (cs 0, 12, .inl (fun _ => 0))), (z 3, .inl (cs 2, 12, .inl (fun _ => 0)))] H := hP
  have hD : va_D A [(a, .inr (9, [.int 0, .int 0, .int 0, .ref (q 0), .ref (q 1), .ref (q 2), .ref (q 3)])), (b, .inr (9, [.int 0, .int 0, .int 0, .ref (z 0), .ref (z 1), .ref (z 2), .ref (z 3)])), (q 1, .inl (cs 0, 12, .inl f_22)), (q 2, .inl (cs 0, 12, .inl f_23)), (q 3, .inl (cs 2, 12, .inl (upd f_21 (Int32.toNatClampNeg (7 : Int32)) (vp_nar .boolean (0 : Int32))))), (z 1, .inl (cs 0, 12, .inl (fun _ => 0))), (z 2, .inl (cs 0, 12, .inl (fun _ => 0))), (z 3, .inl (cs 2, 12, .inl (fun _ => 0)))] := hD
  generalize upd f_21 (Int32.toNatClampNeg (7 : Int32)) (vp_nar .boolean (0 : Int32)) = f_24 at hP hD
  refine lv_iinc (v := 8) (lv' := [(2, .int 8), (0, .ref a), (1, .ref b)]) hx hb dX9_copyFrom_52 hl (k := 0) rfl (by decide) (by decide) rfl (fun ls hl => ?_)
  refine lv_goto (tgt := 10) hx hb dX9_copyFrom_55 (by decide) ?_
  refine lv_iload_n hx hb dX9_copyFrom_10 rfl (lv_at hl 0 rfl) ?_
  refine lv_bipush (v := 12) hx hb dX9_copyFrom_11 (by decide) ?_
  refine lv_icmp_ge (tgt := 58) hx hb dX9_copyFrom_13 (by decide) (fun z => absurd z (by decide)) (fun _ => ?_)
  refine lv_aload_n hx hb dX9_copyFrom_16 rfl (lv_at hl 1 rfl) ?_
  refine va_get (D := D) (ci := 9) (v := .ref (q 1)) (C := RX9) (T := TX9) (N := 7) hx hb hT i_X9 hown hK hP 0 rfl rfl 4 (by decide) (hT _ q_29) (fun _ h9 => h9) rfl dX9_copyFrom_17 ?_
  refine lv_iload_n hx hb dX9_copyFrom_20 rfl (lv_at hl 0 rfl) ?_
  refine lv_aload_n hx hb dX9_copyFrom_21 rfl (lv_at hl 2 rfl) ?_
  refine va_get (D := D) (ci := 9) (v := .ref (z 1)) (C := RX9) (T := TX9) (N := 7) hx hb hT i_X9 hown hK hP 1 rfl rfl 4 (by decide) (hT _ q_29) (fun _ h9 => h9) rfl dX9_copyFrom_22 ?_
  refine lv_iload_n hx hb dX9_copyFrom_25 rfl (lv_at hl 0 rfl) ?_
  refine va_iald hx hb hK hP 5 0 rfl rfl (by unfold vp_in; decide) dX9_copyFrom_26 ?_
  refine hz_ev 0 rfl ?_
  refine va_iast hx hb hK hP hD hS 2 0 rfl rfl (by unfold vp_in; decide) dX9_copyFrom_27 (fun H locs hP hD hS => ?_)
  have hP : va_P D classes [(a, .inr (9, [.int 0, .int 0, .int 0, .ref (q 0), .ref (q 1), .ref (q 2), .ref (q 3)])), (b, .inr (9, [.int 0, .int 0, .int 0, .ref (z 0), .ref (z 1), .ref (z 2), .ref (z 3)])), (q 1, .inl (cs 0, 12, .inl (upd f_22 (Int32.toNatClampNeg (8 : Int32)) (0 : Int32)))), (q 2, .inl (cs 0, 12, .inl f_23)), (q 3, .inl (cs 2, 12, .inl f_24)), (z 1, .inl (cs 0, 12, .inl (fun _ => 0))), (z 2, .inl (cs 0, 12, .inl (fun _ => 0))), (z 3, .inl (cs 2, 12, .inl (fun _ => 0)))] H := hP
  have hD : va_D A [(a, .inr (9, [.int 0, .int 0, .int 0, .ref (q 0), .ref (q 1), .ref (q 2), .ref (q 3)])), (b, .inr (9, [.int 0, .int 0, .int 0, .ref (z 0), .ref (z 1), .ref (z 2), .ref (z 3)])), (q 1, .inl (cs 0, 12, .inl (upd f_22 (Int32.toNatClampNeg (8 : Int32)) (0 : Int32)))), (q 2, .inl (cs 0, 12, .inl f_23)), (q 3, .inl (cs 2, 12, .inl f_24)), (z 1, .inl (cs 0, 12, .inl (fun _ => 0))), (z 2, .inl (cs 0, 12, .inl (fun _ => 0))), (z 3, .inl (cs 2, 12, .inl (fun _ => 0)))] := hD
  generalize upd f_22 (Int32.toNatClampNeg (8 : Int32)) (0 : Int32) = f_25 at hP hD
  refine lv_aload_n hx hb dX9_copyFrom_28 rfl (lv_at hl 1 rfl) ?_
  refine va_get (D := D) (ci := 9) (v := .ref (q 2)) (C := RX9) (T := TX9) (N := 7) hx hb hT i_X9 hown hK hP 0 rfl rfl 5 (by decide) (hT _ q_30) (fun _ h9 => h9) rfl dX9_copyFrom_29 ?_
  refine lv_iload_n hx hb dX9_copyFrom_32 rfl (lv_at hl 0 rfl) ?_
  refine lv_aload_n hx hb dX9_copyFrom_33 rfl (lv_at hl 2 rfl) ?_
  refine va_get (D := D) (ci := 9) (v := .ref (z 2)) (C := RX9) (T := TX9) (N := 7) hx hb hT i_X9 hown hK hP 1 rfl rfl 5 (by decide) (hT _ q_30) (fun _ h9 => h9) rfl dX9_copyFrom_34 ?_
  refine lv_iload_n hx hb dX9_copyFrom_37 rfl (lv_at hl 0 rfl) ?_
  refine va_iald hx hb hK hP 6 0 rfl rfl (by unfold vp_in; decide) dX9_copyFrom_38 ?_
  refine hz_ev 0 rfl ?_
  refine va_iast hx hb hK hP hD hS 3 0 rfl rfl (by unfold vp_in; decide) dX9_copyFrom_39 (fun H locs hP hD hS => ?_)
  have hP : va_P D classes [(a, .inr (9, [.int 0, .int 0, .int 0, .ref (q 0), .ref (q 1), .ref (q 2), .ref (q 3)])), (b, .inr (9, [.int 0, .int 0, .int 0, .ref (z 0), .ref (z 1), .ref (z 2), .ref (z 3)])), (q 1, .inl (cs 0, 12, .inl f_25)), (q 2, .inl (cs 0, 12, .inl (upd f_23 (Int32.toNatClampNeg (8 : Int32)) (0 : Int32)))), (q 3, .inl (cs 2, 12, .inl f_24)), (z 1, .inl (cs 0, 12, .inl (fun _ => 0))), (z 2, .inl (cs 0, 12, .inl (fun _ => 0))), (z 3, .inl (cs 2, 12, .inl (fun _ => 0)))] H := hP
  have hD : va_D A [(a, .inr (9, [.int 0, .int 0, .int 0, .ref (q 0), .ref (q 1), .ref (q 2), .ref (q 3)])), (b, .inr (9, [.int 0, .int 0, .int 0, .ref (z 0), .ref (z 1), .ref (z 2), .ref (z 3)])), (q 1, .inl (cs 0, 12, .inl f_25)), (q 2, .inl (cs 0, 12, .inl (upd f_23 (Int32.toNatClampNeg (8 : Int32)) (0 : Int32)))), (q 3, .inl (cs 2, 12, .inl f_24)), (z 1, .inl (cs 0, 12, .inl (fun _ => 0))), (z 2, .inl (cs 0, 12, .inl (fun _ => 0))), (z 3, .inl (cs 2, 12, .inl (fun _ => 0)))] := hD
  generalize upd f_23 (Int32.toNatClampNeg (8 : Int32)) (0 : Int32) = f_26 at hP hD
  refine lv_aload_n hx hb dX9_copyFrom_40 rfl (lv_at hl 1 rfl) ?_
  refine va_get (D := D) (ci := 9) (v := .ref (q 3)) (C := RX9) (T := TX9) (N := 7) hx hb hT i_X9 hown hK hP 0 rfl rfl 6 (by decide) (hT _ q_32) (fun _ h9 => h9) rfl dX9_copyFrom_41 ?_
  refine lv_iload_n hx hb dX9_copyFrom_44 rfl (lv_at hl 0 rfl) ?_
  refine lv_aload_n hx hb dX9_copyFrom_45 rfl (lv_at hl 2 rfl) ?_
  refine va_get (D := D) (ci := 9) (v := .ref (z 3)) (C := RX9) (T := TX9) (N := 7) hx hb hT i_X9 hown hK hP 1 rfl rfl 6 (by decide) (hT _ q_32) (fun _ h9 => h9) rfl dX9_copyFrom_46 ?_
  refine lv_iload_n hx hb dX9_copyFrom_49 rfl (lv_at hl 0 rfl) ?_
  refine va_zald hx hb hK hP 7 2 rfl rfl (by unfold vp_in; decide) dX9_copyFrom_50 ?_
  refine hz_ev 0 rfl ?_
  refine va_zast hx hb hK hP hD hS 4 2 rfl rfl (by unfold vp_in; decide) dX9_copyFrom_51 (fun H locs hP hD hS => ?_)
  have hP : va_P D classes [(a, .inr (9, [.int 0, .int 0, .int 0, .ref (q 0), .ref (q 1), .ref (q 2), .ref (q 3)])), (b, .inr (9, [.int 0, .int 0, .int 0, .ref (z 0), .ref (z 1), .ref (z 2), .ref (z 3)])), (q 1, .inl (cs 0, 12, .inl f_25)), (q 2, .inl (cs 0, 12, .inl f_26)), (q 3, .inl (cs 2, 12, .inl (upd f_24 (Int32.toNatClampNeg (8 : Int32)) (vp_nar .boolean (0 : Int32))))), (z 1, .inl (cs 0, 12, .inl (fun _ => 0))), (z 2, .inl (cs 0, 12, .inl (fun _ => 0))), (z 3, .inl (cs 2, 12, .inl (fun _ => 0)))] H := hP
  have hD : va_D A [(a, .inr (9, [.int 0, .int 0, .int 0, .ref (q 0), .ref (q 1), .ref (q 2), .ref (q 3)])), (b, .inr (9, [.int 0, .int 0, .int 0, .ref (z 0), .ref (z 1), .ref (z 2), .ref (z 3)])), (q 1, .inl (cs 0, 12, .inl f_25)), (q 2, .inl (cs 0, 12, .inl f_26)), (q 3, .inl (cs 2, 12, .inl (upd f_24 (Int32.toNatClampNeg (8 : Int32)) (vp_nar .boolean (0 : Int32))))), (z 1, .inl (cs 0, 12, .inl (fun _ => 0))), (z 2, .inl (cs 0, 12, .inl (fun _ => 0))), (z 3, .inl (cs 2, 12, .inl (fun _ => 0)))] := hD
  generalize upd f_24 (Int32.toNatClampNeg (8 : Int32)) (vp_nar .boolean (0 : Int32)) = f_27 at hP hD
  refine lv_iinc (v := 9) (lv' := [(2, .int 9), (0, .ref a), (1, .ref b)]) hx hb dX9_copyFrom_52 hl (k := 0) rfl (by decide) (by decide) rfl (fun ls hl => ?_)
  refine lv_goto (tgt := 10) hx hb dX9_copyFrom_55 (by decide) ?_
  refine lv_iload_n hx hb dX9_copyFrom_10 rfl (lv_at hl 0 rfl) ?_
  refine lv_bipush (v := 12) hx hb dX9_copyFrom_11 (by decide) ?_
  refine lv_icmp_ge (tgt := 58) hx hb dX9_copyFrom_13 (by decide) (fun z => absurd z (by decide)) (fun _ => ?_)
  refine lv_aload_n hx hb dX9_copyFrom_16 rfl (lv_at hl 1 rfl) ?_
  refine va_get (D := D) (ci := 9) (v := .ref (q 1)) (C := RX9) (T := TX9) (N := 7) hx hb hT i_X9 hown hK hP 0 rfl rfl 4 (by decide) (hT _ q_29) (fun _ h9 => h9) rfl dX9_copyFrom_17 ?_
  refine lv_iload_n hx hb dX9_copyFrom_20 rfl (lv_at hl 0 rfl) ?_
  refine lv_aload_n hx hb dX9_copyFrom_21 rfl (lv_at hl 2 rfl) ?_
  refine va_get (D := D) (ci := 9) (v := .ref (z 1)) (C := RX9) (T := TX9) (N := 7) hx hb hT i_X9 hown hK hP 1 rfl rfl 4 (by decide) (hT _ q_29) (fun _ h9 => h9) rfl dX9_copyFrom_22 ?_
  refine lv_iload_n hx hb dX9_copyFrom_25 rfl (lv_at hl 0 rfl) ?_
  refine va_iald hx hb hK hP 5 0 rfl rfl (by unfold vp_in; decide) dX9_copyFrom_26 ?_
  refine hz_ev 0 rfl ?_
  refine va_iast hx hb hK hP hD hS 2 0 rfl rfl (by unfold vp_in; decide) dX9_copyFrom_27 (fun H locs hP hD hS => ?_)
  have hP : va_P D classes [(a, .inr (9, [.int 0, .int 0, .int 0, .ref (q 0), .ref (q 1), .ref (q 2), .ref (q 3)])), (b, .inr (9, [.int 0, .int 0, .int 0, .ref (z 0), .ref (z 1), .ref (z 2), .ref (z 3)])), (q 1, .inl (cs 0, 12, .inl (upd f_25 (Int32.toNatClampNeg (9 : Int32)) (0 : Int32)))), (q 2, .inl (cs 0, 12, .inl f_26)), (q 3, .inl (cs 2, 12, .inl f_27)), (z 1, .inl (cs 0, 12, .inl (fun _ => 0))), (z 2, .inl (cs 0, 12, .inl (fun _ => 0))), (z 3, .inl (cs 2, 12, .inl (fun _ => 0)))] H := hP
  have hD : va_D A [(a, .inr (9, [.int 0, .int 0, .int 0, .ref (q 0), .ref (q 1), .ref (q 2), .ref (q 3)])), (b, .inr (9, [.int 0, .int 0, .int 0, .ref (z 0), .ref (z 1), .ref (z 2), .ref (z 3)])), (q 1, .inl (cs 0, 12, .inl (upd f_25 (Int32.toNatClampNeg (9 : Int32)) (0 : Int32)))), (q 2, .inl (cs 0, 12, .inl f_26)), (q 3, .inl (cs 2, 12, .inl f_27)), (z 1, .inl (cs 0, 12, .inl (fun _ => 0))), (z 2, .inl (cs 0, 12, .inl (fun _ => 0))), (z 3, .inl (cs 2, 12, .inl (fun _ => 0)))] := hD
  generalize upd f_25 (Int32.toNatClampNeg (9 : Int32)) (0 : Int32) = f_28 at hP hD
  refine lv_aload_n hx hb dX9_copyFrom_28 rfl (lv_at hl 1 rfl) ?_
  refine va_get (D := D) (ci := 9) (v := .ref (q 2)) (C := RX9) (T := TX9) (N := 7) hx hb hT i_X9 hown hK hP 0 rfl rfl 5 (by decide) (hT _ q_30) (fun _ h9 => h9) rfl dX9_copyFrom_29 ?_
  refine lv_iload_n hx hb dX9_copyFrom_32 rfl (lv_at hl 0 rfl) ?_
  refine lv_aload_n hx hb dX9_copyFrom_33 rfl (lv_at hl 2 rfl) ?_
  refine va_get (D := D) (ci := 9) (v := .ref (z 2)) (C := RX9) (T := TX9) (N := 7) hx hb hT i_X9 hown hK hP 1 rfl rfl 5 (by decide) (hT _ q_30) (fun _ h9 => h9) rfl dX9_copyFrom_34 ?_
  refine lv_iload_n hx hb dX9_copyFrom_37 rfl (lv_at hl 0 rfl) ?_
  refine va_iald hx hb hK hP 6 0 rfl rfl (by unfold vp_in; decide) dX9_copyFrom_38 ?_
  refine hz_ev 0 rfl ?_
  refine va_iast hx hb hK hP hD hS 3 0 rfl rfl (by unfold vp_in; decide) dX9_copyFrom_39 (fun H locs hP hD hS => ?_)
  have hP : va_P D classes [(a, .inr (9, [.int 0, .int 0, .int 0, .ref (q 0), .ref (q 1), .ref (q 2), .ref (q 3)])), (b, .inr (9, [.int 0, .int 0, .int 0, .ref (z 0), .ref (z 1), .ref (z 2), .ref (z 3)])), (q 1, .inl (cs 0, 12, .inl f_28)), (q 2, .inl (cs 0, 12, .inl (upd f_26 (Int32.toNatClampNeg (9 : Int32)) (0 : Int32)))), (q 3, .inl (cs 2, 12, .inl f_27)), (z 1, .inl (cs 0, 12, .inl (fun _ => 0))), (z 2, .inl (cs 0, 12, .inl (fun _ => 0))), (z 3, .inl (cs 2, 12, .inl (fun _ => 0)))] H := hP
  have hD : va_D A [(a, .inr (9, [.int 0, .int 0, .int 0, .ref (q 0), .ref (q 1), .ref (q 2), .ref (q 3)])), (b, .inr (9, [.int 0, .int 0, .int 0, .ref (z 0), .ref (z 1), .ref (z 2), .ref (z 3)])), (q 1, .inl (cs 0, 12, .inl f_28)), (q 2, .inl (cs 0, 12, .inl (upd f_26 (Int32.toNatClampNeg (9 : Int32)) (0 : Int32)))), (q 3, .inl (cs 2, 12, .inl f_27)), (z 1, .inl (cs 0, 12, .inl (fun _ => 0))), (z 2, .inl (cs 0, 12, .inl (fun _ => 0))), (z 3, .inl (cs 2, 12, .inl (fun _ => 0)))] := hD
  generalize upd f_26 (Int32.toNatClampNeg (9 : Int32)) (0 : Int32) = f_29 at hP hD
  refine lv_aload_n hx hb dX9_copyFrom_40 rfl (lv_at hl 1 rfl) ?_
  refine va_get (D := D) (ci := 9) (v := .ref (q 3)) (C := RX9) (T := TX9) (N := 7) hx hb hT i_X9 hown hK hP 0 rfl rfl 6 (by decide) (hT _ q_32) (fun _ h9 => h9) rfl dX9_copyFrom_41 ?_
  refine lv_iload_n hx hb dX9_copyFrom_44 rfl (lv_at hl 0 rfl) ?_
  refine lv_aload_n hx hb dX9_copyFrom_45 rfl (lv_at hl 2 rfl) ?_
  refine va_get (D := D) (ci := 9) (v := .ref (z 3)) (C := RX9) (T := TX9) (N := 7) hx hb hT i_X9 hown hK hP 1 rfl rfl 6 (by decide) (hT _ q_32) (fun _ h9 => h9) rfl dX9_copyFrom_46 ?_
  refine lv_iload_n hx hb dX9_copyFrom_49 rfl (lv_at hl 0 rfl) ?_
  refine va_zald hx hb hK hP 7 2 rfl rfl (by unfold vp_in; decide) dX9_copyFrom_50 ?_
  refine hz_ev 0 rfl ?_
  refine va_zast hx hb hK hP hD hS 4 2 rfl rfl (by unfold vp_in; decide) dX9_copyFrom_51 (fun H locs hP hD hS => ?_)
  have hP : va_P D classes [(a, .inr (9, [.int 0, .int 0, .int 0, .ref (q 0), .ref (q 1), .ref (q 2), .ref (q 3)])), (b, .inr (9, [.int 0, .int 0, .int 0, .ref (z 0), .ref (z 1), .ref (z 2), .ref (z 3)])), (q 1, .inl (cs 0, 12, .inl f_28)), (q 2, .inl (cs 0, 12, .inl f_29)), (q 3, .inl (cs 2, 12, .inl (upd f_27 (Int32.toNatClampNeg (9 : Int32)) (vp_nar .boolean (0 : Int32))))), (z 1, .inl (cs 0, 12, .inl (fun _ => 0))), (z 2, .inl (cs 0, 12, .inl (fun _ => 0))), (z 3, .inl (cs 2, 12, .inl (fun _ => 0)))] H := hP
  have hD : va_D A [(a, .inr (9, [.int 0, .int 0, .int 0, .ref (q 0), .ref (q 1), .ref (q 2), .ref (q 3)])), (b, .inr (9, [.int 0, .int 0, .int 0, .ref (z 0), .ref (z 1), .ref (z 2), .ref (z 3)])), (q 1, .inl (cs 0, 12, .inl f_28)), (q 2, .inl (cs 0, 12, .inl f_29)), (q 3, .inl (cs 2, 12, .inl (upd f_27 (Int32.toNatClampNeg (9 : Int32)) (vp_nar .boolean (0 : Int32))))), (z 1, .inl (cs 0, 12, .inl (fun _ => 0))), (z 2, .inl (cs 0, 12, .inl (fun _ => 0))), (z 3, .inl (cs 2, 12, .inl (fun _ => 0)))] := hD
  generalize upd f_27 (Int32.toNatClampNeg (9 : Int32)) (vp_nar .boolean (0 : Int32)) = f_30 at hP hD
  refine lv_iinc (v := 10) (lv' := [(2, .int 10), (0, .ref a), (1, .ref b)]) hx hb dX9_copyFrom_52 hl (k := 0) rfl (by decide) (by decide) rfl (fun ls hl => ?_)
  refine lv_goto (tgt := 10) hx hb dX9_copyFrom_55 (by decide) ?_
  refine lv_iload_n hx hb dX9_copyFrom_10 rfl (lv_at hl 0 rfl) ?_
  refine lv_bipush (v := 12) hx hb dX9_copyFrom_11 (by decide) ?_
  refine lv_icmp_ge (tgt := 58) hx hb dX9_copyFrom_13 (by decide) (fun z => absurd z (by decide)) (fun _ => ?_)
  refine lv_aload_n hx hb dX9_copyFrom_16 rfl (lv_at hl 1 rfl) ?_
  refine va_get (D := D) (ci := 9) (v := .ref (q 1)) (C := RX9) (T := TX9) (N := 7) hx hb hT i_X9 hown hK hP 0 rfl rfl 4 (by decide) (hT _ q_29) (fun _ h9 => h9) rfl dX9_copyFrom_17 ?_
  refine lv_iload_n hx hb dX9_copyFrom_20 rfl (lv_at hl 0 rfl) ?_
  refine lv_aload_n hx hb dX9_copyFrom_21 rfl (lv_at hl 2 rfl) ?_
  refine va_get (D := D) (ci := 9) (v := .ref (z 1)) (C := RX9) (T := TX9) (N := 7) hx hb hT i_X9 hown hK hP 1 rfl rfl 4 (by decide) (hT _ q_29) (fun _ h9 => h9) rfl dX9_copyFrom_22 ?_
  refine lv_iload_n hx hb dX9_copyFrom_25 rfl (lv_at hl 0 rfl) ?_
  refine va_iald hx hb hK hP 5 0 rfl rfl (by unfold vp_in; decide) dX9_copyFrom_26 ?_
  refine hz_ev 0 rfl ?_
  refine va_iast hx hb hK hP hD hS 2 0 rfl rfl (by unfold vp_in; decide) dX9_copyFrom_27 (fun H locs hP hD hS => ?_)
  have hP : va_P D classes [(a, .inr (9, [.int 0, .int 0, .int 0, .ref (q 0), .ref (q 1), .ref (q 2), .ref (q 3)])), (b, .inr (9, [.int 0, .int 0, .int 0, .ref (z 0), .ref (z 1), .ref (z 2), .ref (z 3)])), (q 1, .inl (cs 0, 12, .inl (upd f_28 (Int32.toNatClampNeg (10 : Int32)) (0 : Int32)))), (q 2, .inl (cs 0, 12, .inl f_29)), (q 3, .inl (cs 2, 12, .inl f_30)), (z 1, .inl (cs 0, 12, .inl (fun _ => 0))), (z 2, .inl (cs 0, 12, .inl (fun _ => 0))), (z 3, .inl (cs 2, 12, .inl (fun _ => 0)))] H := hP
  have hD : va_D A [(a, .inr (9, [.int 0, .int 0, .int 0, .ref (q 0), .ref (q 1), .ref (q 2), .ref (q 3)])), (b, .inr (9, [.int 0, .int 0, .int 0, .ref (z 0), .ref (z 1), .ref (z 2), .ref (z 3)])), (q 1, .inl (cs 0, 12, .inl (upd f_28 (Int32.toNatClampNeg (10 : Int32)) (0 : Int32)))), (q 2, .inl (cs 0, 12, .inl f_29)), (q 3, .inl (cs 2, 12, .inl f_30)), (z 1, .inl (cs 0, 12, .inl (fun _ => 0))), (z 2, .inl (cs 0, 12, .inl (fun _ => 0))), (z 3, .inl (cs 2, 12, .inl (fun _ => 0)))] := hD
  generalize upd f_28 (Int32.toNatClampNeg (10 : Int32)) (0 : Int32) = f_31 at hP hD
  refine lv_aload_n hx hb dX9_copyFrom_28 rfl (lv_at hl 1 rfl) ?_
  refine va_get (D := D) (ci := 9) (v := .ref (q 2)) (C := RX9) (T := TX9) (N := 7) hx hb hT i_X9 hown hK hP 0 rfl rfl 5 (by decide) (hT _ q_30) (fun _ h9 => h9) rfl dX9_copyFrom_29 ?_
  refine lv_iload_n hx hb dX9_copyFrom_32 rfl (lv_at hl 0 rfl) ?_
  refine lv_aload_n hx hb dX9_copyFrom_33 rfl (lv_at hl 2 rfl) ?_
  refine va_get (D := D) (ci := 9) (v := .ref (z 2)) (C := RX9) (T := TX9) (N := 7) hx hb hT i_X9 hown hK hP 1 rfl rfl 5 (by decide) (hT _ q_30) (fun _ h9 => h9) rfl dX9_copyFrom_34 ?_
  refine lv_iload_n hx hb dX9_copyFrom_37 rfl (lv_at hl 0 rfl) ?_
  refine va_iald hx hb hK hP 6 0 rfl rfl (by unfold vp_in; decide) dX9_copyFrom_38 ?_
  refine hz_ev 0 rfl ?_
  refine va_iast hx hb hK hP hD hS 3 0 rfl rfl (by unfold vp_in; decide) dX9_copyFrom_39 (fun H locs hP hD hS => ?_)
  have hP : va_P D classes [(a, .inr (9, [.int 0, .int 0, .int 0, .ref (q 0), .ref (q 1), .ref (q 2), .ref (q 3)])), (b, .inr (9, [.int 0, .int 0, .int 0, .ref (z 0), .ref (z 1), .ref (z 2), .ref (z 3)])), (q 1, .inl (cs 0, 12, .inl f_31)), (q 2, .inl (cs 0, 12, .inl (upd f_29 (Int32.toNatClampNeg (10 : Int32)) (0 : Int32)))), (q 3, .inl (cs 2, 12, .inl f_30)), (z 1, .inl (cs 0, 12, .inl (fun _ => 0))), (z 2, .inl (cs 0, 12, .inl (fun _ => 0))), (z 3, .inl (cs 2, 12, .inl (fun _ => 0)))] H := hP
  have hD : va_D A [(a, .inr (9, [.int 0, .int 0, .int 0, .ref (q 0), .ref (q 1), .ref (q 2), .ref (q 3)])), (b, .inr (9, [.int 0, .int 0, .int 0, .ref (z 0), .ref (z 1), .ref (z 2), .ref (z 3)])), (q 1, .inl (cs 0, 12, .inl f_31)), (q 2, .inl (cs 0, 12, .inl (upd f_29 (Int32.toNatClampNeg (10 : Int32)) (0 : Int32)))), (q 3, .inl (cs 2, 12, .inl f_30)), (z 1, .inl (cs 0, 12, .inl (fun _ => 0))), (z 2, .inl (cs 0, 12, .inl (fun _ => 0))), (z 3, .inl (cs 2, 12, .inl (fun _ => 0)))] := hD
  generalize upd f_29 (Int32.toNatClampNeg (10 : Int32)) (0 : Int32) = f_32 at hP hD
  refine lv_aload_n hx hb dX9_copyFrom_40 rfl (lv_at hl 1 rfl) ?_
  refine va_get (D := D) (ci := 9) (v := .ref (q 3)) (C := RX9) (T := TX9) (N := 7) hx hb hT i_X9 hown hK hP 0 rfl rfl 6 (by decide) (hT _ q_32) (fun _ h9 => h9) rfl dX9_copyFrom_41 ?_
  refine lv_iload_n hx hb dX9_copyFrom_44 rfl (lv_at hl 0 rfl) ?_
  refine lv_aload_n hx hb dX9_copyFrom_45 rfl (lv_at hl 2 rfl) ?_
  refine va_get (D := D) (ci := 9) (v := .ref (z 3)) (C := RX9) (T := TX9) (N := 7) hx hb hT i_X9 hown hK hP 1 rfl rfl 6 (by decide) (hT _ q_32) (fun _ h9 => h9) rfl dX9_copyFrom_46 ?_
  refine lv_iload_n hx hb dX9_copyFrom_49 rfl (lv_at hl 0 rfl) ?_
  refine va_zald hx hb hK hP 7 2 rfl rfl (by unfold vp_in; decide) dX9_copyFrom_50 ?_
  refine hz_ev 0 rfl ?_
  refine va_zast hx hb hK hP hD hS 4 2 rfl rfl (by unfold vp_in; decide) dX9_copyFrom_51 (fun H locs hP hD hS => ?_)
  have hP : va_P D classes [(a, .inr (9, [.int 0, .int 0, .int 0, .ref (q 0), .ref (q 1), .ref (q 2), .ref (q 3)])), (b, .inr (9, [.int 0, .int 0, .int 0, .ref (z 0), .ref (z 1), .ref (z 2), .ref (z 3)])), (q 1, .inl (cs 0, 12, .inl f_31)), (q 2, .inl (cs 0, 12, .inl f_32)), (q 3, .inl (cs 2, 12, .inl (upd f_30 (Int32.toNatClampNeg (10 : Int32)) (vp_nar .boolean (0 : Int32))))), (z 1, .inl (cs 0, 12, .inl (fun _ => 0))), (z 2, .inl (cs 0, 12, .inl (fun _ => 0))), (z 3, .inl (cs 2, 12, .inl (fun _ => 0)))] H := hP
  have hD : va_D A [(a, .inr (9, [.int 0, .int 0, .int 0, .ref (q 0), .ref (q 1), .ref (q 2), .ref (q 3)])), (b, .inr (9, [.int 0, .int 0, .int 0, .ref (z 0), .ref (z 1), .ref (z 2), .ref (z 3)])), (q 1, .inl (cs 0, 12, .inl f_31)), (q 2, .inl (cs 0, 12, .inl f_32)), (q 3, .inl (cs 2, 12, .inl (upd f_30 (Int32.toNatClampNeg (10 : Int32)) (vp_nar .boolean (0 : Int32))))), (z 1, .inl (cs 0, 12, .inl (fun _ => 0))), (z 2, .inl (cs 0, 12, .inl (fun _ => 0))), (z 3, .inl (cs 2, 12, .inl (fun _ => 0)))] := hD
  generalize upd f_30 (Int32.toNatClampNeg (10 : Int32)) (vp_nar .boolean (0 : Int32)) = f_33 at hP hD
  refine lv_iinc (v := 11) (lv' := [(2, .int 11), (0, .ref a), (1, .ref b)]) hx hb dX9_copyFrom_52 hl (k := 0) rfl (by decide) (by decide) rfl (fun ls hl => ?_)
  refine lv_goto (tgt := 10) hx hb dX9_copyFrom_55 (by decide) ?_
  refine lv_iload_n hx hb dX9_copyFrom_10 rfl (lv_at hl 0 rfl) ?_
  refine lv_bipush (v := 12) hx hb dX9_copyFrom_11 (by decide) ?_
  refine lv_icmp_ge (tgt := 58) hx hb dX9_copyFrom_13 (by decide) (fun z => absurd z (by decide)) (fun _ => ?_)
  refine lv_aload_n hx hb dX9_copyFrom_16 rfl (lv_at hl 1 rfl) ?_
  refine va_get (D := D) (ci := 9) (v := .ref (q 1)) (C := RX9) (T := TX9) (N := 7) hx hb hT i_X9 hown hK hP 0 rfl rfl 4 (by decide) (hT _ q_29) (fun _ h9 => h9) rfl dX9_copyFrom_17 ?_
  refine lv_iload_n hx hb dX9_copyFrom_20 rfl (lv_at hl 0 rfl) ?_
  refine lv_aload_n hx hb dX9_copyFrom_21 rfl (lv_at hl 2 rfl) ?_
  refine va_get (D := D) (ci := 9) (v := .ref (z 1)) (C := RX9) (T := TX9) (N := 7) hx hb hT i_X9 hown hK hP 1 rfl rfl 4 (by decide) (hT _ q_29) (fun _ h9 => h9) rfl dX9_copyFrom_22 ?_
  refine lv_iload_n hx hb dX9_copyFrom_25 rfl (lv_at hl 0 rfl) ?_
  refine va_iald hx hb hK hP 5 0 rfl rfl (by unfold vp_in; decide) dX9_copyFrom_26 ?_
  refine hz_ev 0 rfl ?_
  refine va_iast hx hb hK hP hD hS 2 0 rfl rfl (by unfold vp_in; decide) dX9_copyFrom_27 (fun H locs hP hD hS => ?_)
  have hP : va_P D classes [(a, .inr (9, [.int 0, .int 0, .int 0, .ref (q 0), .ref (q 1), .ref (q 2), .ref (q 3)])), (b, .inr (9, [.int 0, .int 0, .int 0, .ref (z 0), .ref (z 1), .ref (z 2), .ref (z 3)])), (q 1, .inl (cs 0, 12, .inl (upd f_31 (Int32.toNatClampNeg (11 : Int32)) (0 : Int32)))), (q 2, .inl (cs 0, 12, .inl f_32)), (q 3, .inl (cs 2, 12, .inl f_33)), (z 1, .inl (cs 0, 12, .inl (fun _ => 0))), (z 2, .inl (cs 0, 12, .inl (fun _ => 0))), (z 3, .inl (cs 2, 12, .inl (fun _ => 0)))] H := hP
  have hD : va_D A [(a, .inr (9, [.int 0, .int 0, .int 0, .ref (q 0), .ref (q 1), .ref (q 2), .ref (q 3)])), (b, .inr (9, [.int 0, .int 0, .int 0, .ref (z 0), .ref (z 1), .ref (z 2), .ref (z 3)])), (q 1, .inl (cs 0, 12, .inl (upd f_31 (Int32.toNatClampNeg (11 : Int32)) (0 : Int32)))), (q 2, .inl (cs 0, 12, .inl f_32)), (q 3, .inl (cs 2, 12, .inl f_33)), (z 1, .inl (cs 0, 12, .inl (fun _ => 0))), (z 2, .inl (cs 0, 12, .inl (fun _ => 0))), (z 3, .inl (cs 2, 12, .inl (fun _ => 0)))] := hD
  generalize upd f_31 (Int32.toNatClampNeg (11 : Int32)) (0 : Int32) = f_34 at hP hD
  refine lv_aload_n hx hb dX9_copyFrom_28 rfl (lv_at hl 1 rfl) ?_
  refine va_get (D := D) (ci := 9) (v := .ref (q 2)) (C := RX9) (T := TX9) (N := 7) hx hb hT i_X9 hown hK hP 0 rfl rfl 5 (by decide) (hT _ q_30) (fun _ h9 => h9) rfl dX9_copyFrom_29 ?_
  refine lv_iload_n hx hb dX9_copyFrom_32 rfl (lv_at hl 0 rfl) ?_
  refine lv_aload_n hx hb dX9_copyFrom_33 rfl (lv_at hl 2 rfl) ?_
  refine va_get (D := D) (ci := 9) (v := .ref (z 2)) (C := RX9) (T := TX9) (N := 7) hx hb hT i_X9 hown hK hP 1 rfl rfl 5 (by decide) (hT _ q_30) (fun _ h9 => h9) rfl dX9_copyFrom_34 ?_
  refine lv_iload_n hx hb dX9_copyFrom_37 rfl (lv_at hl 0 rfl) ?_
  refine va_iald hx hb hK hP 6 0 rfl rfl (by unfold vp_in; decide) dX9_copyFrom_38 ?_
  refine hz_ev 0 rfl ?_
  refine va_iast hx hb hK hP hD hS 3 0 rfl rfl (by unfold vp_in; decide) dX9_copyFrom_39 (fun H locs hP hD hS => ?_)
  have hP : va_P D classes [(a, .inr (9, [.int 0, .int 0, .int 0, .ref (q 0), .ref (q 1), .ref (q 2), .ref (q 3)])), (b, .inr (9, [.int 0, .int 0, .int 0, .ref (z 0), .ref (z 1), .ref (z 2), .ref (z 3)])), (q 1, .inl (cs 0, 12, .inl f_34)), (q 2, .inl (cs 0, 12, .inl (upd f_32 (Int32.toNatClampNeg (11 : Int32)) (0 : Int32)))), (q 3, .inl (cs 2, 12, .inl f_33)), (z 1, .inl (cs 0, 12, .inl (fun _ => 0))), (z 2, .inl (cs 0, 12, .inl (fun _ => 0))), (z 3, .inl (cs 2, 12, .inl (fun _ => 0)))] H := hP
  have hD : va_D A [(a, .inr (9, [.int 0, .int 0, .int 0, .ref (q 0), .ref (q 1), .ref (q 2), .ref (q 3)])), (b, .inr (9, [.int 0, .int 0, .int 0, .ref (z 0), .ref (z 1), .ref (z 2), .ref (z 3)])), (q 1, .inl (cs 0, 12, .inl f_34)), (q 2, .inl (cs 0, 12, .inl (upd f_32 (Int32.toNatClampNeg (11 : Int32)) (0 : Int32)))), (q 3, .inl (cs 2, 12, .inl f_33)), (z 1, .inl (cs 0, 12, .inl (fun _ => 0))), (z 2, .inl (cs 0, 12, .inl (fun _ => 0))), (z 3, .inl (cs 2, 12, .inl (fun _ => 0)))] := hD
  generalize upd f_32 (Int32.toNatClampNeg (11 : Int32)) (0 : Int32) = f_35 at hP hD
  refine lv_aload_n hx hb dX9_copyFrom_40 rfl (lv_at hl 1 rfl) ?_
  refine va_get (D := D) (ci := 9) (v := .ref (q 3)) (C := RX9) (T := TX9) (N := 7) hx hb hT i_X9 hown hK hP 0 rfl rfl 6 (by decide) (hT _ q_32) (fun _ h9 => h9) rfl dX9_copyFrom_41 ?_
  refine lv_iload_n hx hb dX9_copyFrom_44 rfl (lv_at hl 0 rfl) ?_
  refine lv_aload_n hx hb dX9_copyFrom_45 rfl (lv_at hl 2 rfl) ?_
  refine va_get (D := D) (ci := 9) (v := .ref (z 3)) (C := RX9) (T := TX9) (N := 7) hx hb hT i_X9 hown hK hP 1 rfl rfl 6 (by decide) (hT _ q_32) (fun _ h9 => h9) rfl dX9_copyFrom_46 ?_
  refine lv_iload_n hx hb dX9_copyFrom_49 rfl (lv_at hl 0 rfl) ?_
  refine va_zald hx hb hK hP 7 2 rfl rfl (by unfold vp_in; decide) dX9_copyFrom_50 ?_
  refine hz_ev 0 rfl ?_
  refine va_zast hx hb hK hP hD hS 4 2 rfl rfl (by unfold vp_in; decide) dX9_copyFrom_51 (fun H locs hP hD hS => ?_)
  have hP : va_P D classes [(a, .inr (9, [.int 0, .int 0, .int 0, .ref (q 0), .ref (q 1), .ref (q 2), .ref (q 3)])), (b, .inr (9, [.int 0, .int 0, .int 0, .ref (z 0), .ref (z 1), .ref (z 2), .ref (z 3)])), (q 1, .inl (cs 0, 12, .inl f_34)), (q 2, .inl (cs 0, 12, .inl f_35)), (q 3, .inl (cs 2, 12, .inl (upd f_33 (Int32.toNatClampNeg (11 : Int32)) (vp_nar .boolean (0 : Int32))))), (z 1, .inl (cs 0, 12, .inl (fun _ => 0))), (z 2, .inl (cs 0, 12, .inl (fun _ => 0))), (z 3, .inl (cs 2, 12, .inl (fun _ => 0)))] H := hP
  have hD : va_D A [(a, .inr (9, [.int 0, .int 0, .int 0, .ref (q 0), .ref (q 1), .ref (q 2), .ref (q 3)])), (b, .inr (9, [.int 0, .int 0, .int 0, .ref (z 0), .ref (z 1), .ref (z 2), .ref (z 3)])), (q 1, .inl (cs 0, 12, .inl f_34)), (q 2, .inl (cs 0, 12, .inl f_35)), (q 3, .inl (cs 2, 12, .inl (upd f_33 (Int32.toNatClampNeg (11 : Int32)) (vp_nar .boolean (0 : Int32))))), (z 1, .inl (cs 0, 12, .inl (fun _ => 0))), (z 2, .inl (cs 0, 12, .inl (fun _ => 0))), (z 3, .inl (cs 2, 12, .inl (fun _ => 0)))] := hD
  generalize upd f_33 (Int32.toNatClampNeg (11 : Int32)) (vp_nar .boolean (0 : Int32)) = f_36 at hP hD
  refine lv_iinc (v := 12) (lv' := [(2, .int 12), (0, .ref a), (1, .ref b)]) hx hb dX9_copyFrom_52 hl (k := 0) rfl (by decide) (by decide) rfl (fun ls hl => ?_)
  refine lv_goto (tgt := 10) hx hb dX9_copyFrom_55 (by decide) ?_
  refine lv_iload_n hx hb dX9_copyFrom_10 rfl (lv_at hl 0 rfl) ?_
  refine lv_bipush (v := 12) hx hb dX9_copyFrom_11 (by decide) ?_
  refine lv_icmp_ge (tgt := 58) hx hb dX9_copyFrom_13 (by decide) (fun _ => ?_) (fun z => absurd (by decide) z)
  exact W.vret hx hb hr (fun t ht hW => ⟨⟨(), rfl, trivial, trivial⟩, hS.F ht⟩) hS.2.2 dX9_copyFrom_58
