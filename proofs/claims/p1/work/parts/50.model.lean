theorem dX12_isFair_0 : decode cX12_isFair 0 = .ok (.aload_n 0, 1) := by decide +kernel
theorem dX12_isFair_1 : decode cX12_isFair 1 = .ok (.getfield 39, 3) := by decide +kernel
theorem dX12_isFair_4 : decode cX12_isFair 4 = .ok (.iconst 0, 1) := by decide +kernel
theorem dX12_isFair_5 : decode cX12_isFair 5 = .ok (.iaload, 1) := by decide +kernel
theorem dX12_isFair_6 : decode cX12_isFair 6 = .ok (.ifCond .le 7, 3) := by decide +kernel
theorem dX12_isFair_13 : decode cX12_isFair 13 = .ok (.iconst 0, 1) := by decide +kernel
theorem dX12_isFair_14 : decode cX12_isFair 14 = .ok (.ireturn, 1) := by decide +kernel
set_option maxHeartbeats 4000000 in
set_option maxRecDepth 100000 in
theorem c_X12_isFair (l : Launch) (D : va_G) (cs : Nat → ClassId) (kK kV : Nat → Nat) (g : Nat → Nat) : Met l yX12_isFair (hz_w yX12_isFair cX12_isFair 1 (some .boolean)) ({ frames := 0, cells := 0, slots := 0, locals := 0 }) (va_Pc [.ref (g 0)] (hz_P D cs kK kV [(g 0, .inr (12, [.ref (g 1), .int 0, .int 0, .ref (g 2), .ref (g 3), .ref (g 4), .ref (g 5), .ref (g 6), .int 0, .int 0, .int 0, .int 0, .int 0, .int 0, .int 0, .ref (g 7), .int 0, .ref (g 8), .int 0, .ref (g 9), .ref (g 10), .int 0, .ref (g 11), .ref (g 12), .ref (g 13), .int 0, .int 0, .ref (g 14), .ref (g 15), .int 0, .int 0, .int 0, .ref (g 16), .long 0, .ref (g 17), .ref (g 18), .ref (g 19)])), (g 10, .inl (cs 0, 123, .inl (fun _ => 0)))])) (va_Qi (fun (r : Int32) (_ : Unit) => r = 0) (fun _ t => True) (fun _ => False)) 0 0 (fun _ => False) := by
  refine Met.ofW (cc := cX12_isFair) (maxL := 1) (ret := (some .boolean)) (by decide) rfl ?_
  intro p e s m args below meth c s₁ B hml hv
  obtain ⟨rfl, hP, hE⟩ := hv
  have hx := B.exec
  have hb := B.bytes
  have hr := B.returns
  have hT : ∀ w ∈ TB, w.before _ s = true := fun w h => atoms_spec (ws := hz_w yX12_isFair cX12_isFair 1 (some .boolean)) B.pre w (List.mem_cons_of_mem _ h)
  have hown : s.vm.findClass RX12 = some m.cls := findClass_of_methodNamed B.named
  have hlocks := B.notSynchronized
  clear B
  have hS : va_S (fun _ => False) s.heap s.heap [] := va_S.rf
  have hP : va_P D classes [(g 0, .inr (12, [.ref (g 1), .int 0, .int 0, .ref (g 2), .ref (g 3), .ref (g 4), .ref (g 5), .ref (g 6), .int 0, .int 0, .int 0, .int 0, .int 0, .int 0, .int 0, .ref (g 7), .int 0, .ref (g 8), .int 0, .ref (g 9), .ref (g 10), .int 0, .ref (g 11), .ref (g 12), .ref (g 13), .int 0, .int 0, .ref (g 14), .ref (g 15), .int 0, .int 0, .int 0, .ref (g 16), .long 0, .ref (g 17), .ref (g 18), .ref (g 19)])), (g 10, .inl (cs 0, 123, .inl (fun _ => 0)))] s.heap := hP
  have hK := hE.1
  have hl := lv_entry ([.ref (g 0)]) (n := 1) (Nat.le_of_ble_eq_true rfl)
  rw [lg_entry_eq]
  generalize (lg_sl ([.ref (g 0)]) ++ List.replicate (1 - (lg_sl ([.ref (g 0)])).length) Slot.unset).toArray = ls at hl ⊢
  have hl : lv_has ls 1 [(0, .ref (g 0))] := hl
  obtain ⟨H, eH⟩ : ∃ z, z = s.heap := ⟨_, rfl⟩
  have hP : va_P D classes [(g 0, .inr (12, [.ref (g 1), .int 0, .int 0, .ref (g 2), .ref (g 3), .ref (g 4), .ref (g 5), .ref (g 6), .int 0, .int 0, .int 0, .int 0, .int 0, .int 0, .int 0, .ref (g 7), .int 0, .ref (g 8), .int 0, .ref (g 9), .ref (g 10), .int 0, .ref (g 11), .ref (g 12), .ref (g 13), .int 0, .int 0, .ref (g 14), .ref (g 15), .int 0, .int 0, .int 0, .ref (g 16), .long 0, .ref (g 17), .ref (g 18), .ref (g 19)])), (g 10, .inl (cs 0, 123, .inl (fun _ => 0)))] H := by rw [eH]; exact hP
  have hS : va_S (fun _ => False) s.heap H [] := by rw [eH]; exact hS
  rw [← eH]
  clear eH
  refine lv_aload_n hx hb dX12_isFair_0 rfl (lv_at hl 0 rfl) ?_
  refine va_get (D := D) (ci := 12) (v := .ref (g 10)) (C := RX12) (T := TX12) (N := 37) hx hb hT i_X12 hown hK hP 0 rfl rfl 20 (by decide) (hT _ q_247) (fun _ h9 => h9) rfl dX12_isFair_1 ?_
  refine lv_iconst (v := 0) hx hb dX12_isFair_4 (by decide) ?_
  refine va_iald hx hb hK hP 1 0 rfl rfl (by unfold vp_in; decide) dX12_isFair_5 ?_
  refine hz_ev 0 rfl ?_
  refine lv_if_le (tgt := 13) hx hb dX12_isFair_6 (by decide) (fun _ => ?_) (fun z => absurd (by decide) z)
  refine lv_iconst (v := 0) hx hb dX12_isFair_13 (by decide) ?_
  exact W.zret (v := 0) hx hb hr rfl (fun t ht hW => ⟨⟨0, (), rfl, rfl, trivial⟩, hS.F ht⟩) hS.2.2 dX12_isFair_14
theorem dX12_isHalf_0 : decode cX12_isHalf 0 = .ok (.iload_n 1, 1) := by decide +kernel
theorem dX12_isHalf_1 : decode cX12_isHalf 1 = .ok (.ifCond .lt 17, 3) := by decide +kernel
theorem dX12_isHalf_4 : decode cX12_isHalf 4 = .ok (.iload_n 1, 1) := by decide +kernel
theorem dX12_isHalf_5 : decode cX12_isHalf 5 = .ok (.aload_n 0, 1) := by decide +kernel
theorem dX12_isHalf_6 : decode cX12_isHalf 6 = .ok (.getfield 39, 3) := by decide +kernel
theorem dX12_isHalf_9 : decode cX12_isHalf 9 = .ok (.iconst 1, 1) := by decide +kernel
theorem dX12_isHalf_10 : decode cX12_isHalf 10 = .ok (.iaload, 1) := by decide +kernel
theorem dX12_isHalf_11 : decode cX12_isHalf 11 = .ok (.if_icmp .ge 7, 3) := by decide +kernel
theorem dX12_isHalf_18 : decode cX12_isHalf 18 = .ok (.iconst 0, 1) := by decide +kernel
theorem dX12_isHalf_19 : decode cX12_isHalf 19 = .ok (.ireturn, 1) := by decide +kernel
set_option maxHeartbeats 4000000 in
set_option maxRecDepth 100000 in
theorem c_X12_isHalf (l : Launch) (D : va_G) (cs : Nat → ClassId) (kK kV : Nat → Nat) (g : Nat → Nat) (p0 : Int32) : Met l yX12_isHalf (hz_w yX12_isHalf cX12_isHalf 2 (some .boolean)) ({ frames := 0, cells := 0, slots := 0, locals := 0 }) (va_Pc [.ref (g 0), .int p0] (hz_P D cs kK kV [(g 0, .inr (12, [.ref (g 1), .int 0, .int 0, .ref (g 2), .ref (g 3), .ref (g 4), .ref (g 5), .ref (g 6), .int 0, .int 0, .int 0, .int 0, .int 0, .int 0, .int 0, .ref (g 7), .int 0, .ref (g 8), .int 0, .ref (g 9), .ref (g 10), .int 0, .ref (g 11), .ref (g 12), .ref (g 13), .int 0, .int 0, .ref (g 14), .ref (g 15), .int 0, .int 0, .int 0, .ref (g 16), .long 0, .ref (g 17), .ref (g 18), .ref (g 19)])), (g 10, .inl (cs 0, 123, .inl (fun _ => 0)))])) (va_Qi (fun (r : Int32) (_ : Unit) => r = 0) (fun _ t => True) (fun _ => False)) 0 0 (fun _ => False) := by
  refine Met.ofW (cc := cX12_isHalf) (maxL := 2) (ret := (some .boolean)) (by decide) rfl ?_
  intro p e s m args below meth c s₁ B hml hv
  obtain ⟨rfl, hP, hE⟩ := hv
  have hx := B.exec
  have hb := B.bytes
  have hr := B.returns
  have hT : ∀ w ∈ TB, w.before _ s = true := fun w h => atoms_spec (ws := hz_w yX12_isHalf cX12_isHalf 2 (some .boolean)) B.pre w (List.mem_cons_of_mem _ h)
  have hown : s.vm.findClass RX12 = some m.cls := findClass_of_methodNamed B.named
  have hlocks := B.notSynchronized
  clear B
  have hS : va_S (fun _ => False) s.heap s.heap [] := va_S.rf
  have hP : va_P D classes [(g 0, .inr (12, [.ref (g 1), .int 0, .int 0, .ref (g 2), .ref (g 3), .ref (g 4), .ref (g 5), .ref (g 6), .int 0, .int 0, .int 0, .int 0, .int 0, .int 0, .int 0, .ref (g 7), .int 0, .ref (g 8), .int 0, .ref (g 9), .ref (g 10), .int 0, .ref (g 11), .ref (g 12), .ref (g 13), .int 0, .int 0, .ref (g 14), .ref (g 15), .int 0, .int 0, .int 0, .ref (g 16), .long 0, .ref (g 17), .ref (g 18), .ref (g 19)])), (g 10, .inl (cs 0, 123, .inl (fun _ => 0)))] s.heap := hP
  have hK := hE.1
  have hl := lv_entry ([.ref (g 0), .int p0]) (n := 2) (Nat.le_of_ble_eq_true rfl)
  rw [lg_entry_eq]
  generalize (lg_sl ([.ref (g 0), .int p0]) ++ List.replicate (2 - (lg_sl ([.ref (g 0), .int p0])).length) Slot.unset).toArray = ls at hl ⊢
  have hl : lv_has ls 2 [(0, .ref (g 0)), (1, .int p0)] := hl
  obtain ⟨H, eH⟩ : ∃ z, z = s.heap := ⟨_, rfl⟩
  have hP : va_P D classes [(g 0, .inr (12, [.ref (g 1), .int 0, .int 0, .ref (g 2), .ref (g 3), .ref (g 4), .ref (g 5), .ref (g 6), .int 0, .int 0, .int 0, .int 0, .int 0, .int 0, .int 0, .ref (g 7), .int 0, .ref (g 8), .int 0, .ref (g 9), .ref (g 10), .int 0, .ref (g 11), .ref (g 12), .ref (g 13), .int 0, .int 0, .ref (g 14), .ref (g 15), .int 0, .int 0, .int 0, .ref (g 16), .long 0, .ref (g 17), .ref (g 18), .ref (g 19)])), (g 10, .inl (cs 0, 123, .inl (fun _ => 0)))] H := by rw [eH]; exact hP
  have hS : va_S (fun _ => False) s.heap H [] := by rw [eH]; exact hS
  rw [← eH]
  clear eH
  refine lv_iload_n hx hb dX12_isHalf_0 rfl (lv_at hl 1 rfl) ?_
  refine lv_if_lt (tgt := 18) hx hb dX12_isHalf_1 (by decide) (fun c_1 => ?_) (fun c_1 => ?_)
  · refine lv_iconst (v := 0) hx hb dX12_isHalf_18 (by decide) ?_
    exact W.zret (v := 0) hx hb hr rfl (fun t ht hW => ⟨⟨0, (), rfl, rfl, trivial⟩, hS.F ht⟩) hS.2.2 dX12_isHalf_19
  · refine lv_iload_n hx hb dX12_isHalf_4 rfl (lv_at hl 1 rfl) ?_
    refine lv_aload_n hx hb dX12_isHalf_5 rfl (lv_at hl 0 rfl) ?_
    refine va_get (D := D) (ci := 12) (v := .ref (g 10)) (C := RX12) (T := TX12) (N := 37) hx hb hT i_X12 hown hK hP 0 rfl rfl 20 (by decide) (hT _ q_247) (fun _ h9 => h9) rfl dX12_isHalf_6 ?_
    refine lv_iconst (v := 1) hx hb dX12_isHalf_9 (by decide) ?_
    refine va_iald hx hb hK hP 1 0 rfl rfl (by unfold vp_in; decide) dX12_isHalf_10 ?_
    refine hz_ev 0 rfl ?_
    refine lv_icmp_ge (tgt := 18) hx hb dX12_isHalf_11 (by decide) (fun _ => ?_) (fun z => absurd (Int32.not_lt.mp c_1) z)
    refine lv_iconst (v := 0) hx hb dX12_isHalf_18 (by decide) ?_
    exact W.zret (v := 0) hx hb hr rfl (fun t ht hW => ⟨⟨0, (), rfl, rfl, trivial⟩, hS.F ht⟩) hS.2.2 dX12_isHalf_19
theorem dX12_isBuyer_0 : decode cX12_isBuyer 0 = .ok (.iload_n 1, 1) := by decide +kernel
theorem dX12_isBuyer_1 : decode cX12_isBuyer 1 = .ok (.ifCond .lt 17, 3) := by decide +kernel
theorem dX12_isBuyer_4 : decode cX12_isBuyer 4 = .ok (.iload_n 1, 1) := by decide +kernel
theorem dX12_isBuyer_5 : decode cX12_isBuyer 5 = .ok (.aload_n 0, 1) := by decide +kernel
theorem dX12_isBuyer_6 : decode cX12_isBuyer 6 = .ok (.getfield 39, 3) := by decide +kernel
theorem dX12_isBuyer_9 : decode cX12_isBuyer 9 = .ok (.iconst 2, 1) := by decide +kernel
theorem dX12_isBuyer_10 : decode cX12_isBuyer 10 = .ok (.iaload, 1) := by decide +kernel
theorem dX12_isBuyer_11 : decode cX12_isBuyer 11 = .ok (.if_icmp .ge 7, 3) := by decide +kernel
theorem dX12_isBuyer_18 : decode cX12_isBuyer 18 = .ok (.iconst 0, 1) := by decide +kernel
theorem dX12_isBuyer_19 : decode cX12_isBuyer 19 = .ok (.ireturn, 1) := by decide +kernel
set_option maxHeartbeats 4000000 in
set_option maxRecDepth 100000 in
theorem c_X12_isBuyer (l : Launch) (D : va_G) (cs : Nat → ClassId) (kK kV : Nat → Nat) (g : Nat → Nat) (p0 : Int32) : Met l yX12_isBuyer (hz_w yX12_isBuyer cX12_isBuyer 2 (some .boolean)) ({ frames := 0, cells := 0, slots := 0, locals := 0 }) (va_Pc [.ref (g 0), .int p0] (hz_P D cs kK kV [(g 0, .inr (12, [.ref (g 1), .int 0, .int 0, .ref (g 2), .ref (g 3), .ref (g 4), .ref (g 5), .ref (g 6), .int 0, .int 0, .int 0, .int 0, .int 0, .int 0, .int 0, .ref (g 7), .int 0, .ref (g 8), .int 0, .ref (g 9), .ref (g 10), .int 0, .ref (g 11), .ref (g 12), .ref (g 13), .int 0, .int 0, .ref (g 14), .ref (g 15), .int 0, .int 0, .int 0, .ref (g 16), .long 0, .ref (g 17), .ref (g 18), .ref (g 19)])), (g 10, .inl (cs 0, 123, .inl (fun _ => 0)))])) (va_Qi (fun (r : Int32) (_ : Unit) => r = 0) (fun _ t => True) (fun _ => False)) 0 0 (fun _ => False) := by
  refine Met.ofW (cc := cX12_isBuyer) (maxL := 2) (ret := (some .boolean)) (by decide) rfl ?_
  intro p e s m args below meth c s₁ B hml hv
  obtain ⟨rfl, hP, hE⟩ := hv
  have hx := B.exec
  have hb := B.bytes
  have hr := B.returns
  have hT : ∀ w ∈ TB, w.before _ s = true := fun w h => atoms_spec (ws := hz_w yX12_isBuyer cX12_isBuyer 2 (some .boolean)) B.pre w (List.mem_cons_of_mem _ h)
  have hown : s.vm.findClass RX12 = some m.cls := findClass_of_methodNamed B.named
  have hlocks := B.notSynchronized
  clear B
  have hS : va_S (fun _ => False) s.heap s.heap [] := va_S.rf
  have hP : va_P D classes [(g 0, .inr (12, [.ref (g 1), .int 0, .int 0, .ref (g 2), .ref (g 3), .ref (g 4), .ref (g 5), .ref (g 6), .int 0, .int 0, .int 0, .int 0, .int 0, .int 0, .int 0, .ref (g 7), .int 0, .ref (g 8), .int 0, .ref (g 9), .ref (g 10), .int 0, .ref (g 11), .ref (g 12), .ref (g 13), .int 0, .int 0, .ref (g 14), .ref (g 15), .int 0, .int 0, .int 0, .ref (g 16), .long 0, .ref (g 17), .ref (g 18), .ref (g 19)])), (g 10, .inl (cs 0, 123, .inl (fun _ => 0)))] s.heap := hP
  have hK := hE.1
  have hl := lv_entry ([.ref (g 0), .int p0]) (n := 2) (Nat.le_of_ble_eq_true rfl)
  rw [lg_entry_eq]
  generalize (lg_sl ([.ref (g 0), .int p0]) ++ List.replicate (2 - (lg_sl ([.ref (g 0), .int p0])).length) Slot.unset).toArray = ls at hl ⊢
  have hl : lv_has ls 2 [(0, .ref (g 0)), (1, .int p0)] := hl
  obtain ⟨H, eH⟩ : ∃ z, z = s.heap := ⟨_, rfl⟩
  have hP : va_P D classes [(g 0, .inr (12, [.ref (g 1), .int 0, .int 0, .ref (g 2), .ref (g 3), .ref (g 4), .ref (g 5), .ref (g 6), .int 0, .int 0, .int 0, .int 0, .int 0, .int 0, .int 0, .ref (g 7), .int 0, .ref (g 8), .int 0, .ref (g 9), .ref (g 10), .int 0, .ref (g 11), .ref (g 12), .ref (g 13), .int 0, .int 0, .ref (g 14), .ref (g 15), .int 0, .int 0, .int 0, .ref (g 16), .long 0, .ref (g 17), .ref (g 18), .ref (g 19)])), (g 10, .inl (cs 0, 123, .inl (fun _ => 0)))] H := by rw [eH]; exact hP
  have hS : va_S (fun _ => False) s.heap H [] := by rw [eH]; exact hS
  rw [← eH]
  clear eH
  refine lv_iload_n hx hb dX12_isBuyer_0 rfl (lv_at hl 1 rfl) ?_
  refine lv_if_lt (tgt := 18) hx hb dX12_isBuyer_1 (by decide) (fun c_1 => ?_) (fun c_1 => ?_)
  · refine lv_iconst (v := 0) hx hb dX12_isBuyer_18 (by decide) ?_
    exact W.zret (v := 0) hx hb hr rfl (fun t ht hW => ⟨⟨0, (), rfl, rfl, trivial⟩, hS.F ht⟩) hS.2.2 dX12_isBuyer_19
  · refine lv_iload_n hx hb dX12_isBuyer_4 rfl (lv_at hl 1 rfl) ?_
    refine lv_aload_n hx hb dX12_isBuyer_5 rfl (lv_at hl 0 rfl) ?_
    refine va_get (D := D) (ci := 12) (v := .ref (g 10)) (C := RX12) (T := TX12) (N := 37) hx hb hT i_X12 hown hK hP 0 rfl rfl 20 (by decide) (hT _ q_247) (fun _ h9 => h9) rfl dX12_isBuyer_6 ?_
    refine lv_iconst (v := 2) hx hb dX12_isBuyer_9 (by decide) ?_
    refine va_iald hx hb hK hP 1 0 rfl rfl (by unfold vp_in; decide) dX12_isBuyer_10 ?_
    refine hz_ev 0 rfl ?_
    refine lv_icmp_ge (tgt := 18) hx hb dX12_isBuyer_11 (by decide) (fun _ => ?_) (fun z => absurd (Int32.not_lt.mp c_1) z)
    refine lv_iconst (v := 0) hx hb dX12_isBuyer_18 (by decide) ?_
    exact W.zret (v := 0) hx hb hr rfl (fun t ht hW => ⟨⟨0, (), rfl, rfl, trivial⟩, hS.F ht⟩) hS.2.2 dX12_isBuyer_19
theorem dX12_isRule_0 : decode cX12_isRule 0 = .ok (.iload_n 1, 1) := by decide +kernel
theorem dX12_isRule_1 : decode cX12_isRule 1 = .ok (.ifCond .lt 15, 3) := by decide +kernel
theorem dX12_isRule_4 : decode cX12_isRule 4 = .ok (.iload_n 1, 1) := by decide +kernel
theorem dX12_isRule_5 : decode cX12_isRule 5 = .ok (.aload_n 0, 1) := by decide +kernel
theorem dX12_isRule_6 : decode cX12_isRule 6 = .ok (.getfield 268, 3) := by decide +kernel
theorem dX12_isRule_9 : decode cX12_isRule 9 = .ok (.if_icmp .ge 7, 3) := by decide +kernel
theorem dX12_isRule_16 : decode cX12_isRule 16 = .ok (.iconst 0, 1) := by decide +kernel
theorem dX12_isRule_17 : decode cX12_isRule 17 = .ok (.ireturn, 1) := by decide +kernel
set_option maxHeartbeats 4000000 in
set_option maxRecDepth 100000 in
theorem c_X12_isRule (l : Launch) (D : va_G) (cs : Nat → ClassId) (kK kV : Nat → Nat) (g : Nat → Nat) (p0 : Int32) : Met l yX12_isRule (hz_w yX12_isRule cX12_isRule 2 (some .boolean)) ({ frames := 0, cells := 0, slots := 0, locals := 0 }) (va_Pc [.ref (g 0), .int p0] (hz_P D cs kK kV [(g 0, .inr (12, [.ref (g 1), .int 0, .int 0, .ref (g 2), .ref (g 3), .ref (g 4), .ref (g 5), .ref (g 6), .int 0, .int 0, .int 0, .int 0, .int 0, .int 0, .int 0, .ref (g 7), .int 0, .ref (g 8), .int 0, .ref (g 9), .ref (g 10), .int 0, .ref (g 11), .ref (g 12), .ref (g 13), .int 0, .int 0, .ref (g 14), .ref (g 15), .int 0, .int 0, .int 0, .ref (g 16), .long 0, .ref (g 17), .ref (g 18), .ref (g 19)]))])) (va_Qi (fun (r : Int32) (_ : Unit) => r = 0) (fun _ t => True) (fun _ => False)) 0 0 (fun _ => False) := by
  refine Met.ofW (cc := cX12_isRule) (maxL := 2) (ret := (some .boolean)) (by decide) rfl ?_
  intro p e s m args below meth c s₁ B hml hv
  obtain ⟨rfl, hP, hE⟩ := hv
  have hx := B.exec
  have hb := B.bytes
  have hr := B.returns
  have hT : ∀ w ∈ TB, w.before _ s = true := fun w h => atoms_spec (ws := hz_w yX12_isRule cX12_isRule 2 (some .boolean)) B.pre w (List.mem_cons_of_mem _ h)
  have hown : s.vm.findClass RX12 = some m.cls := findClass_of_methodNamed B.named
  have hlocks := B.notSynchronized
  clear B
  have hS : va_S (fun _ => False) s.heap s.heap [] := va_S.rf
  have hP : va_P D classes [(g 0, .inr (12, [.ref (g 1), .int 0, .int 0, .ref (g 2), .ref (g 3), .ref (g 4), .ref (g 5), .ref (g 6), .int 0, .int 0, .int 0, .int 0, .int 0, .int 0, .int 0, .ref (g 7), .int 0, .ref (g 8), .int 0, .ref (g 9), .ref (g 10), .int 0, .ref (g 11), .ref (g 12), .ref (g 13), .int 0, .int 0, .ref (g 14), .ref (g 15), .int 0, .int 0, .int 0, .ref (g 16), .long 0, .ref (g 17), .ref (g 18), .ref (g 19)]))] s.heap := hP
  have hK := hE.1
  have hl := lv_entry ([.ref (g 0), .int p0]) (n := 2) (Nat.le_of_ble_eq_true rfl)
  rw [lg_entry_eq]
  generalize (lg_sl ([.ref (g 0), .int p0]) ++ List.replicate (2 - (lg_sl ([.ref (g 0), .int p0])).length) Slot.unset).toArray = ls at hl ⊢
  have hl : lv_has ls 2 [(0, .ref (g 0)), (1, .int p0)] := hl
  obtain ⟨H, eH⟩ : ∃ z, z = s.heap := ⟨_, rfl⟩
  have hP : va_P D classes [(g 0, .inr (12, [.ref (g 1), .int 0, .int 0, .ref (g 2), .ref (g 3), .ref (g 4), .ref (g 5), .ref (g 6), .int 0, .int 0, .int 0, .int 0, .int 0, .int 0, .int 0, .ref (g 7), .int 0, .ref (g 8), .int 0, .ref (g 9), .ref (g 10), .int 0, .ref (g 11), .ref (g 12), .ref (g 13), .int 0, .int 0, .ref (g 14), .ref (g 15), .int 0, .int 0, .int 0, .ref (g 16), .long 0, .ref (g 17), .ref (g 18), .ref (g 19)]))] H := by rw [eH]; exact hP
  have hS : va_S (fun _ => False) s.heap H [] := by rw [eH]; exact hS
  rw [← eH]
  clear eH
  refine lv_iload_n hx hb dX12_isRule_0 rfl (lv_at hl 1 rfl) ?_
  refine lv_if_lt (tgt := 16) hx hb dX12_isRule_1 (by decide) (fun c_1 => ?_) (fun c_1 => ?_)
  · refine lv_iconst (v := 0) hx hb dX12_isRule_16 (by decide) ?_
    exact W.zret (v := 0) hx hb hr rfl (fun t ht hW => ⟨⟨0, (), rfl, rfl, trivial⟩, hS.F ht⟩) hS.2.2 dX12_isRule_17
  · refine lv_iload_n hx hb dX12_isRule_4 rfl (lv_at hl 1 rfl) ?_
    refine lv_aload_n hx hb dX12_isRule_5 rfl (lv_at hl 0 rfl) ?_
    refine va_get (D := D) (ci := 12) (v := .int 0) (C := RX12) (T := TX12) (N := 37) hx hb hT i_X12 hown hK hP 0 rfl rfl 2 (by decide) (hT _ q_248) (fun _ h9 => h9) rfl dX12_isRule_6 ?_
    refine lv_icmp_ge (tgt := 16) hx hb dX12_isRule_9 (by decide) (fun _ => ?_) (fun z => absurd (Int32.not_lt.mp c_1) z)
    refine lv_iconst (v := 0) hx hb dX12_isRule_16 (by decide) ?_
    exact W.zret (v := 0) hx hb hr rfl (fun t ht hW => ⟨⟨0, (), rfl, rfl, trivial⟩, hS.F ht⟩) hS.2.2 dX12_isRule_17
theorem dX12_isSet_0 : decode cX12_isSet 0 = .ok (.aload_n 0, 1) := by decide +kernel
theorem dX12_isSet_1 : decode cX12_isSet 1 = .ok (.invokevirtual 329, 3) := by decide +kernel
theorem dX12_isSet_4 : decode cX12_isSet 4 = .ok (.ifCond .eq 23, 3) := by decide +kernel
theorem dX12_isSet_27 : decode cX12_isSet 27 = .ok (.iconst 0, 1) := by decide +kernel
theorem dX12_isSet_28 : decode cX12_isSet 28 = .ok (.ireturn, 1) := by decide +kernel
set_option maxHeartbeats 4000000 in
set_option maxRecDepth 100000 in
theorem c_X12_isSet (l : Launch) (D : va_G) (cs : Nat → ClassId) (kK kV : Nat → Nat) (g : Nat → Nat) (p0 : Int32) : Met l yX12_isSet (hz_w yX12_isSet cX12_isSet 2 (some .boolean)) ({ frames := 1, cells := 0, slots := 0, locals := 20 }) (va_Pc [.ref (g 0), .int p0] (hz_P D cs kK kV [(g 0, .inr (12, [.ref (g 1), .int 0, .int 0, .ref (g 2), .ref (g 3), .ref (g 4), .ref (g 5), .ref (g 6), .int 0, .int 0, .int 0, .int 0, .int 0, .int 0, .int 0, .ref (g 7), .int 0, .ref (g 8), .int 0, .ref (g 9), .ref (g 10), .int 0, .ref (g 11), .ref (g 12), .ref (g 13), .int 0, .int 0, .ref (g 14), .ref (g 15), .int 0, .int 0, .int 0, .ref (g 16), .long 0, .ref (g 17), .ref (g 18), .ref (g 19)])), (g 10, .inl (cs 0, 123, .inl (fun _ => 0)))])) (va_Qi (fun (r : Int32) (_ : Unit) => r = 0) (fun _ t => True) (fun _ => False)) 0 0 (fun _ => False) := by
  refine Met.ofW (cc := cX12_isSet) (maxL := 2) (ret := (some .boolean)) (by decide) rfl ?_
  intro p e s m args below meth c s₁ B hml hv
  obtain ⟨rfl, hP, hE⟩ := hv
  have hx := B.exec
  have hb := B.bytes
  have hr := B.returns
  have hT : ∀ w ∈ TB, w.before _ s = true := fun w h => atoms_spec (ws := hz_w yX12_isSet cX12_isSet 2 (some .boolean)) B.pre w (List.mem_cons_of_mem _ h)
  have hown : s.vm.findClass RX12 = some m.cls := findClass_of_methodNamed B.named
  have hlocks := B.notSynchronized
  clear B
  have hS : va_S (fun _ => False) s.heap s.heap [] := va_S.rf
  have hP : va_P D classes [(g 0, .inr (12, [.ref (g 1), .int 0, .int 0, .ref (g 2), .ref (g 3), .ref (g 4), .ref (g 5), .ref (g 6), .int 0, .int 0, .int 0, .int 0, .int 0, .int 0, .int 0, .ref (g 7), .int 0, .ref (g 8), .int 0, .ref (g 9), .ref (g 10), .int 0, .ref (g 11), .ref (g 12), .ref (g 13), .int 0, .int 0, .ref (g 14), .ref (g 15), .int 0, .int 0, .int 0, .ref (g 16), .long 0, .ref (g 17), .ref (g 18), .ref (g 19)])), (g 10, .inl (cs 0, 123, .inl (fun _ => 0)))] s.heap := hP
  have hK := hE.1
  have hl := lv_entry ([.ref (g 0), .int p0]) (n := 2) (Nat.le_of_ble_eq_true rfl)
  rw [lg_entry_eq]
  generalize (lg_sl ([.ref (g 0), .int p0]) ++ List.replicate (2 - (lg_sl ([.ref (g 0), .int p0])).length) Slot.unset).toArray = ls at hl ⊢
  have hl : lv_has ls 2 [(0, .ref (g 0)), (1, .int p0)] := hl
  obtain ⟨H, eH⟩ : ∃ z, z = s.heap := ⟨_, rfl⟩
  have hP : va_P D classes [(g 0, .inr (12, [.ref (g 1), .int 0, .int 0, .ref (g 2), .ref (g 3), .ref (g 4), .ref (g 5), .ref (g 6), .int 0, .int 0, .int 0, .int 0, .int 0, .int 0, .int 0, .ref (g 7), .int 0, .ref (g 8), .int 0, .ref (g 9), .ref (g 10), .int 0, .ref (g 11), .ref (g 12), .ref (g 13), .int 0, .int 0, .ref (g 14), .ref (g 15), .int 0, .int 0, .int 0, .ref (g 16), .long 0, .ref (g 17), .ref (g 18), .ref (g 19)])), (g 10, .inl (cs 0, 123, .inl (fun _ => 0)))] H := by rw [eH]; exact hP
  have hS : va_S (fun _ => False) s.heap H [] := by rw [eH]; exact hS
  rw [← eH]
  clear eH
  refine lv_aload_n hx hb dX12_isSet_0 rfl (lv_at hl 0 rfl) ?_
  refine va_calli (va_runV (As := []) (rest := []) ⟨hx, hb, hml, hown, hT⟩ (c_X12_isFair l D cs kK kV g) (cwV 0 hT (hz_gV q_249 q_250 q_251 q_252 q_253) rfl rfl rfl (by decide +kernel) ⟨(Nat.le_of_ble_eq_true rfl), (Nat.le_of_ble_eq_true rfl)⟩) ⟨hz_P.blind, va_recv hK hP (ci := 12) (q0 := 0) rfl rfl, hz_P.mk (hP.sub (ws' := [(g 0, .inr (12, [.ref (g 1), .int 0, .int 0, .ref (g 2), .ref (g 3), .ref (g 4), .ref (g 5), .ref (g 6), .int 0, .int 0, .int 0, .int 0, .int 0, .int 0, .int 0, .ref (g 7), .int 0, .ref (g 8), .int 0, .ref (g 9), .ref (g 10), .int 0, .ref (g 11), .ref (g 12), .ref (g 13), .int 0, .int 0, .ref (g 14), .ref (g 15), .int 0, .int 0, .int 0, .ref (g 16), .long 0, .ref (g 17), .ref (g 18), .ref (g 19)])), (g 10, .inl (cs 0, 123, .inl (fun _ => 0)))]) [0,1] rfl) hE hS⟩ rfl rfl hl.1 rfl (lv_room (Nat.le_of_ble_eq_true rfl)) dX12_isSet_1 ⟨(Nat.le_of_ble_eq_true rfl), (Nat.le_of_ble_eq_true rfl)⟩) hS (fun _ _ h => h.elim) (fun _ h => h.elim) (fun r_1 u t H1 locs ht hvm hw hB hz1 hk1 hS => ?_)
  have hP := hz_keep hP hk1
  clear hk1 hB hz1
  generalize H1 = H at hP hS ⊢
  subst hw
  refine lv_if_eq (tgt := 27) hx hb dX12_isSet_4 (by decide) (fun _ => ?_) (fun z => absurd (by decide) z)
  refine lv_iconst (v := 0) hx hb dX12_isSet_27 (by decide) ?_
  exact W.zret (v := 0) hx hb hr rfl (fun t ht hW => ⟨⟨0, (), rfl, rfl, trivial⟩, hS.F ht⟩) hS.2.2 dX12_isSet_28
theorem dX12_areTheirs_0 : decode cX12_areTheirs 0 = .ok (.aload_n 0, 1) := by decide +kernel
theorem dX12_areTheirs_1 : decode cX12_areTheirs 1 = .ok (.iload_n 1, 1) := by decide +kernel
theorem dX12_areTheirs_2 : decode cX12_areTheirs 2 = .ok (.invokevirtual 343, 3) := by decide +kernel
theorem dX12_areTheirs_5 : decode cX12_areTheirs 5 = .ok (.ifCond .eq 64, 3) := by decide +kernel
theorem dX12_areTheirs_69 : decode cX12_areTheirs 69 = .ok (.iconst 0, 1) := by decide +kernel
theorem dX12_areTheirs_70 : decode cX12_areTheirs 70 = .ok (.ireturn, 1) := by decide +kernel
set_option maxHeartbeats 4000000 in
set_option maxRecDepth 100000 in
theorem c_X12_areTheirs (l : Launch) (D : va_G) (cs : Nat → ClassId) (kK kV : Nat → Nat) (g : Nat → Nat) (p0 : Int32) (p1 : Int32) (p2 : Int32) (p3 : Int32) : Met l yX12_areTheirs (hz_w yX12_areTheirs cX12_areTheirs 5 (some .boolean)) ({ frames := 1, cells := 0, slots := 0, locals := 21 }) (va_Pc [.ref (g 0), .int p0, .int p1, .int p2, .int p3] (hz_P D cs kK kV [(g 0, .inr (12, [.ref (g 1), .int 0, .int 0, .ref (g 2), .ref (g 3), .ref (g 4), .ref (g 5), .ref (g 6), .int 0, .int 0, .int 0, .int 0, .int 0, .int 0, .int 0, .ref (g 7), .int 0, .ref (g 8), .int 0, .ref (g 9), .ref (g 10), .int 0, .ref (g 11), .ref (g 12), .ref (g 13), .int 0, .int 0, .ref (g 14), .ref (g 15), .int 0, .int 0, .int 0, .ref (g 16), .long 0, .ref (g 17), .ref (g 18), .ref (g 19)])), (g 10, .inl (cs 0, 123, .inl (fun _ => 0)))])) (va_Qi (fun (r : Int32) (_ : Unit) => r = 0) (fun _ t => True) (fun _ => False)) 0 0 (fun _ => False) := by
  refine Met.ofW (cc := cX12_areTheirs) (maxL := 5) (ret := (some .boolean)) (by decide) rfl ?_
  intro p e s m args below meth c s₁ B hml hv
  obtain ⟨rfl, hP, hE⟩ := hv
  have hx := B.exec
  have hb := B.bytes
  have hr := B.returns
  have hT : ∀ w ∈ TB, w.before _ s = true := fun w h => atoms_spec (ws := hz_w yX12_areTheirs cX12_areTheirs 5 (some .boolean)) B.pre w (List.mem_cons_of_mem _ h)
  have hown : s.vm.findClass RX12 = some m.cls := findClass_of_methodNamed B.named
  have hlocks := B.notSynchronized
  clear B
  have hS : va_S (fun _ => False) s.heap s.heap [] := va_S.rf
  have hP : va_P D classes [(g 0, .inr (12, [.ref (g 1), .int 0, .int 0, .ref (g 2), .ref (g 3), .ref (g 4), .ref (g 5), .ref (g 6), .int 0, .int 0, .int 0, .int 0, .int 0, .int 0, .int 0, .ref (g 7), .int 0, .ref (g 8), .int 0, .ref (g 9), .ref (g 10), .int 0, .ref (g 11), .ref (g 12), .ref (g 13), .int 0, .int 0, .ref (g 14), .ref (g 15), .int 0, .int 0, .int 0, .ref (g 16), .long 0, .ref (g 17), .ref (g 18), .ref (g 19)])), (g 10, .inl (cs 0, 123, .inl (fun _ => 0)))] s.heap := hP
  have hK := hE.1
  have hl := lv_entry ([.ref (g 0), .int p0, .int p1, .int p2, .int p3]) (n := 5) (Nat.le_of_ble_eq_true rfl)
  rw [lg_entry_eq]
  generalize (lg_sl ([.ref (g 0), .int p0, .int p1, .int p2, .int p3]) ++ List.replicate (5 - (lg_sl ([.ref (g 0), .int p0, .int p1, .int p2, .int p3])).length) Slot.unset).toArray = ls at hl ⊢
  have hl : lv_has ls 5 [(0, .ref (g 0)), (1, .int p0), (2, .int p1), (3, .int p2), (4, .int p3)] := hl
  obtain ⟨H, eH⟩ : ∃ z, z = s.heap := ⟨_, rfl⟩
  have hP : va_P D classes [(g 0, .inr (12, [.ref (g 1), .int 0, .int 0, .ref (g 2), .ref (g 3), .ref (g 4), .ref (g 5), .ref (g 6), .int 0, .int 0, .int 0, .int 0, .int 0, .int 0, .int 0, .ref (g 7), .int 0, .ref (g 8), .int 0, .ref (g 9), .ref (g 10), .int 0, .ref (g 11), .ref (g 12), .ref (g 13), .int 0, .int 0, .ref (g 14), .ref (g 15), .int 0, .int 0, .int 0, .ref (g 16), .long 0, .ref (g 17), .ref (g 18), .ref (g 19)])), (g 10, .inl (cs 0, 123, .inl (fun _ => 0)))] H := by rw [eH]; exact hP
  have hS : va_S (fun _ => False) s.heap H [] := by rw [eH]; exact hS
  rw [← eH]
  clear eH
  refine lv_aload_n hx hb dX12_areTheirs_0 rfl (lv_at hl 0 rfl) ?_
  refine lv_iload_n hx hb dX12_areTheirs_1 rfl (lv_at hl 1 rfl) ?_
  refine va_calli (va_runV (As := [.int p0]) (rest := []) ⟨hx, hb, hml, hown, hT⟩ (c_X12_isBuyer l D cs kK kV g p0) (cwV 1 hT (hz_gV q_254 q_255 q_256 q_252 q_257) rfl rfl rfl (by decide +kernel) ⟨(Nat.le_of_ble_eq_true rfl), (Nat.le_of_ble_eq_true rfl)⟩) ⟨hz_P.blind, va_recv hK hP (ci := 12) (q0 := 0) rfl rfl, hz_P.mk (hP.sub (ws' := [(g 0, .inr (12, [.ref (g 1), .int 0, .int 0, .ref (g 2), .ref (g 3), .ref (g 4), .ref (g 5), .ref (g 6), .int 0, .int 0, .int 0, .int 0, .int 0, .int 0, .int 0, .ref (g 7), .int 0, .ref (g 8), .int 0, .ref (g 9), .ref (g 10), .int 0, .ref (g 11), .ref (g 12), .ref (g 13), .int 0, .int 0, .ref (g 14), .ref (g 15), .int 0, .int 0, .int 0, .ref (g 16), .long 0, .ref (g 17), .ref (g 18), .ref (g 19)])), (g 10, .inl (cs 0, 123, .inl (fun _ => 0)))]) [0,1] rfl) hE hS⟩ rfl rfl hl.1 rfl (lv_room (Nat.le_of_ble_eq_true rfl)) dX12_areTheirs_2 ⟨(Nat.le_of_ble_eq_true rfl), (Nat.le_of_ble_eq_true rfl)⟩) hS (fun _ _ h => h.elim) (fun _ h => h.elim) (fun r_1 u t H1 locs ht hvm hw hB hz1 hk1 hS => ?_)
  have hP := hz_keep hP hk1
  clear hk1 hB hz1
  generalize H1 = H at hP hS ⊢
  subst hw
  refine lv_if_eq (tgt := 69) hx hb dX12_areTheirs_5 (by decide) (fun _ => ?_) (fun z => absurd (by decide) z)
  refine lv_iconst (v := 0) hx hb dX12_areTheirs_69 (by decide) ?_
  exact W.zret (v := 0) hx hb hr rfl (fun t ht hW => ⟨⟨0, (), rfl, rfl, trivial⟩, hS.F ht⟩) hS.2.2 dX12_areTheirs_70
theorem dX12_atStalls_0 : decode cX12_atStalls 0 = .ok (.iconst 0, 1) := by decide +kernel
theorem dX12_atStalls_1 : decode cX12_atStalls 1 = .ok (.istore_n 1, 1) := by decide +kernel
theorem dX12_atStalls_2 : decode cX12_atStalls 2 = .ok (.iconst 0, 1) := by decide +kernel
theorem dX12_atStalls_3 : decode cX12_atStalls 3 = .ok (.istore_n 2, 1) := by decide +kernel
theorem dX12_atStalls_4 : decode cX12_atStalls 4 = .ok (.iload_n 2, 1) := by decide +kernel
theorem dX12_atStalls_5 : decode cX12_atStalls 5 = .ok (.aload_n 0, 1) := by decide +kernel
theorem dX12_atStalls_6 : decode cX12_atStalls 6 = .ok (.getfield 39, 3) := by decide +kernel
theorem dX12_atStalls_9 : decode cX12_atStalls 9 = .ok (.iconst 1, 1) := by decide +kernel
theorem dX12_atStalls_10 : decode cX12_atStalls 10 = .ok (.iaload, 1) := by decide +kernel
theorem dX12_atStalls_11 : decode cX12_atStalls 11 = .ok (.if_icmp .ge 30, 3) := by decide +kernel
theorem dX12_atStalls_41 : decode cX12_atStalls 41 = .ok (.iload_n 1, 1) := by decide +kernel
theorem dX12_atStalls_42 : decode cX12_atStalls 42 = .ok (.ireturn, 1) := by decide +kernel
set_option maxHeartbeats 4000000 in
set_option maxRecDepth 100000 in
theorem c_X12_atStalls (l : Launch) (D : va_G) (cs : Nat → ClassId) (kK kV : Nat → Nat) (g : Nat → Nat) : Met l yX12_atStalls (hz_w yX12_atStalls cX12_atStalls 3 (some .int)) ({ frames := 0, cells := 0, slots := 0, locals := 0 }) (va_Pc [.ref (g 0)] (hz_P D cs kK kV [(g 0, .inr (12, [.ref (g 1), .int 0, .int 0, .ref (g 2), .ref (g 3), .ref (g 4), .ref (g 5), .ref (g 6), .int 0, .int 0, .int 0, .int 0, .int 0, .int 0, .int 0, .ref (g 7), .int 0, .ref (g 8), .int 0, .ref (g 9), .ref (g 10), .int 0, .ref (g 11), .ref (g 12), .ref (g 13), .int 0, .int 0, .ref (g 14), .ref (g 15), .int 0, .int 0, .int 0, .ref (g 16), .long 0, .ref (g 17), .ref (g 18), .ref (g 19)])), (g 10, .inl (cs 0, 123, .inl (fun _ => 0)))])) (va_Qi (fun (r : Int32) (_ : Unit) => r = 0) (fun _ t => True) (fun _ => False)) 0 0 (fun _ => False) := by
  refine Met.ofW (cc := cX12_atStalls) (maxL := 3) (ret := (some .int)) (by decide) rfl ?_
  intro p e s m args below meth c s₁ B hml hv
  obtain ⟨rfl, hP, hE⟩ := hv
  have hx := B.exec
  have hb := B.bytes
  have hr := B.returns
  have hT : ∀ w ∈ TB, w.before _ s = true := fun w h => atoms_spec (ws := hz_w yX12_atStalls cX12_atStalls 3 (some .int)) B.pre w (List.mem_cons_of_mem _ h)
  have hown : s.vm.findClass RX12 = some m.cls := findClass_of_methodNamed B.named
  have hlocks := B.notSynchronized
  clear B
  have hS : va_S (fun _ => False) s.heap s.heap [] := va_S.rf
  have hP : va_P D classes [(g 0, .inr (12, [.ref (g 1), .int 0, .int 0, .ref (g 2), .ref (g 3), .ref (g 4), .ref (g 5), .ref (g 6), .int 0, .int 0, .int 0, .int 0, .int 0, .int 0, .int 0, .ref (g 7), .int 0, .ref (g 8), .int 0, .ref (g 9), .ref (g 10), .int 0, .ref (g 11), .ref (g 12), .ref (g 13), .int 0, .int 0, .ref (g 14), .ref (g 15), .int 0, .int 0, .int 0, .ref (g 16), .long 0, .ref (g 17), .ref (g 18), .ref (g 19)])), (g 10, .inl (cs 0, 123, .inl (fun _ => 0)))] s.heap := hP
  have hK := hE.1
  have hl := lv_entry ([.ref (g 0)]) (n := 3) (Nat.le_of_ble_eq_true rfl)
  rw [lg_entry_eq]
  generalize (lg_sl ([.ref (g 0)]) ++ List.replicate (3 - (lg_sl ([.ref (g 0)])).length) Slot.unset).toArray = ls at hl ⊢
  have hl : lv_has ls 3 [(0, .ref (g 0))] := hl
  obtain ⟨H, eH⟩ : ∃ z, z = s.heap := ⟨_, rfl⟩
  have hP : va_P D classes [(g 0, .inr (12, [.ref (g 1), .int 0, .int 0, .ref (g 2), .ref (g 3), .ref (g 4), .ref (g 5), .ref (g 6), .int 0, .int 0, .int 0, .int 0, .int 0, .int 0, .int 0, .ref (g 7), .int 0, .ref (g 8), .int 0, .ref (g 9), .ref (g 10), .int 0, .ref (g 11), .ref (g 12), .ref (g 13), .int 0, .int 0, .ref (g 14), .ref (g 15), .int 0, .int 0, .int 0, .ref (g 16), .long 0, .ref (g 17), .ref (g 18), .ref (g 19)])), (g 10, .inl (cs 0, 123, .inl (fun _ => 0)))] H := by rw [eH]; exact hP
  have hS : va_S (fun _ => False) s.heap H [] := by rw [eH]; exact hS
  rw [← eH]
  clear eH
  refine lv_iconst (v := 0) hx hb dX12_atStalls_0 (by decide) ?_
  refine lv_istore_n (lv' := [(1, .int 0), (0, .ref (g 0))]) hx hb dX12_atStalls_1 rfl hl (by decide) rfl (fun ls hl => ?_)
  refine lv_iconst (v := 0) hx hb dX12_atStalls_2 (by decide) ?_
  refine lv_istore_n (lv' := [(2, .int 0), (1, .int 0), (0, .ref (g 0))]) hx hb dX12_atStalls_3 rfl hl (by decide) rfl (fun ls hl => ?_)
  refine lv_iload_n hx hb dX12_atStalls_4 rfl (lv_at hl 0 rfl) ?_
  refine lv_aload_n hx hb dX12_atStalls_5 rfl (lv_at hl 2 rfl) ?_
  refine va_get (D := D) (ci := 12) (v := .ref (g 10)) (C := RX12) (T := TX12) (N := 37) hx hb hT i_X12 hown hK hP 0 rfl rfl 20 (by decide) (hT _ q_247) (fun _ h9 => h9) rfl dX12_atStalls_6 ?_
  refine lv_iconst (v := 1) hx hb dX12_atStalls_9 (by decide) ?_
  refine va_iald hx hb hK hP 1 0 rfl rfl (by unfold vp_in; decide) dX12_atStalls_10 ?_
  refine hz_ev 0 rfl ?_
  refine lv_icmp_ge (tgt := 41) hx hb dX12_atStalls_11 (by decide) (fun _ => ?_) (fun z => absurd (by decide) z)
  refine lv_iload_n hx hb dX12_atStalls_41 rfl (lv_at hl 1 rfl) ?_
  exact W.iret (v := 0) hx hb hr (fun t ht hW => ⟨⟨0, (), rfl, rfl, trivial⟩, hS.F ht⟩) hS.2.2 dX12_atStalls_42
theorem dX12_bits_0 : decode cX12_bits 0 = .ok (.iconst 0, 1) := by decide +kernel
theorem dX12_bits_1 : decode cX12_bits 1 = .ok (.istore_n 1, 1) := by decide +kernel
theorem dX12_bits_2 : decode cX12_bits 2 = .ok (.iload_n 0, 1) := by decide +kernel
theorem dX12_bits_3 : decode cX12_bits 3 = .ok (.istore_n 2, 1) := by decide +kernel
theorem dX12_bits_4 : decode cX12_bits 4 = .ok (.iload_n 2, 1) := by decide +kernel
theorem dX12_bits_5 : decode cX12_bits 5 = .ok (.ifCond .eq 15, 3) := by decide +kernel
theorem dX12_bits_20 : decode cX12_bits 20 = .ok (.iload_n 1, 1) := by decide +kernel
theorem dX12_bits_21 : decode cX12_bits 21 = .ok (.ireturn, 1) := by decide +kernel
set_option maxHeartbeats 4000000 in
set_option maxRecDepth 100000 in
theorem c_X12_bits (l : Launch) (D : va_G) (cs : Nat → ClassId) (kK kV : Nat → Nat)  : Met l yX12_bits (hz_w yX12_bits cX12_bits 3 (some .int)) ({ frames := 0, cells := 0, slots := 0, locals := 0 }) (va_Pc [.int 0] (hz_P D cs kK kV [])) (va_Qi (fun (r : Int32) (_ : Unit) => r = 0) (fun _ t => True) (fun _ => False)) 0 0 (fun _ => False) := by
  refine Met.ofW (cc := cX12_bits) (maxL := 3) (ret := (some .int)) (by decide) rfl ?_
  intro p e s m args below meth c s₁ B hml hv
  obtain ⟨rfl, hP, hE⟩ := hv
  have hx := B.exec
  have hb := B.bytes
  have hr := B.returns
  have hT : ∀ w ∈ TB, w.before _ s = true := fun w h => atoms_spec (ws := hz_w yX12_bits cX12_bits 3 (some .int)) B.pre w (List.mem_cons_of_mem _ h)
  have hown : s.vm.findClass RX12 = some m.cls := findClass_of_methodNamed B.named
  have hlocks := B.notSynchronized
  clear B
  have hS : va_S (fun _ => False) s.heap s.heap [] := va_S.rf
  have hP : va_P D classes [] s.heap := hP
  have hK := hE.1
  have hl := lv_entry ([.int 0]) (n := 3) (Nat.le_of_ble_eq_true rfl)
  rw [lg_entry_eq]
  generalize (lg_sl ([.int 0]) ++ List.replicate (3 - (lg_sl ([.int 0])).length) Slot.unset).toArray = ls at hl ⊢
  have hl : lv_has ls 3 [(0, .int 0)] := hl
  obtain ⟨H, eH⟩ : ∃ z, z = s.heap := ⟨_, rfl⟩
  have hP : va_P D classes [] H := by rw [eH]; exact hP
  have hS : va_S (fun _ => False) s.heap H [] := by rw [eH]; exact hS
  rw [← eH]
  clear eH
  refine lv_iconst (v := 0) hx hb dX12_bits_0 (by decide) ?_
  refine lv_istore_n (lv' := [(1, .int 0), (0, .int 0)]) hx hb dX12_bits_1 rfl hl (by decide) rfl (fun ls hl => ?_)
  refine lv_iload_n hx hb dX12_bits_2 rfl (lv_at hl 1 rfl) ?_
  refine lv_istore_n (lv' := [(2, .int 0), (1, .int 0), (0, .int 0)]) hx hb dX12_bits_3 rfl hl (by decide) rfl (fun ls hl => ?_)
  refine lv_iload_n hx hb dX12_bits_4 rfl (lv_at hl 0 rfl) ?_
  refine lv_if_eq (tgt := 20) hx hb dX12_bits_5 (by decide) (fun _ => ?_) (fun z => absurd (by decide) z)
  refine lv_iload_n hx hb dX12_bits_20 rfl (lv_at hl 1 rfl) ?_
  exact W.iret (v := 0) hx hb hr (fun t ht hW => ⟨⟨0, (), rfl, rfl, trivial⟩, hS.F ht⟩) hS.2.2 dX12_bits_21
theorem dX12_in_0 : decode cX12_in 0 = .ok (.lload_n 0, 1) := by decide +kernel
theorem dX12_in_1 : decode cX12_in 1 = .ok (.lload_n 2, 1) := by decide +kernel
theorem dX12_in_2 : decode cX12_in 2 = .ok (.lcmp, 1) := by decide +kernel
theorem dX12_in_3 : decode cX12_in 3 = .ok (.ifCond .lt 14, 3) := by decide +kernel
theorem dX12_in_6 : decode cX12_in 6 = .ok (.lload_n 0, 1) := by decide +kernel
theorem dX12_in_7 : decode cX12_in 7 = .ok (.lload 4, 2) := by decide +kernel
theorem dX12_in_9 : decode cX12_in 9 = .ok (.lcmp, 1) := by decide +kernel
theorem dX12_in_10 : decode cX12_in 10 = .ok (.ifCond .gt 7, 3) := by decide +kernel
theorem dX12_in_13 : decode cX12_in 13 = .ok (.iconst 1, 1) := by decide +kernel
theorem dX12_in_14 : decode cX12_in 14 = .ok (.goto 4, 3) := by decide +kernel
theorem dX12_in_17 : decode cX12_in 17 = .ok (.iconst 0, 1) := by decide +kernel
theorem dX12_in_18 : decode cX12_in 18 = .ok (.ireturn, 1) := by decide +kernel
set_option maxHeartbeats 4000000 in
set_option maxRecDepth 100000 in
theorem c_X12_in (l : Launch) (D : va_G) (cs : Nat → ClassId) (kK kV : Nat → Nat) (k : Int32) : Met l yX12_in (hz_w yX12_in cX12_in 6 (some .boolean)) ({ frames := 0, cells := 0, slots := 0, locals := 0 }) (va_Pc [.long k.toInt64, .long 0, .long 3] (hz_P D cs kK kV [])) (va_Qi (fun (r : Int32) (_ : Unit) => r = hz_in k) (fun _ t => True) (fun _ => False)) 0 0 (fun _ => False) := by
  refine Met.ofW (cc := cX12_in) (maxL := 6) (ret := (some .boolean)) (by decide) rfl ?_
  intro p e s m args below meth c s₁ B hml hv
  obtain ⟨rfl, hP, hE⟩ := hv
  have hx := B.exec
  have hb := B.bytes
  have hr := B.returns
  have hT : ∀ w ∈ TB, w.before _ s = true := fun w h => atoms_spec (ws := hz_w yX12_in cX12_in 6 (some .boolean)) B.pre w (List.mem_cons_of_mem _ h)
  have hown : s.vm.findClass RX12 = some m.cls := findClass_of_methodNamed B.named
  have hlocks := B.notSynchronized
  clear B
  have hS : va_S (fun _ => False) s.heap s.heap [] := va_S.rf
  have hP : va_P D classes [] s.heap := hP
  have hK := hE.1
  have hl := lv_entry ([.long k.toInt64, .long 0, .long 3]) (n := 6) (Nat.le_of_ble_eq_true rfl)
  rw [lg_entry_eq]
  generalize (lg_sl ([.long k.toInt64, .long 0, .long 3]) ++ List.replicate (6 - (lg_sl ([.long k.toInt64, .long 0, .long 3])).length) Slot.unset).toArray = ls at hl ⊢
  have hl : lv_has ls 6 [(0, .long k.toInt64), (2, .long 0), (4, .long 3)] := hl
  obtain ⟨H, eH⟩ : ∃ z, z = s.heap := ⟨_, rfl⟩
  have hP : va_P D classes [] H := by rw [eH]; exact hP
  have hS : va_S (fun _ => False) s.heap H [] := by rw [eH]; exact hS
  rw [← eH]
  clear eH
  refine lv_lload_n hx hb dX12_in_0 rfl (lv_at hl 0 rfl) ?_
  refine lv_lload_n hx hb dX12_in_1 rfl (lv_at hl 1 rfl) ?_
  refine W.lcmp hx hb dX12_in_2 ?_
  refine lv_if_lt (tgt := 17) hx hb dX12_in_3 (by decide) (fun c_1 => ?_) (fun c_1 => ?_)
  · refine lv_iconst (v := 0) hx hb dX12_in_17 (by decide) ?_
    exact W.zret (v := 0) hx hb hr rfl (fun t ht hW => ⟨⟨0, (), rfl, (hz_in1 c_1), trivial⟩, hS.F ht⟩) hS.2.2 dX12_in_18
  · refine lv_lload_n hx hb dX12_in_6 rfl (lv_at hl 0 rfl) ?_
    refine lv_lload hx hb dX12_in_7 (lv_at hl 2 rfl) ?_
    refine W.lcmp hx hb dX12_in_9 ?_
    refine lv_if_gt (tgt := 17) hx hb dX12_in_10 (by decide) (fun c_2 => ?_) (fun c_2 => ?_)
    · refine lv_iconst (v := 0) hx hb dX12_in_17 (by decide) ?_
      exact W.zret (v := 0) hx hb hr rfl (fun t ht hW => ⟨⟨0, (), rfl, (hz_in2 c_2), trivial⟩, hS.F ht⟩) hS.2.2 dX12_in_18
    · refine lv_iconst (v := 1) hx hb dX12_in_13 (by decide) ?_
      refine lv_goto (tgt := 18) hx hb dX12_in_14 (by decide) ?_
      exact W.zret (v := 1) hx hb hr rfl (fun t ht hW => ⟨⟨1, (), rfl, (hz_in3 c_1 c_2), trivial⟩, hS.F ht⟩) hS.2.2 dX12_in_18
theorem dX12_half_0 : decode cX12_half 0 = .ok (.aload_n 0, 1) := by decide +kernel
theorem dX12_half_1 : decode cX12_half 1 = .ok (.iload_n 1, 1) := by decide +kernel
theorem dX12_half_2 : decode cX12_half 2 = .ok (.invokevirtual 335, 3) := by decide +kernel
theorem dX12_half_5 : decode cX12_half 5 = .ok (.ifCond .eq 15, 3) := by decide +kernel
theorem dX12_half_20 : decode cX12_half 20 = .ok (.iconst (-1), 1) := by decide +kernel
theorem dX12_half_21 : decode cX12_half 21 = .ok (.ireturn, 1) := by decide +kernel
set_option maxHeartbeats 4000000 in
set_option maxRecDepth 100000 in
theorem c_X12_half (l : Launch) (D : va_G) (cs : Nat → ClassId) (kK kV : Nat → Nat) (g : Nat → Nat) (p0 : Int32) (p1 : Int32) : Met l yX12_half (hz_w yX12_half cX12_half 3 (some .int)) ({ frames := 1, cells := 0, slots := 0, locals := 21 }) (va_Pc [.ref (g 0), .int p0, .int p1] (hz_P D cs kK kV [(g 0, .inr (12, [.ref (g 1), .int 0, .int 0, .ref (g 2), .ref (g 3), .ref (g 4), .ref (g 5), .ref (g 6), .int 0, .int 0, .int 0, .int 0, .int 0, .int 0, .int 0, .ref (g 7), .int 0, .ref (g 8), .int 0, .ref (g 9), .ref (g 10), .int 0, .ref (g 11), .ref (g 12), .ref (g 13), .int 0, .int 0, .ref (g 14), .ref (g 15), .int 0, .int 0, .int 0, .ref (g 16), .long 0, .ref (g 17), .ref (g 18), .ref (g 19)])), (g 10, .inl (cs 0, 123, .inl (fun _ => 0)))])) (va_Qi (fun (r : Int32) (_ : Unit) => r = -1) (fun _ t => True) (fun _ => False)) 0 0 (fun _ => False) := by
  refine Met.ofW (cc := cX12_half) (maxL := 3) (ret := (some .int)) (by decide) rfl ?_
  intro p e s m args below meth c s₁ B hml hv
  obtain ⟨rfl, hP, hE⟩ := hv
  have hx := B.exec
  have hb := B.bytes
  have hr := B.returns
  have hT : ∀ w ∈ TB, w.before _ s = true := fun w h => atoms_spec (ws := hz_w yX12_half cX12_half 3 (some .int)) B.pre w (List.mem_cons_of_mem _ h)
  have hown : s.vm.findClass RX12 = some m.cls := findClass_of_methodNamed B.named
  have hlocks := B.notSynchronized
  clear B
  have hS : va_S (fun _ => False) s.heap s.heap [] := va_S.rf
  have hP : va_P D classes [(g 0, .inr (12, [.ref (g 1), .int 0, .int 0, .ref (g 2), .ref (g 3), .ref (g 4), .ref (g 5), .ref (g 6), .int 0, .int 0, .int 0, .int 0, .int 0, .int 0, .int 0, .ref (g 7), .int 0, .ref (g 8), .int 0, .ref (g 9), .ref (g 10), .int 0, .ref (g 11), .ref (g 12), .ref (g 13), .int 0, .int 0, .ref (g 14), .ref (g 15), .int 0, .int 0, .int 0, .ref (g 16), .long 0, .ref (g 17), .ref (g 18), .ref (g 19)])), (g 10, .inl (cs 0, 123, .inl (fun _ => 0)))] s.heap := hP
  have hK := hE.1
  have hl := lv_entry ([.ref (g 0), .int p0, .int p1]) (n := 3) (Nat.le_of_ble_eq_true rfl)
  rw [lg_entry_eq]
  generalize (lg_sl ([.ref (g 0), .int p0, .int p1]) ++ List.replicate (3 - (lg_sl ([.ref (g 0), .int p0, .int p1])).length) Slot.unset).toArray = ls at hl ⊢
  have hl : lv_has ls 3 [(0, .ref (g 0)), (1, .int p0), (2, .int p1)] := hl
  obtain ⟨H, eH⟩ : ∃ z, z = s.heap := ⟨_, rfl⟩
  have hP : va_P D classes [(g 0, .inr (12, [.ref (g 1), .int 0, .int 0, .ref (g 2), .ref (g 3), .ref (g 4), .ref (g 5), .ref (g 6), .int 0, .int 0, .int 0, .int 0, .int 0, .int 0, .int 0, .ref (g 7), .int 0, .ref (g 8), .int 0, .ref (g 9), .ref (g 10), .int 0, .ref (g 11), .ref (g 12), .ref (g 13), .int 0, .int 0, .ref (g 14), .ref (g 15), .int 0, .int 0, .int 0, .ref (g 16), .long 0, .ref (g 17), .ref (g 18), .ref (g 19)])), (g 10, .inl (cs 0, 123, .inl (fun _ => 0)))] H := by rw [eH]; exact hP
  have hS : va_S (fun _ => False) s.heap H [] := by rw [eH]; exact hS
  rw [← eH]
  clear eH
  refine lv_aload_n hx hb dX12_half_0 rfl (lv_at hl 0 rfl) ?_
  refine lv_iload_n hx hb dX12_half_1 rfl (lv_at hl 1 rfl) ?_
  refine va_calli (va_runV (As := [.int p0]) (rest := []) ⟨hx, hb, hml, hown, hT⟩ (c_X12_isHalf l D cs kK kV g p0) (cwV 1 hT (hz_gV q_258 q_259 q_260 q_252 q_261) rfl rfl rfl (by decide +kernel) ⟨(Nat.le_of_ble_eq_true rfl), (Nat.le_of_ble_eq_true rfl)⟩) ⟨hz_P.blind, va_recv hK hP (ci := 12) (q0 := 0) rfl rfl, hz_P.mk (hP.sub (ws' := [(g 0, .inr (12, [.ref (g 1), .int 0, .int 0, .ref (g 2), .ref (g 3), .ref (g 4), .ref (g 5), .ref (g 6), .int 0, .int 0, .int 0, .int 0, .int 0, .int 0, .int 0, .ref (g 7), .int 0, .ref (g 8), .int 0, .ref (g 9), .ref (g 10), .int 0, .ref (g 11), .ref (g 12), .ref (g 13), .int 0, .int 0, .ref (g 14), .ref (g 15), .int 0, .int 0, .int 0, .ref (g 16), .long 0, .ref (g 17), .ref (g 18), .ref (g 19)])), (g 10, .inl (cs 0, 123, .inl (fun _ => 0)))]) [0,1] rfl) hE hS⟩ rfl rfl hl.1 rfl (lv_room (Nat.le_of_ble_eq_true rfl)) dX12_half_2 ⟨(Nat.le_of_ble_eq_true rfl), (Nat.le_of_ble_eq_true rfl)⟩) hS (fun _ _ h => h.elim) (fun _ h => h.elim) (fun r_1 u t H1 locs ht hvm hw hB hz1 hk1 hS => ?_)
  have hP := hz_keep hP hk1
  clear hk1 hB hz1
  generalize H1 = H at hP hS ⊢
  subst hw
  refine lv_if_eq (tgt := 20) hx hb dX12_half_5 (by decide) (fun _ => ?_) (fun z => absurd (by decide) z)
  refine lv_iconst (v := -1) hx hb dX12_half_20 (by decide) ?_
  exact W.iret (v := -1) hx hb hr (fun t ht hW => ⟨⟨-1, (), rfl, rfl, trivial⟩, hS.F ht⟩) hS.2.2 dX12_half_21
theorem dX12_fit_0 : decode cX12_fit 0 = .ok (.aload_n 0, 1) := by decide +kernel
theorem dX12_fit_1 : decode cX12_fit 1 = .ok (.iload_n 1, 1) := by decide +kernel
theorem dX12_fit_2 : decode cX12_fit 2 = .ok (.invokevirtual 335, 3) := by decide +kernel
theorem dX12_fit_5 : decode cX12_fit 5 = .ok (.ifCond .eq 25, 3) := by decide +kernel
theorem dX12_fit_30 : decode cX12_fit 30 = .ok (.iconst (-1), 1) := by decide +kernel
theorem dX12_fit_31 : decode cX12_fit 31 = .ok (.ireturn, 1) := by decide +kernel
set_option maxHeartbeats 4000000 in
set_option maxRecDepth 100000 in
theorem c_X12_fit (l : Launch) (D : va_G) (cs : Nat → ClassId) (kK kV : Nat → Nat) (g : Nat → Nat) (p0 : Int32) (p1 : Int32) : Met l yX12_fit (hz_w yX12_fit cX12_fit 3 (some .int)) ({ frames := 1, cells := 0, slots := 0, locals := 21 }) (va_Pc [.ref (g 0), .int p0, .int p1] (hz_P D cs kK kV [(g 0, .inr (12, [.ref (g 1), .int 0, .int 0, .ref (g 2), .ref (g 3), .ref (g 4), .ref (g 5), .ref (g 6), .int 0, .int 0, .int 0, .int 0, .int 0, .int 0, .int 0, .ref (g 7), .int 0, .ref (g 8), .int 0, .ref (g 9), .ref (g 10), .int 0, .ref (g 11), .ref (g 12), .ref (g 13), .int 0, .int 0, .ref (g 14), .ref (g 15), .int 0, .int 0, .int 0, .ref (g 16), .long 0, .ref (g 17), .ref (g 18), .ref (g 19)])), (g 10, .inl (cs 0, 123, .inl (fun _ => 0)))])) (va_Qi (fun (r : Int32) (_ : Unit) => r = -1) (fun _ t => True) (fun _ => False)) 0 0 (fun _ => False) := by
  refine Met.ofW (cc := cX12_fit) (maxL := 3) (ret := (some .int)) (by decide) rfl ?_
  intro p e s m args below meth c s₁ B hml hv
  obtain ⟨rfl, hP, hE⟩ := hv
  have hx := B.exec
  have hb := B.bytes
  have hr := B.returns
  have hT : ∀ w ∈ TB, w.before _ s = true := fun w h => atoms_spec (ws := hz_w yX12_fit cX12_fit 3 (some .int)) B.pre w (List.mem_cons_of_mem _ h)
  have hown : s.vm.findClass RX12 = some m.cls := findClass_of_methodNamed B.named
  have hlocks := B.notSynchronized
  clear B
  have hS : va_S (fun _ => False) s.heap s.heap [] := va_S.rf
  have hP : va_P D classes [(g 0, .inr (12, [.ref (g 1), .int 0, .int 0, .ref (g 2), .ref (g 3), .ref (g 4), .ref (g 5), .ref (g 6), .int 0, .int 0, .int 0, .int 0, .int 0, .int 0, .int 0, .ref (g 7), .int 0, .ref (g 8), .int 0, .ref (g 9), .ref (g 10), .int 0, .ref (g 11), .ref (g 12), .ref (g 13), .int 0, .int 0, .ref (g 14), .ref (g 15), .int 0, .int 0, .int 0, .ref (g 16), .long 0, .ref (g 17), .ref (g 18), .ref (g 19)])), (g 10, .inl (cs 0, 123, .inl (fun _ => 0)))] s.heap := hP
  have hK := hE.1
  have hl := lv_entry ([.ref (g 0), .int p0, .int p1]) (n := 3) (Nat.le_of_ble_eq_true rfl)
  rw [lg_entry_eq]
  generalize (lg_sl ([.ref (g 0), .int p0, .int p1]) ++ List.replicate (3 - (lg_sl ([.ref (g 0), .int p0, .int p1])).length) Slot.unset).toArray = ls at hl ⊢
  have hl : lv_has ls 3 [(0, .ref (g 0)), (1, .int p0), (2, .int p1)] := hl
  obtain ⟨H, eH⟩ : ∃ z, z = s.heap := ⟨_, rfl⟩
  have hP : va_P D classes [(g 0, .inr (12, [.ref (g 1), .int 0, .int 0, .ref (g 2), .ref (g 3), .ref (g 4), .ref (g 5), .ref (g 6), .int 0, .int 0, .int 0, .int 0, .int 0, .int 0, .int 0, .ref (g 7), .int 0, .ref (g 8), .int 0, .ref (g 9), .ref (g 10), .int 0, .ref (g 11), .ref (g 12), .ref (g 13), .int 0, .int 0, .ref (g 14), .ref (g 15), .int 0, .int 0, .int 0, .ref (g 16), .long 0, .ref (g 17), .ref (g 18), .ref (g 19)])), (g 10, .inl (cs 0, 123, .inl (fun _ => 0)))] H := by rw [eH]; exact hP
  have hS : va_S (fun _ => False) s.heap H [] := by rw [eH]; exact hS
  rw [← eH]
  clear eH
  refine lv_aload_n hx hb dX12_fit_0 rfl (lv_at hl 0 rfl) ?_
  refine lv_iload_n hx hb dX12_fit_1 rfl (lv_at hl 1 rfl) ?_
  refine va_calli (va_runV (As := [.int p0]) (rest := []) ⟨hx, hb, hml, hown, hT⟩ (c_X12_isHalf l D cs kK kV g p0) (cwV 1 hT (hz_gV q_258 q_259 q_260 q_252 q_261) rfl rfl rfl (by decide +kernel) ⟨(Nat.le_of_ble_eq_true rfl), (Nat.le_of_ble_eq_true rfl)⟩) ⟨hz_P.blind, va_recv hK hP (ci := 12) (q0 := 0) rfl rfl, hz_P.mk (hP.sub (ws' := [(g 0, .inr (12, [.ref (g 1), .int 0, .int 0, .ref (g 2), .ref (g 3), .ref (g 4), .ref (g 5), .ref (g 6), .int 0, .int 0, .int 0, .int 0, .int 0, .int 0, .int 0, .ref (g 7), .int 0, .ref (g 8), .int 0, .ref (g 9), .ref (g 10), .int 0, .ref (g 11), .ref (g 12), .ref (g 13), .int 0, .int 0, .ref (g 14), .ref (g 15), .int 0, .int 0, .int 0, .ref (g 16), .long 0, .ref (g 17), .ref (g 18), .ref (g 19)])), (g 10, .inl (cs 0, 123, .inl (fun _ => 0)))]) [0,1] rfl) hE hS⟩ rfl rfl hl.1 rfl (lv_room (Nat.le_of_ble_eq_true rfl)) dX12_fit_2 ⟨(Nat.le_of_ble_eq_true rfl), (Nat.le_of_ble_eq_true rfl)⟩) hS (fun _ _ h => h.elim) (fun _ h => h.elim) (fun r_1 u t H1 locs ht hvm hw hB hz1 hk1 hS => ?_)
  have hP := hz_keep hP hk1
  clear hk1 hB hz1
  generalize H1 = H at hP hS ⊢
  subst hw
  refine lv_if_eq (tgt := 30) hx hb dX12_fit_5 (by decide) (fun _ => ?_) (fun z => absurd (by decide) z)
  refine lv_iconst (v := -1) hx hb dX12_fit_30 (by decide) ?_
  exact W.iret (v := -1) hx hb hr (fun t ht hW => ⟨⟨-1, (), rfl, rfl, trivial⟩, hS.F ht⟩) hS.2.2 dX12_fit_31
theorem dX12_buyer_0 : decode cX12_buyer 0 = .ok (.aload_n 0, 1) := by decide +kernel
theorem dX12_buyer_1 : decode cX12_buyer 1 = .ok (.iload_n 1, 1) := by decide +kernel
theorem dX12_buyer_2 : decode cX12_buyer 2 = .ok (.invokevirtual 343, 3) := by decide +kernel
theorem dX12_buyer_5 : decode cX12_buyer 5 = .ok (.ifCond .ne 5, 3) := by decide +kernel
theorem dX12_buyer_8 : decode cX12_buyer 8 = .ok (.iconst (-1), 1) := by decide +kernel
theorem dX12_buyer_9 : decode cX12_buyer 9 = .ok (.ireturn, 1) := by decide +kernel
set_option maxHeartbeats 4000000 in
set_option maxRecDepth 100000 in
theorem c_X12_buyer (l : Launch) (D : va_G) (cs : Nat → ClassId) (kK kV : Nat → Nat) (g : Nat → Nat) (p0 : Int32) (p1 : Int32) : Met l yX12_buyer (hz_w yX12_buyer cX12_buyer 3 (some .int)) ({ frames := 1, cells := 0, slots := 0, locals := 21 }) (va_Pc [.ref (g 0), .int p0, .int p1] (hz_P D cs kK kV [(g 0, .inr (12, [.ref (g 1), .int 0, .int 0, .ref (g 2), .ref (g 3), .ref (g 4), .ref (g 5), .ref (g 6), .int 0, .int 0, .int 0, .int 0, .int 0, .int 0, .int 0, .ref (g 7), .int 0, .ref (g 8), .int 0, .ref (g 9), .ref (g 10), .int 0, .ref (g 11), .ref (g 12), .ref (g 13), .int 0, .int 0, .ref (g 14), .ref (g 15), .int 0, .int 0, .int 0, .ref (g 16), .long 0, .ref (g 17), .ref (g 18), .ref (g 19)])), (g 10, .inl (cs 0, 123, .inl (fun _ => 0)))])) (va_Qi (fun (r : Int32) (_ : Unit) => r = -1) (fun _ t => True) (fun _ => False)) 0 0 (fun _ => False) := by
  refine Met.ofW (cc := cX12_buyer) (maxL := 3) (ret := (some .int)) (by decide) rfl ?_
  intro p e s m args below meth c s₁ B hml hv
  obtain ⟨rfl, hP, hE⟩ := hv
  have hx := B.exec
  have hb := B.bytes
  have hr := B.returns
  have hT : ∀ w ∈ TB, w.before _ s = true := fun w h => atoms_spec (ws := hz_w yX12_buyer cX12_buyer 3 (some .int)) B.pre w (List.mem_cons_of_mem _ h)
  have hown : s.vm.findClass RX12 = some m.cls := findClass_of_methodNamed B.named
  have hlocks := B.notSynchronized
  clear B
  have hS : va_S (fun _ => False) s.heap s.heap [] := va_S.rf
  have hP : va_P D classes [(g 0, .inr (12, [.ref (g 1), .int 0, .int 0, .ref (g 2), .ref (g 3), .ref (g 4), .ref (g 5), .ref (g 6), .int 0, .int 0, .int 0, .int 0, .int 0, .int 0, .int 0, .ref (g 7), .int 0, .ref (g 8), .int 0, .ref (g 9), .ref (g 10), .int 0, .ref (g 11), .ref (g 12), .ref (g 13), .int 0, .int 0, .ref (g 14), .ref (g 15), .int 0, .int 0, .int 0, .ref (g 16), .long 0, .ref (g 17), .ref (g 18), .ref (g 19)])), (g 10, .inl (cs 0, 123, .inl (fun _ => 0)))] s.heap := hP
  have hK := hE.1
  have hl := lv_entry ([.ref (g 0), .int p0, .int p1]) (n := 3) (Nat.le_of_ble_eq_true rfl)
  rw [lg_entry_eq]
  generalize (lg_sl ([.ref (g 0), .int p0, .int p1]) ++ List.replicate (3 - (lg_sl ([.ref (g 0), .int p0, .int p1])).length) Slot.unset).toArray = ls at hl ⊢
  have hl : lv_has ls 3 [(0, .ref (g 0)), (1, .int p0), (2, .int p1)] := hl
  obtain ⟨H, eH⟩ : ∃ z, z = s.heap := ⟨_, rfl⟩
  have hP : va_P D classes [(g 0, .inr (12, [.ref (g 1), .int 0, .int 0, .ref (g 2), .ref (g 3), .ref (g 4), .ref (g 5), .ref (g 6), .int 0, .int 0, .int 0, .int 0, .int 0, .int 0, .int 0, .ref (g 7), .int 0, .ref (g 8), .int 0, .ref (g 9), .ref (g 10), .int 0, .ref (g 11), .ref (g 12), .ref (g 13), .int 0, .int 0, .ref (g 14), .ref (g 15), .int 0, .int 0, .int 0, .ref (g 16), .long 0, .ref (g 17), .ref (g 18), .ref (g 19)])), (g 10, .inl (cs 0, 123, .inl (fun _ => 0)))] H := by rw [eH]; exact hP
  have hS : va_S (fun _ => False) s.heap H [] := by rw [eH]; exact hS
  rw [← eH]
  clear eH
  refine lv_aload_n hx hb dX12_buyer_0 rfl (lv_at hl 0 rfl) ?_
  refine lv_iload_n hx hb dX12_buyer_1 rfl (lv_at hl 1 rfl) ?_
  refine va_calli (va_runV (As := [.int p0]) (rest := []) ⟨hx, hb, hml, hown, hT⟩ (c_X12_isBuyer l D cs kK kV g p0) (cwV 1 hT (hz_gV q_254 q_255 q_256 q_252 q_257) rfl rfl rfl (by decide +kernel) ⟨(Nat.le_of_ble_eq_true rfl), (Nat.le_of_ble_eq_true rfl)⟩) ⟨hz_P.blind, va_recv hK hP (ci := 12) (q0 := 0) rfl rfl, hz_P.mk (hP.sub (ws' := [(g 0, .inr (12, [.ref (g 1), .int 0, .int 0, .ref (g 2), .ref (g 3), .ref (g 4), .ref (g 5), .ref (g 6), .int 0, .int 0, .int 0, .int 0, .int 0, .int 0, .int 0, .ref (g 7), .int 0, .ref (g 8), .int 0, .ref (g 9), .ref (g 10), .int 0, .ref (g 11), .ref (g 12), .ref (g 13), .int 0, .int 0, .ref (g 14), .ref (g 15), .int 0, .int 0, .int 0, .ref (g 16), .long 0, .ref (g 17), .ref (g 18), .ref (g 19)])), (g 10, .inl (cs 0, 123, .inl (fun _ => 0)))]) [0,1] rfl) hE hS⟩ rfl rfl hl.1 rfl (lv_room (Nat.le_of_ble_eq_true rfl)) dX12_buyer_2 ⟨(Nat.le_of_ble_eq_true rfl), (Nat.le_of_ble_eq_true rfl)⟩) hS (fun _ _ h => h.elim) (fun _ h => h.elim) (fun r_1 u t H1 locs ht hvm hw hB hz1 hk1 hS => ?_)
  have hP := hz_keep hP hk1
  clear hk1 hB hz1
  generalize H1 = H at hP hS ⊢
  subst hw
  refine lv_if_ne (tgt := 10) hx hb dX12_buyer_5 (by decide) (fun z => absurd (by decide) z) (fun _ => ?_)
  refine lv_iconst (v := -1) hx hb dX12_buyer_8 (by decide) ?_
  exact W.iret (v := -1) hx hb hr (fun t ht hW => ⟨⟨-1, (), rfl, rfl, trivial⟩, hS.F ht⟩) hS.2.2 dX12_buyer_9
theorem dX12_spot_0 : decode cX12_spot 0 = .ok (.iload_n 1, 1) := by decide +kernel
theorem dX12_spot_1 : decode cX12_spot 1 = .ok (.ifCond .lt 41, 3) := by decide +kernel
theorem dX12_spot_4 : decode cX12_spot 4 = .ok (.iload_n 1, 1) := by decide +kernel
theorem dX12_spot_5 : decode cX12_spot 5 = .ok (.aload_n 0, 1) := by decide +kernel
theorem dX12_spot_6 : decode cX12_spot 6 = .ok (.getfield 39, 3) := by decide +kernel
theorem dX12_spot_9 : decode cX12_spot 9 = .ok (.iconst 0, 1) := by decide +kernel
theorem dX12_spot_10 : decode cX12_spot 10 = .ok (.iaload, 1) := by decide +kernel
theorem dX12_spot_11 : decode cX12_spot 11 = .ok (.if_icmp .ge 31, 3) := by decide +kernel
theorem dX12_spot_42 : decode cX12_spot 42 = .ok (.iconst (-1), 1) := by decide +kernel
theorem dX12_spot_43 : decode cX12_spot 43 = .ok (.ireturn, 1) := by decide +kernel
set_option maxHeartbeats 4000000 in
set_option maxRecDepth 100000 in
theorem c_X12_spot (l : Launch) (D : va_G) (cs : Nat → ClassId) (kK kV : Nat → Nat) (g : Nat → Nat) (p0 : Int32) (p1 : Int32) : Met l yX12_spot (hz_w yX12_spot cX12_spot 3 (some .int)) ({ frames := 0, cells := 0, slots := 0, locals := 0 }) (va_Pc [.ref (g 0), .int p0, .int p1] (hz_P D cs kK kV [(g 0, .inr (12, [.ref (g 1), .int 0, .int 0, .ref (g 2), .ref (g 3), .ref (g 4), .ref (g 5), .ref (g 6), .int 0, .int 0, .int 0, .int 0, .int 0, .int 0, .int 0, .ref (g 7), .int 0, .ref (g 8), .int 0, .ref (g 9), .ref (g 10), .int 0, .ref (g 11), .ref (g 12), .ref (g 13), .int 0, .int 0, .ref (g 14), .ref (g 15), .int 0, .int 0, .int 0, .ref (g 16), .long 0, .ref (g 17), .ref (g 18), .ref (g 19)])), (g 10, .inl (cs 0, 123, .inl (fun _ => 0)))])) (va_Qi (fun (r : Int32) (_ : Unit) => r = -1) (fun _ t => True) (fun _ => False)) 0 0 (fun _ => False) := by
  refine Met.ofW (cc := cX12_spot) (maxL := 3) (ret := (some .int)) (by decide) rfl ?_
  intro p e s m args below meth c s₁ B hml hv
  obtain ⟨rfl, hP, hE⟩ := hv
  have hx := B.exec
  have hb := B.bytes
  have hr := B.returns
  have hT : ∀ w ∈ TB, w.before _ s = true := fun w h => atoms_spec (ws := hz_w yX12_spot cX12_spot 3 (some .int)) B.pre w (List.mem_cons_of_mem _ h)
  have hown : s.vm.findClass RX12 = some m.cls := findClass_of_methodNamed B.named
  have hlocks := B.notSynchronized
  clear B
  have hS : va_S (fun _ => False) s.heap s.heap [] := va_S.rf
  have hP : va_P D classes [(g 0, .inr (12, [.ref (g 1), .int 0, .int 0, .ref (g 2), .ref (g 3), .ref (g 4), .ref (g 5), .ref (g 6), .int 0, .int 0, .int 0, .int 0, .int 0, .int 0, .int 0, .ref (g 7), .int 0, .ref (g 8), .int 0, .ref (g 9), .ref (g 10), .int 0, .ref (g 11), .ref (g 12), .ref (g 13), .int 0, .int 0, .ref (g 14), .ref (g 15), .int 0, .int 0, .int 0, .ref (g 16), .long 0, .ref (g 17), .ref (g 18), .ref (g 19)])), (g 10, .inl (cs 0, 123, .inl (fun _ => 0)))] s.heap := hP
  have hK := hE.1
  have hl := lv_entry ([.ref (g 0), .int p0, .int p1]) (n := 3) (Nat.le_of_ble_eq_true rfl)
  rw [lg_entry_eq]
  generalize (lg_sl ([.ref (g 0), .int p0, .int p1]) ++ List.replicate (3 - (lg_sl ([.ref (g 0), .int p0, .int p1])).length) Slot.unset).toArray = ls at hl ⊢
  have hl : lv_has ls 3 [(0, .ref (g 0)), (1, .int p0), (2, .int p1)] := hl
  obtain ⟨H, eH⟩ : ∃ z, z = s.heap := ⟨_, rfl⟩
  have hP : va_P D classes [(g 0, .inr (12, [.ref (g 1), .int 0, .int 0, .ref (g 2), .ref (g 3), .ref (g 4), .ref (g 5), .ref (g 6), .int 0, .int 0, .int 0, .int 0, .int 0, .int 0, .int 0, .ref (g 7), .int 0, .ref (g 8), .int 0, .ref (g 9), .ref (g 10), .int 0, .ref (g 11), .ref (g 12), .ref (g 13), .int 0, .int 0, .ref (g 14), .ref (g 15), .int 0, .int 0, .int 0, .ref (g 16), .long 0, .ref (g 17), .ref (g 18), .ref (g 19)])), (g 10, .inl (cs 0, 123, .inl (fun _ => 0)))] H := by rw [eH]; exact hP
  have hS : va_S (fun _ => False) s.heap H [] := by rw [eH]; exact hS
  rw [← eH]
  clear eH
  refine lv_iload_n hx hb dX12_spot_0 rfl (lv_at hl 1 rfl) ?_
  refine lv_if_lt (tgt := 42) hx hb dX12_spot_1 (by decide) (fun c_1 => ?_) (fun c_1 => ?_)
  · refine lv_iconst (v := -1) hx hb dX12_spot_42 (by decide) ?_
    exact W.iret (v := -1) hx hb hr (fun t ht hW => ⟨⟨-1, (), rfl, rfl, trivial⟩, hS.F ht⟩) hS.2.2 dX12_spot_43
  · refine lv_iload_n hx hb dX12_spot_4 rfl (lv_at hl 1 rfl) ?_
    refine lv_aload_n hx hb dX12_spot_5 rfl (lv_at hl 0 rfl) ?_
    refine va_get (D := D) (ci := 12) (v := .ref (g 10)) (C := RX12) (T := TX12) (N := 37) hx hb hT i_X12 hown hK hP 0 rfl rfl 20 (by decide) (hT _ q_247) (fun _ h9 => h9) rfl dX12_spot_6 ?_
    refine lv_iconst (v := 0) hx hb dX12_spot_9 (by decide) ?_
    refine va_iald hx hb hK hP 1 0 rfl rfl (by unfold vp_in; decide) dX12_spot_10 ?_
    refine hz_ev 0 rfl ?_
    refine lv_icmp_ge (tgt := 42) hx hb dX12_spot_11 (by decide) (fun _ => ?_) (fun z => absurd (Int32.not_lt.mp c_1) z)
    refine lv_iconst (v := -1) hx hb dX12_spot_42 (by decide) ?_
    exact W.iret (v := -1) hx hb hr (fun t ht hW => ⟨⟨-1, (), rfl, rfl, trivial⟩, hS.F ht⟩) hS.2.2 dX12_spot_43
theorem dX12_go_0 : decode cX12_go 0 = .ok (.aload_n 0, 1) := by decide +kernel
theorem dX12_go_1 : decode cX12_go 1 = .ok (.iload_n 1, 1) := by decide +kernel
theorem dX12_go_2 : decode cX12_go 2 = .ok (.invokevirtual 343, 3) := by decide +kernel
theorem dX12_go_5 : decode cX12_go 5 = .ok (.ifCond .eq 26, 3) := by decide +kernel
theorem dX12_go_31 : decode cX12_go 31 = .ok (.iconst (-1), 1) := by decide +kernel
theorem dX12_go_32 : decode cX12_go 32 = .ok (.ireturn, 1) := by decide +kernel
set_option maxHeartbeats 4000000 in
set_option maxRecDepth 100000 in
theorem c_X12_go (l : Launch) (D : va_G) (cs : Nat → ClassId) (kK kV : Nat → Nat) (g : Nat → Nat) (p0 : Int32) (p1 : Int32) : Met l yX12_go (hz_w yX12_go cX12_go 3 (some .int)) ({ frames := 1, cells := 0, slots := 0, locals := 21 }) (va_Pc [.ref (g 0), .int p0, .int p1] (hz_P D cs kK kV [(g 0, .inr (12, [.ref (g 1), .int 0, .int 0, .ref (g 2), .ref (g 3), .ref (g 4), .ref (g 5), .ref (g 6), .int 0, .int 0, .int 0, .int 0, .int 0, .int 0, .int 0, .ref (g 7), .int 0, .ref (g 8), .int 0, .ref (g 9), .ref (g 10), .int 0, .ref (g 11), .ref (g 12), .ref (g 13), .int 0, .int 0, .ref (g 14), .ref (g 15), .int 0, .int 0, .int 0, .ref (g 16), .long 0, .ref (g 17), .ref (g 18), .ref (g 19)])), (g 10, .inl (cs 0, 123, .inl (fun _ => 0)))])) (va_Qi (fun (r : Int32) (_ : Unit) => r = -1) (fun _ t => True) (fun _ => False)) 0 0 (fun _ => False) := by
  refine Met.ofW (cc := cX12_go) (maxL := 3) (ret := (some .int)) (by decide) rfl ?_
  intro p e s m args below meth c s₁ B hml hv
  obtain ⟨rfl, hP, hE⟩ := hv
  have hx := B.exec
  have hb := B.bytes
  have hr := B.returns
  have hT : ∀ w ∈ TB, w.before _ s = true := fun w h => atoms_spec (ws := hz_w yX12_go cX12_go 3 (some .int)) B.pre w (List.mem_cons_of_mem _ h)
  have hown : s.vm.findClass RX12 = some m.cls := findClass_of_methodNamed B.named
  have hlocks := B.notSynchronized
  clear B
  have hS : va_S (fun _ => False) s.heap s.heap [] := va_S.rf
  have hP : va_P D classes [(g 0, .inr (12, [.ref (g 1), .int 0, .int 0, .ref (g 2), .ref (g 3), .ref (g 4), .ref (g 5), .ref (g 6), .int 0, .int 0, .int 0, .int 0, .int 0, .int 0, .int 0, .ref (g 7), .int 0, .ref (g 8), .int 0, .ref (g 9), .ref (g 10), .int 0, .ref (g 11), .ref (g 12), .ref (g 13), .int 0, .int 0, .ref (g 14), .ref (g 15), .int 0, .int 0, .int 0, .ref (g 16), .long 0, .ref (g 17), .ref (g 18), .ref (g 19)])), (g 10, .inl (cs 0, 123, .inl (fun _ => 0)))] s.heap := hP
  have hK := hE.1
  have hl := lv_entry ([.ref (g 0), .int p0, .int p1]) (n := 3) (Nat.le_of_ble_eq_true rfl)
  rw [lg_entry_eq]
  generalize (lg_sl ([.ref (g 0), .int p0, .int p1]) ++ List.replicate (3 - (lg_sl ([.ref (g 0), .int p0, .int p1])).length) Slot.unset).toArray = ls at hl ⊢
  have hl : lv_has ls 3 [(0, .ref (g 0)), (1, .int p0), (2, .int p1)] := hl
  obtain ⟨H, eH⟩ : ∃ z, z = s.heap := ⟨_, rfl⟩
  have hP : va_P D classes [(g 0, .inr (12, [.ref (g 1), .int 0, .int 0, .ref (g 2), .ref (g 3), .ref (g 4), .ref (g 5), .ref (g 6), .int 0, .int 0, .int 0, .int 0, .int 0, .int 0, .int 0, .ref (g 7), .int 0, .ref (g 8), .int 0, .ref (g 9), .ref (g 10), .int 0, .ref (g 11), .ref (g 12), .ref (g 13), .int 0, .int 0, .ref (g 14), .ref (g 15), .int 0, .int 0, .int 0, .ref (g 16), .long 0, .ref (g 17), .ref (g 18), .ref (g 19)])), (g 10, .inl (cs 0, 123, .inl (fun _ => 0)))] H := by rw [eH]; exact hP
  have hS : va_S (fun _ => False) s.heap H [] := by rw [eH]; exact hS
  rw [← eH]
  clear eH
  refine lv_aload_n hx hb dX12_go_0 rfl (lv_at hl 0 rfl) ?_
  refine lv_iload_n hx hb dX12_go_1 rfl (lv_at hl 1 rfl) ?_
  refine va_calli (va_runV (As := [.int p0]) (rest := []) ⟨hx, hb, hml, hown, hT⟩ (c_X12_isBuyer l D cs kK kV g p0) (cwV 1 hT (hz_gV q_254 q_255 q_256 q_252 q_257) rfl rfl rfl (by decide +kernel) ⟨(Nat.le_of_ble_eq_true rfl), (Nat.le_of_ble_eq_true rfl)⟩) ⟨hz_P.blind, va_recv hK hP (ci := 12) (q0 := 0) rfl rfl, hz_P.mk (hP.sub (ws' := [(g 0, .inr (12, [.ref (g 1), .int 0, .int 0, .ref (g 2), .ref (g 3), .ref (g 4), .ref (g 5), .ref (g 6), .int 0, .int 0, .int 0, .int 0, .int 0, .int 0, .int 0, .ref (g 7), .int 0, .ref (g 8), .int 0, .ref (g 9), .ref (g 10), .int 0, .ref (g 11), .ref (g 12), .ref (g 13), .int 0, .int 0, .ref (g 14), .ref (g 15), .int 0, .int 0, .int 0, .ref (g 16), .long 0, .ref (g 17), .ref (g 18), .ref (g 19)])), (g 10, .inl (cs 0, 123, .inl (fun _ => 0)))]) [0,1] rfl) hE hS⟩ rfl rfl hl.1 rfl (lv_room (Nat.le_of_ble_eq_true rfl)) dX12_go_2 ⟨(Nat.le_of_ble_eq_true rfl), (Nat.le_of_ble_eq_true rfl)⟩) hS (fun _ _ h => h.elim) (fun _ h => h.elim) (fun r_1 u t H1 locs ht hvm hw hB hz1 hk1 hS => ?_)
  have hP := hz_keep hP hk1
  clear hk1 hB hz1
  generalize H1 = H at hP hS ⊢
  subst hw
  refine lv_if_eq (tgt := 31) hx hb dX12_go_5 (by decide) (fun _ => ?_) (fun z => absurd (by decide) z)
  refine lv_iconst (v := -1) hx hb dX12_go_31 (by decide) ?_
  exact W.iret (v := -1) hx hb hr (fun t ht hW => ⟨⟨-1, (), rfl, rfl, trivial⟩, hS.F ht⟩) hS.2.2 dX12_go_32
theorem dX12_buy_0 : decode cX12_buy 0 = .ok (.aload_n 0, 1) := by decide +kernel
theorem dX12_buy_1 : decode cX12_buy 1 = .ok (.iload_n 1, 1) := by decide +kernel
theorem dX12_buy_2 : decode cX12_buy 2 = .ok (.invokevirtual 343, 3) := by decide +kernel
theorem dX12_buy_5 : decode cX12_buy 5 = .ok (.ifCond .eq 20, 3) := by decide +kernel
theorem dX12_buy_25 : decode cX12_buy 25 = .ok (.iconst (-1), 1) := by decide +kernel
theorem dX12_buy_26 : decode cX12_buy 26 = .ok (.ireturn, 1) := by decide +kernel
set_option maxHeartbeats 4000000 in
set_option maxRecDepth 100000 in
theorem c_X12_buy (l : Launch) (D : va_G) (cs : Nat → ClassId) (kK kV : Nat → Nat) (g : Nat → Nat) (p0 : Int32) (p1 : Int32) : Met l yX12_buy (hz_w yX12_buy cX12_buy 3 (some .int)) ({ frames := 1, cells := 0, slots := 0, locals := 21 }) (va_Pc [.ref (g 0), .int p0, .int p1] (hz_P D cs kK kV [(g 0, .inr (12, [.ref (g 1), .int 0, .int 0, .ref (g 2), .ref (g 3), .ref (g 4), .ref (g 5), .ref (g 6), .int 0, .int 0, .int 0, .int 0, .int 0, .int 0, .int 0, .ref (g 7), .int 0, .ref (g 8), .int 0, .ref (g 9), .ref (g 10), .int 0, .ref (g 11), .ref (g 12), .ref (g 13), .int 0, .int 0, .ref (g 14), .ref (g 15), .int 0, .int 0, .int 0, .ref (g 16), .long 0, .ref (g 17), .ref (g 18), .ref (g 19)])), (g 10, .inl (cs 0, 123, .inl (fun _ => 0)))])) (va_Qi (fun (r : Int32) (_ : Unit) => r = -1) (fun _ t => True) (fun _ => False)) 0 0 (fun _ => False) := by
  refine Met.ofW (cc := cX12_buy) (maxL := 3) (ret := (some .int)) (by decide) rfl ?_
  intro p e s m args below meth c s₁ B hml hv
  obtain ⟨rfl, hP, hE⟩ := hv
  have hx := B.exec
  have hb := B.bytes
  have hr := B.returns
  have hT : ∀ w ∈ TB, w.before _ s = true := fun w h => atoms_spec (ws := hz_w yX12_buy cX12_buy 3 (some .int)) B.pre w (List.mem_cons_of_mem _ h)
  have hown : s.vm.findClass RX12 = some m.cls := findClass_of_methodNamed B.named
  have hlocks := B.notSynchronized
  clear B
  have hS : va_S (fun _ => False) s.heap s.heap [] := va_S.rf
  have hP : va_P D classes [(g 0, .inr (12, [.ref (g 1), .int 0, .int 0, .ref (g 2), .ref (g 3), .ref (g 4), .ref (g 5), .ref (g 6), .int 0, .int 0, .int 0, .int 0, .int 0, .int 0, .int 0, .ref (g 7), .int 0, .ref (g 8), .int 0, .ref (g 9), .ref (g 10), .int 0, .ref (g 11), .ref (g 12), .ref (g 13), .int 0, .int 0, .ref (g 14), .ref (g 15), .int 0, .int 0, .int 0, .ref (g 16), .long 0, .ref (g 17), .ref (g 18), .ref (g 19)])), (g 10, .inl (cs 0, 123, .inl (fun _ => 0)))] s.heap := hP
  have hK := hE.1
  have hl := lv_entry ([.ref (g 0), .int p0, .int p1]) (n := 3) (Nat.le_of_ble_eq_true rfl)
  rw [lg_entry_eq]
  generalize (lg_sl ([.ref (g 0), .int p0, .int p1]) ++ List.replicate (3 - (lg_sl ([.ref (g 0), .int p0, .int p1])).length) Slot.unset).toArray = ls at hl ⊢
  have hl : lv_has ls 3 [(0, .ref (g 0)), (1, .int p0), (2, .int p1)] := hl
  obtain ⟨H, eH⟩ : ∃ z, z = s.heap := ⟨_, rfl⟩
  have hP : va_P D classes [(g 0, .inr (12, [.ref (g 1), .int 0, .int 0, .ref (g 2), .ref (g 3), .ref (g 4), .ref (g 5), .ref (g 6), .int 0, .int 0, .int 0, .int 0, .int 0, .int 0, .int 0, .ref (g 7), .int 0, .ref (g 8), .int 0, .ref (g 9), .ref (g 10), .int 0, .ref (g 11), .ref (g 12), .ref (g 13), .int 0, .int 0, .ref (g 14), .ref (g 15), .int 0, .int 0, .int 0, .ref (g 16), .long 0, .ref (g 17), .ref (g 18), .ref (g 19)])), (g 10, .inl (cs 0, 123, .inl (fun _ => 0)))] H := by rw [eH]; exact hP
  have hS : va_S (fun _ => False) s.heap H [] := by rw [eH]; exact hS
  rw [← eH]
  clear eH
  refine lv_aload_n hx hb dX12_buy_0 rfl (lv_at hl 0 rfl) ?_
  refine lv_iload_n hx hb dX12_buy_1 rfl (lv_at hl 1 rfl) ?_
  refine va_calli (va_runV (As := [.int p0]) (rest := []) ⟨hx, hb, hml, hown, hT⟩ (c_X12_isBuyer l D cs kK kV g p0) (cwV 1 hT (hz_gV q_254 q_255 q_256 q_252 q_257) rfl rfl rfl (by decide +kernel) ⟨(Nat.le_of_ble_eq_true rfl), (Nat.le_of_ble_eq_true rfl)⟩) ⟨hz_P.blind, va_recv hK hP (ci := 12) (q0 := 0) rfl rfl, hz_P.mk (hP.sub (ws' := [(g 0, .inr (12, [.ref (g 1), .int 0, .int 0, .ref (g 2), .ref (g 3), .ref (g 4), .ref (g 5), .ref (g 6), .int 0, .int 0, .int 0, .int 0, .int 0, .int 0, .int 0, .ref (g 7), .int 0, .ref (g 8), .int 0, .ref (g 9), .ref (g 10), .int 0, .ref (g 11), .ref (g 12), .ref (g 13), .int 0, .int 0, .ref (g 14), .ref (g 15), .int 0, .int 0, .int 0, .ref (g 16), .long 0, .ref (g 17), .ref (g 18), .ref (g 19)])), (g 10, .inl (cs 0, 123, .inl (fun _ => 0)))]) [0,1] rfl) hE hS⟩ rfl rfl hl.1 rfl (lv_room (Nat.le_of_ble_eq_true rfl)) dX12_buy_2 ⟨(Nat.le_of_ble_eq_true rfl), (Nat.le_of_ble_eq_true rfl)⟩) hS (fun _ _ h => h.elim) (fun _ h => h.elim) (fun r_1 u t H1 locs ht hvm hw hB hz1 hk1 hS => ?_)
  have hP := hz_keep hP hk1
  clear hk1 hB hz1
  generalize H1 = H at hP hS ⊢
  subst hw
  refine lv_if_eq (tgt := 25) hx hb dX12_buy_5 (by decide) (fun _ => ?_) (fun z => absurd (by decide) z)
  refine lv_iconst (v := -1) hx hb dX12_buy_25 (by decide) ?_
  exact W.iret (v := -1) hx hb hr (fun t ht hW => ⟨⟨-1, (), rfl, rfl, trivial⟩, hS.F ht⟩) hS.2.2 dX12_buy_26
theorem dX12_shout_0 : decode cX12_shout 0 = .ok (.aload_n 0, 1) := by decide +kernel
theorem dX12_shout_1 : decode cX12_shout 1 = .ok (.iload_n 1, 1) := by decide +kernel
theorem dX12_shout_2 : decode cX12_shout 2 = .ok (.invokevirtual 343, 3) := by decide +kernel
theorem dX12_shout_5 : decode cX12_shout 5 = .ok (.ifCond .eq 24, 3) := by decide +kernel
theorem dX12_shout_29 : decode cX12_shout 29 = .ok (.iconst (-1), 1) := by decide +kernel
theorem dX12_shout_30 : decode cX12_shout 30 = .ok (.ireturn, 1) := by decide +kernel
set_option maxHeartbeats 4000000 in
set_option maxRecDepth 100000 in
theorem c_X12_shout (l : Launch) (D : va_G) (cs : Nat → ClassId) (kK kV : Nat → Nat) (g : Nat → Nat) (p0 : Int32) (p1 : Int32) : Met l yX12_shout (hz_w yX12_shout cX12_shout 6 (some .int)) ({ frames := 1, cells := 0, slots := 0, locals := 21 }) (va_Pc [.ref (g 0), .int p0, .int p1] (hz_P D cs kK kV [(g 0, .inr (12, [.ref (g 1), .int 0, .int 0, .ref (g 2), .ref (g 3), .ref (g 4), .ref (g 5), .ref (g 6), .int 0, .int 0, .int 0, .int 0, .int 0, .int 0, .int 0, .ref (g 7), .int 0, .ref (g 8), .int 0, .ref (g 9), .ref (g 10), .int 0, .ref (g 11), .ref (g 12), .ref (g 13), .int 0, .int 0, .ref (g 14), .ref (g 15), .int 0, .int 0, .int 0, .ref (g 16), .long 0, .ref (g 17), .ref (g 18), .ref (g 19)])), (g 10, .inl (cs 0, 123, .inl (fun _ => 0)))])) (va_Qi (fun (r : Int32) (_ : Unit) => r = -1) (fun _ t => True) (fun _ => False)) 0 0 (fun _ => False) := by
  refine Met.ofW (cc := cX12_shout) (maxL := 6) (ret := (some .int)) (by decide) rfl ?_
  intro p e s m args below meth c s₁ B hml hv
  obtain ⟨rfl, hP, hE⟩ := hv
  have hx := B.exec
  have hb := B.bytes
  have hr := B.returns
  have hT : ∀ w ∈ TB, w.before _ s = true := fun w h => atoms_spec (ws := hz_w yX12_shout cX12_shout 6 (some .int)) B.pre w (List.mem_cons_of_mem _ h)
  have hown : s.vm.findClass RX12 = some m.cls := findClass_of_methodNamed B.named
  have hlocks := B.notSynchronized
  clear B
  have hS : va_S (fun _ => False) s.heap s.heap [] := va_S.rf
  have hP : va_P D classes [(g 0, .inr (12, [.ref (g 1), .int 0, .int 0, .ref (g 2), .ref (g 3), .ref (g 4), .ref (g 5), .ref (g 6), .int 0, .int 0, .int 0, .int 0, .int 0, .int 0, .int 0, .ref (g 7), .int 0, .ref (g 8), .int 0, .ref (g 9), .ref (g 10), .int 0, .ref (g 11), .ref (g 12), .ref (g 13), .int 0, .int 0, .ref (g 14), .ref (g 15), .int 0, .int 0, .int 0, .ref (g 16), .long 0, .ref (g 17), .ref (g 18), .ref (g 19)])), (g 10, .inl (cs 0, 123, .inl (fun _ => 0)))] s.heap := hP
  have hK := hE.1
  have hl := lv_entry ([.ref (g 0), .int p0, .int p1]) (n := 6) (Nat.le_of_ble_eq_true rfl)
  rw [lg_entry_eq]
  generalize (lg_sl ([.ref (g 0), .int p0, .int p1]) ++ List.replicate (6 - (lg_sl ([.ref (g 0), .int p0, .int p1])).length) Slot.unset).toArray = ls at hl ⊢
  have hl : lv_has ls 6 [(0, .ref (g 0)), (1, .int p0), (2, .int p1)] := hl
  obtain ⟨H, eH⟩ : ∃ z, z = s.heap := ⟨_, rfl⟩
  have hP : va_P D classes [(g 0, .inr (12, [.ref (g 1), .int 0, .int 0, .ref (g 2), .ref (g 3), .ref (g 4), .ref (g 5), .ref (g 6), .int 0, .int 0, .int 0, .int 0, .int 0, .int 0, .int 0, .ref (g 7), .int 0, .ref (g 8), .int 0, .ref (g 9), .ref (g 10), .int 0, .ref (g 11), .ref (g 12), .ref (g 13), .int 0, .int 0, .ref (g 14), .ref (g 15), .int 0, .int 0, .int 0, .ref (g 16), .long 0, .ref (g 17), .ref (g 18), .ref (g 19)])), (g 10, .inl (cs 0, 123, .inl (fun _ => 0)))] H := by rw [eH]; exact hP
  have hS : va_S (fun _ => False) s.heap H [] := by rw [eH]; exact hS
  rw [← eH]
  clear eH
  refine lv_aload_n hx hb dX12_shout_0 rfl (lv_at hl 0 rfl) ?_
  refine lv_iload_n hx hb dX12_shout_1 rfl (lv_at hl 1 rfl) ?_
  refine va_calli (va_runV (As := [.int p0]) (rest := []) ⟨hx, hb, hml, hown, hT⟩ (c_X12_isBuyer l D cs kK kV g p0) (cwV 1 hT (hz_gV q_254 q_255 q_256 q_252 q_257) rfl rfl rfl (by decide +kernel) ⟨(Nat.le_of_ble_eq_true rfl), (Nat.le_of_ble_eq_true rfl)⟩) ⟨hz_P.blind, va_recv hK hP (ci := 12) (q0 := 0) rfl rfl, hz_P.mk (hP.sub (ws' := [(g 0, .inr (12, [.ref (g 1), .int 0, .int 0, .ref (g 2), .ref (g 3), .ref (g 4), .ref (g 5), .ref (g 6), .int 0, .int 0, .int 0, .int 0, .int 0, .int 0, .int 0, .ref (g 7), .int 0, .ref (g 8), .int 0, .ref (g 9), .ref (g 10), .int 0, .ref (g 11), .ref (g 12), .ref (g 13), .int 0, .int 0, .ref (g 14), .ref (g 15), .int 0, .int 0, .int 0, .ref (g 16), .long 0, .ref (g 17), .ref (g 18), .ref (g 19)])), (g 10, .inl (cs 0, 123, .inl (fun _ => 0)))]) [0,1] rfl) hE hS⟩ rfl rfl hl.1 rfl (lv_room (Nat.le_of_ble_eq_true rfl)) dX12_shout_2 ⟨(Nat.le_of_ble_eq_true rfl), (Nat.le_of_ble_eq_true rfl)⟩) hS (fun _ _ h => h.elim) (fun _ h => h.elim) (fun r_1 u t H1 locs ht hvm hw hB hz1 hk1 hS => ?_)
  have hP := hz_keep hP hk1
  clear hk1 hB hz1
  generalize H1 = H at hP hS ⊢
  subst hw
  refine lv_if_eq (tgt := 29) hx hb dX12_shout_5 (by decide) (fun _ => ?_) (fun z => absurd (by decide) z)
  refine lv_iconst (v := -1) hx hb dX12_shout_29 (by decide) ?_
  exact W.iret (v := -1) hx hb hr (fun t ht hW => ⟨⟨-1, (), rfl, rfl, trivial⟩, hS.F ht⟩) hS.2.2 dX12_shout_30
theorem dX12_swap_0 : decode cX12_swap 0 = .ok (.aload_n 0, 1) := by decide +kernel
theorem dX12_swap_1 : decode cX12_swap 1 = .ok (.iload_n 1, 1) := by decide +kernel
theorem dX12_swap_2 : decode cX12_swap 2 = .ok (.iload_n 2, 1) := by decide +kernel
theorem dX12_swap_3 : decode cX12_swap 3 = .ok (.iload_n 3, 1) := by decide +kernel
theorem dX12_swap_4 : decode cX12_swap 4 = .ok (.iload 4, 2) := by decide +kernel
theorem dX12_swap_6 : decode cX12_swap 6 = .ok (.invokevirtual 377, 3) := by decide +kernel
theorem dX12_swap_9 : decode cX12_swap 9 = .ok (.ifCond .eq 18, 3) := by decide +kernel
theorem dX12_swap_27 : decode cX12_swap 27 = .ok (.iconst 0, 1) := by decide +kernel
theorem dX12_swap_28 : decode cX12_swap 28 = .ok (.ireturn, 1) := by decide +kernel
set_option maxHeartbeats 4000000 in
set_option maxRecDepth 100000 in
theorem c_X12_swap (l : Launch) (D : va_G) (cs : Nat → ClassId) (kK kV : Nat → Nat) (g : Nat → Nat) (p0 : Int32) (p1 : Int32) (p2 : Int32) (p3 : Int32) : Met l yX12_swap (hz_w yX12_swap cX12_swap 5 (some .boolean)) ({ frames := 2, cells := 0, slots := 0, locals := 45 }) (va_Pc [.ref (g 0), .int p0, .int p1, .int p2, .int p3] (hz_P D cs kK kV [(g 0, .inr (12, [.ref (g 1), .int 0, .int 0, .ref (g 2), .ref (g 3), .ref (g 4), .ref (g 5), .ref (g 6), .int 0, .int 0, .int 0, .int 0, .int 0, .int 0, .int 0, .ref (g 7), .int 0, .ref (g 8), .int 0, .ref (g 9), .ref (g 10), .int 0, .ref (g 11), .ref (g 12), .ref (g 13), .int 0, .int 0, .ref (g 14), .ref (g 15), .int 0, .int 0, .int 0, .ref (g 16), .long 0, .ref (g 17), .ref (g 18), .ref (g 19)])), (g 10, .inl (cs 0, 123, .inl (fun _ => 0)))])) (va_Qi (fun (r : Int32) (_ : Unit) => r = 0) (fun _ t => True) (fun _ => False)) 0 0 (fun _ => False) := by
  refine Met.ofW (cc := cX12_swap) (maxL := 5) (ret := (some .boolean)) (by decide) rfl ?_
  intro p e s m args below meth c s₁ B hml hv
  obtain ⟨rfl, hP, hE⟩ := hv
  have hx := B.exec
  have hb := B.bytes
  have hr := B.returns
  have hT : ∀ w ∈ TB, w.before _ s = true := fun w h => atoms_spec (ws := hz_w yX12_swap cX12_swap 5 (some .boolean)) B.pre w (List.mem_cons_of_mem _ h)
  have hown : s.vm.findClass RX12 = some m.cls := findClass_of_methodNamed B.named
  have hlocks := B.notSynchronized
  clear B
  have hS : va_S (fun _ => False) s.heap s.heap [] := va_S.rf
  have hP : va_P D classes [(g 0, .inr (12, [.ref (g 1), .int 0, .int 0, .ref (g 2), .ref (g 3), .ref (g 4), .ref (g 5), .ref (g 6), .int 0, .int 0, .int 0, .int 0, .int 0, .int 0, .int 0, .ref (g 7), .int 0, .ref (g 8), .int 0, .ref (g 9), .ref (g 10), .int 0, .ref (g 11), .ref (g 12), .ref (g 13), .int 0, .int 0, .ref (g 14), .ref (g 15), .int 0, .int 0, .int 0, .ref (g 16), .long 0, .ref (g 17), .ref (g 18), .ref (g 19)])), (g 10, .inl (cs 0, 123, .inl (fun _ => 0)))] s.heap := hP
  have hK := hE.1
  have hl := lv_entry ([.ref (g 0), .int p0, .int p1, .int p2, .int p3]) (n := 5) (Nat.le_of_ble_eq_true rfl)
  rw [lg_entry_eq]
  generalize (lg_sl ([.ref (g 0), .int p0, .int p1, .int p2, .int p3]) ++ List.replicate (5 - (lg_sl ([.ref (g 0), .int p0, .int p1, .int p2, .int p3])).length) Slot.unset).toArray = ls at hl ⊢
  have hl : lv_has ls 5 [(0, .ref (g 0)), (1, .int p0), (2, .int p1), (3, .int p2), (4, .int p3)] := hl
  obtain ⟨H, eH⟩ : ∃ z, z = s.heap := ⟨_, rfl⟩
  have hP : va_P D classes [(g 0, .inr (12, [.ref (g 1), .int 0, .int 0, .ref (g 2), .ref (g 3), .ref (g 4), .ref (g 5), .ref (g 6), .int 0, .int 0, .int 0, .int 0, .int 0, .int 0, .int 0, .ref (g 7), .int 0, .ref (g 8), .int 0, .ref (g 9), .ref (g 10), .int 0, .ref (g 11), .ref (g 12), .ref (g 13), .int 0, .int 0, .ref (g 14), .ref (g 15), .int 0, .int 0, .int 0, .ref (g 16), .long 0, .ref (g 17), .ref (g 18), .ref (g 19)])), (g 10, .inl (cs 0, 123, .inl (fun _ => 0)))] H := by rw [eH]; exact hP
  have hS : va_S (fun _ => False) s.heap H [] := by rw [eH]; exact hS
  rw [← eH]
  clear eH
  refine lv_aload_n hx hb dX12_swap_0 rfl (lv_at hl 0 rfl) ?_
  refine lv_iload_n hx hb dX12_swap_1 rfl (lv_at hl 1 rfl) ?_
  refine lv_iload_n hx hb dX12_swap_2 rfl (lv_at hl 2 rfl) ?_
  refine lv_iload_n hx hb dX12_swap_3 rfl (lv_at hl 3 rfl) ?_
  refine lv_iload hx hb dX12_swap_4 (lv_at hl 4 rfl) ?_
  refine va_calli (va_runV (As := [.int p0, .int p1, .int p2, .int p3]) (rest := []) ⟨hx, hb, hml, hown, hT⟩ (c_X12_areTheirs l D cs kK kV g p0 p1 p2 p3) (cwV 4 hT (hz_gV q_262 q_263 q_264 q_252 q_265) rfl rfl rfl (by decide +kernel) ⟨(Nat.le_of_ble_eq_true rfl), (Nat.le_of_ble_eq_true rfl)⟩) ⟨hz_P.blind, va_recv hK hP (ci := 12) (q0 := 0) rfl rfl, hz_P.mk (hP.sub (ws' := [(g 0, .inr (12, [.ref (g 1), .int 0, .int 0, .ref (g 2), .ref (g 3), .ref (g 4), .ref (g 5), .ref (g 6), .int 0, .int 0, .int 0, .int 0, .int 0, .int 0, .int 0, .ref (g 7), .int 0, .ref (g 8), .int 0, .ref (g 9), .ref (g 10), .int 0, .ref (g 11), .ref (g 12), .ref (g 13), .int 0, .int 0, .ref (g 14), .ref (g 15), .int 0, .int 0, .int 0, .ref (g 16), .long 0, .ref (g 17), .ref (g 18), .ref (g 19)])), (g 10, .inl (cs 0, 123, .inl (fun _ => 0)))]) [0,1] rfl) hE hS⟩ rfl rfl hl.1 rfl (lv_room (Nat.le_of_ble_eq_true rfl)) dX12_swap_6 ⟨(Nat.le_of_ble_eq_true rfl), (Nat.le_of_ble_eq_true rfl)⟩) hS (fun _ _ h => h.elim) (fun _ h => h.elim) (fun r_1 u t H1 locs ht hvm hw hB hz1 hk1 hS => ?_)
  have hP := hz_keep hP hk1
  clear hk1 hB hz1
  generalize H1 = H at hP hS ⊢
  subst hw
  refine lv_if_eq (tgt := 27) hx hb dX12_swap_9 (by decide) (fun _ => ?_) (fun z => absurd (by decide) z)
  refine lv_iconst (v := 0) hx hb dX12_swap_27 (by decide) ?_
  exact W.zret (v := 0) hx hb hr rfl (fun t ht hW => ⟨⟨0, (), rfl, rfl, trivial⟩, hS.F ht⟩) hS.2.2 dX12_swap_28
theorem dX12_giveUp_0 : decode cX12_giveUp 0 = .ok (.aload_n 0, 1) := by decide +kernel
theorem dX12_giveUp_1 : decode cX12_giveUp 1 = .ok (.iload_n 1, 1) := by decide +kernel
theorem dX12_giveUp_2 : decode cX12_giveUp 2 = .ok (.invokevirtual 343, 3) := by decide +kernel
theorem dX12_giveUp_5 : decode cX12_giveUp 5 = .ok (.ifCond .eq 24, 3) := by decide +kernel
theorem dX12_giveUp_29 : decode cX12_giveUp 29 = .ok (.iconst (-1), 1) := by decide +kernel
theorem dX12_giveUp_30 : decode cX12_giveUp 30 = .ok (.ireturn, 1) := by decide +kernel
set_option maxHeartbeats 4000000 in
set_option maxRecDepth 100000 in
theorem c_X12_giveUp (l : Launch) (D : va_G) (cs : Nat → ClassId) (kK kV : Nat → Nat) (g : Nat → Nat) (p0 : Int32) (p1 : Int32) : Met l yX12_giveUp (hz_w yX12_giveUp cX12_giveUp 3 (some .int)) ({ frames := 1, cells := 0, slots := 0, locals := 21 }) (va_Pc [.ref (g 0), .int p0, .int p1] (hz_P D cs kK kV [(g 0, .inr (12, [.ref (g 1), .int 0, .int 0, .ref (g 2), .ref (g 3), .ref (g 4), .ref (g 5), .ref (g 6), .int 0, .int 0, .int 0, .int 0, .int 0, .int 0, .int 0, .ref (g 7), .int 0, .ref (g 8), .int 0, .ref (g 9), .ref (g 10), .int 0, .ref (g 11), .ref (g 12), .ref (g 13), .int 0, .int 0, .ref (g 14), .ref (g 15), .int 0, .int 0, .int 0, .ref (g 16), .long 0, .ref (g 17), .ref (g 18), .ref (g 19)])), (g 10, .inl (cs 0, 123, .inl (fun _ => 0)))])) (va_Qi (fun (r : Int32) (_ : Unit) => r = -1) (fun _ t => True) (fun _ => False)) 0 0 (fun _ => False) := by
  refine Met.ofW (cc := cX12_giveUp) (maxL := 3) (ret := (some .int)) (by decide) rfl ?_
  intro p e s m args below meth c s₁ B hml hv
  obtain ⟨rfl, hP, hE⟩ := hv
  have hx := B.exec
  have hb := B.bytes
  have hr := B.returns
  have hT : ∀ w ∈ TB, w.before _ s = true := fun w h => atoms_spec (ws := hz_w yX12_giveUp cX12_giveUp 3 (some .int)) B.pre w (List.mem_cons_of_mem _ h)
  have hown : s.vm.findClass RX12 = some m.cls := findClass_of_methodNamed B.named
  have hlocks := B.notSynchronized
  clear B
  have hS : va_S (fun _ => False) s.heap s.heap [] := va_S.rf
  have hP : va_P D classes [(g 0, .inr (12, [.ref (g 1), .int 0, .int 0, .ref (g 2), .ref (g 3), .ref (g 4), .ref (g 5), .ref (g 6), .int 0, .int 0, .int 0, .int 0, .int 0, .int 0, .int 0, .ref (g 7), .int 0, .ref (g 8), .int 0, .ref (g 9), .ref (g 10), .int 0, .ref (g 11), .ref (g 12), .ref (g 13), .int 0, .int 0, .ref (g 14), .ref (g 15), .int 0, .int 0, .int 0, .ref (g 16), .long 0, .ref (g 17), .ref (g 18), .ref (g 19)])), (g 10, .inl (cs 0, 123, .inl (fun _ => 0)))] s.heap := hP
  have hK := hE.1
  have hl := lv_entry ([.ref (g 0), .int p0, .int p1]) (n := 3) (Nat.le_of_ble_eq_true rfl)
  rw [lg_entry_eq]
  generalize (lg_sl ([.ref (g 0), .int p0, .int p1]) ++ List.replicate (3 - (lg_sl ([.ref (g 0), .int p0, .int p1])).length) Slot.unset).toArray = ls at hl ⊢
  have hl : lv_has ls 3 [(0, .ref (g 0)), (1, .int p0), (2, .int p1)] := hl
  obtain ⟨H, eH⟩ : ∃ z, z = s.heap := ⟨_, rfl⟩
  have hP : va_P D classes [(g 0, .inr (12, [.ref (g 1), .int 0, .int 0, .ref (g 2), .ref (g 3), .ref (g 4), .ref (g 5), .ref (g 6), .int 0, .int 0, .int 0, .int 0, .int 0, .int 0, .int 0, .ref (g 7), .int 0, .ref (g 8), .int 0, .ref (g 9), .ref (g 10), .int 0, .ref (g 11), .ref (g 12), .ref (g 13), .int 0, .int 0, .ref (g 14), .ref (g 15), .int 0, .int 0, .int 0, .ref (g 16), .long 0, .ref (g 17), .ref (g 18), .ref (g 19)])), (g 10, .inl (cs 0, 123, .inl (fun _ => 0)))] H := by rw [eH]; exact hP
  have hS : va_S (fun _ => False) s.heap H [] := by rw [eH]; exact hS
  rw [← eH]
  clear eH
  refine lv_aload_n hx hb dX12_giveUp_0 rfl (lv_at hl 0 rfl) ?_
  refine lv_iload_n hx hb dX12_giveUp_1 rfl (lv_at hl 1 rfl) ?_
  refine va_calli (va_runV (As := [.int p0]) (rest := []) ⟨hx, hb, hml, hown, hT⟩ (c_X12_isBuyer l D cs kK kV g p0) (cwV 1 hT (hz_gV q_254 q_255 q_256 q_252 q_257) rfl rfl rfl (by decide +kernel) ⟨(Nat.le_of_ble_eq_true rfl), (Nat.le_of_ble_eq_true rfl)⟩) ⟨hz_P.blind, va_recv hK hP (ci := 12) (q0 := 0) rfl rfl, hz_P.mk (hP.sub (ws' := [(g 0, .inr (12, [.ref (g 1), .int 0, .int 0, .ref (g 2), .ref (g 3), .ref (g 4), .ref (g 5), .ref (g 6), .int 0, .int 0, .int 0, .int 0, .int 0, .int 0, .int 0, .ref (g 7), .int 0, .ref (g 8), .int 0, .ref (g 9), .ref (g 10), .int 0, .ref (g 11), .ref (g 12), .ref (g 13), .int 0, .int 0, .ref (g 14), .ref (g 15), .int 0, .int 0, .int 0, .ref (g 16), .long 0, .ref (g 17), .ref (g 18), .ref (g 19)])), (g 10, .inl (cs 0, 123, .inl (fun _ => 0)))]) [0,1] rfl) hE hS⟩ rfl rfl hl.1 rfl (lv_room (Nat.le_of_ble_eq_true rfl)) dX12_giveUp_2 ⟨(Nat.le_of_ble_eq_true rfl), (Nat.le_of_ble_eq_true rfl)⟩) hS (fun _ _ h => h.elim) (fun _ h => h.elim) (fun r_1 u t H1 locs ht hvm hw hB hz1 hk1 hS => ?_)
  have hP := hz_keep hP hk1
  clear hk1 hB hz1
  generalize H1 = H at hP hS ⊢
  subst hw
  refine lv_if_eq (tgt := 29) hx hb dX12_giveUp_5 (by decide) (fun _ => ?_) (fun z => absurd (by decide) z)
  refine lv_iconst (v := -1) hx hb dX12_giveUp_29 (by decide) ?_
  exact W.iret (v := -1) hx hb hr (fun t ht hW => ⟨⟨-1, (), rfl, rfl, trivial⟩, hS.F ht⟩) hS.2.2 dX12_giveUp_30
theorem dX12_undo_0 : decode cX12_undo 0 = .ok (.aload_n 0, 1) := by decide +kernel
theorem dX12_undo_1 : decode cX12_undo 1 = .ok (.getfield 274, 3) := by decide +kernel
theorem dX12_undo_4 : decode cX12_undo 4 = .ok (.ifCond .ne 5, 3) := by decide +kernel
theorem dX12_undo_7 : decode cX12_undo 7 = .ok (.iconst (-1), 1) := by decide +kernel
theorem dX12_undo_8 : decode cX12_undo 8 = .ok (.ireturn, 1) := by decide +kernel
set_option maxHeartbeats 4000000 in
set_option maxRecDepth 100000 in
theorem c_X12_undo (l : Launch) (D : va_G) (cs : Nat → ClassId) (kK kV : Nat → Nat) (g : Nat → Nat) : Met l yX12_undo (hz_w yX12_undo cX12_undo 2 (some .int)) ({ frames := 0, cells := 0, slots := 0, locals := 0 }) (va_Pc [.ref (g 0)] (hz_P D cs kK kV [(g 0, .inr (12, [.ref (g 1), .int 0, .int 0, .ref (g 2), .ref (g 3), .ref (g 4), .ref (g 5), .ref (g 6), .int 0, .int 0, .int 0, .int 0, .int 0, .int 0, .int 0, .ref (g 7), .int 0, .ref (g 8), .int 0, .ref (g 9), .ref (g 10), .int 0, .ref (g 11), .ref (g 12), .ref (g 13), .int 0, .int 0, .ref (g 14), .ref (g 15), .int 0, .int 0, .int 0, .ref (g 16), .long 0, .ref (g 17), .ref (g 18), .ref (g 19)]))])) (va_Qi (fun (r : Int32) (_ : Unit) => r = -1) (fun _ t => True) (fun _ => False)) 0 0 (fun _ => False) := by
  refine Met.ofW (cc := cX12_undo) (maxL := 2) (ret := (some .int)) (by decide) rfl ?_
  intro p e s m args below meth c s₁ B hml hv
  obtain ⟨rfl, hP, hE⟩ := hv
  have hx := B.exec
  have hb := B.bytes
  have hr := B.returns
  have hT : ∀ w ∈ TB, w.before _ s = true := fun w h => atoms_spec (ws := hz_w yX12_undo cX12_undo 2 (some .int)) B.pre w (List.mem_cons_of_mem _ h)
  have hown : s.vm.findClass RX12 = some m.cls := findClass_of_methodNamed B.named
  have hlocks := B.notSynchronized
  clear B
  have hS : va_S (fun _ => False) s.heap s.heap [] := va_S.rf
  have hP : va_P D classes [(g 0, .inr (12, [.ref (g 1), .int 0, .int 0, .ref (g 2), .ref (g 3), .ref (g 4), .ref (g 5), .ref (g 6), .int 0, .int 0, .int 0, .int 0, .int 0, .int 0, .int 0, .ref (g 7), .int 0, .ref (g 8), .int 0, .ref (g 9), .ref (g 10), .int 0, .ref (g 11), .ref (g 12), .ref (g 13), .int 0, .int 0, .ref (g 14), .ref (g 15), .int 0, .int 0, .int 0, .ref (g 16), .long 0, .ref (g 17), .ref (g 18), .ref (g 19)]))] s.heap := hP
  have hK := hE.1
  have hl := lv_entry ([.ref (g 0)]) (n := 2) (Nat.le_of_ble_eq_true rfl)
  rw [lg_entry_eq]
  generalize (lg_sl ([.ref (g 0)]) ++ List.replicate (2 - (lg_sl ([.ref (g 0)])).length) Slot.unset).toArray = ls at hl ⊢
  have hl : lv_has ls 2 [(0, .ref (g 0))] := hl
  obtain ⟨H, eH⟩ : ∃ z, z = s.heap := ⟨_, rfl⟩
  have hP : va_P D classes [(g 0, .inr (12, [.ref (g 1), .int 0, .int 0, .ref (g 2), .ref (g 3), .ref (g 4), .ref (g 5), .ref (g 6), .int 0, .int 0, .int 0, .int 0, .int 0, .int 0, .int 0, .ref (g 7), .int 0, .ref (g 8), .int 0, .ref (g 9), .ref (g 10), .int 0, .ref (g 11), .ref (g 12), .ref (g 13), .int 0, .int 0, .ref (g 14), .ref (g 15), .int 0, .int 0, .int 0, .ref (g 16), .long 0, .ref (g 17), .ref (g 18), .ref (g 19)]))] H := by rw [eH]; exact hP
  have hS : va_S (fun _ => False) s.heap H [] := by rw [eH]; exact hS
  rw [← eH]
  clear eH
  refine lv_aload_n hx hb dX12_undo_0 rfl (lv_at hl 0 rfl) ?_
  refine va_get (D := D) (ci := 12) (v := .int 0) (C := RX12) (T := TX12) (N := 37) hx hb hT i_X12 hown hK hP 0 rfl rfl 25 (by decide) (hT _ q_266) (fun _ h9 => h9) rfl dX12_undo_1 ?_
  refine lv_if_ne (tgt := 9) hx hb dX12_undo_4 (by decide) (fun z => absurd (by decide) z) (fun _ => ?_)
  refine lv_iconst (v := -1) hx hb dX12_undo_7 (by decide) ?_
  exact W.iret (v := -1) hx hb hr (fun t ht hW => ⟨⟨-1, (), rfl, rfl, trivial⟩, hS.F ht⟩) hS.2.2 dX12_undo_8
theorem dX12_run_0 : decode cX12_run 0 = .ok (.aload_n 0, 1) := by decide +kernel
theorem dX12_run_1 : decode cX12_run 1 = .ok (.invokevirtual 329, 3) := by decide +kernel
theorem dX12_run_4 : decode cX12_run 4 = .ok (.ifCond .eq 36, 3) := by decide +kernel
theorem dX12_run_40 : decode cX12_run 40 = .ok (.iconst (-1), 1) := by decide +kernel
theorem dX12_run_41 : decode cX12_run 41 = .ok (.ireturn, 1) := by decide +kernel
set_option maxHeartbeats 4000000 in
set_option maxRecDepth 100000 in
theorem c_X12_run (l : Launch) (D : va_G) (cs : Nat → ClassId) (kK kV : Nat → Nat) (g : Nat → Nat) (p0 : Int32) (p1 : Int32) : Met l yX12_run (hz_w yX12_run cX12_run 4 (some .int)) ({ frames := 1, cells := 0, slots := 0, locals := 20 }) (va_Pc [.ref (g 0), .int p0, .int p1] (hz_P D cs kK kV [(g 0, .inr (12, [.ref (g 1), .int 0, .int 0, .ref (g 2), .ref (g 3), .ref (g 4), .ref (g 5), .ref (g 6), .int 0, .int 0, .int 0, .int 0, .int 0, .int 0, .int 0, .ref (g 7), .int 0, .ref (g 8), .int 0, .ref (g 9), .ref (g 10), .int 0, .ref (g 11), .ref (g 12), .ref (g 13), .int 0, .int 0, .ref (g 14), .ref (g 15), .int 0, .int 0, .int 0, .ref (g 16), .long 0, .ref (g 17), .ref (g 18), .ref (g 19)])), (g 10, .inl (cs 0, 123, .inl (fun _ => 0)))])) (va_Qi (fun (r : Int32) (_ : Unit) => r = -1) (fun _ t => True) (fun _ => False)) 0 0 (fun _ => False) := by
  refine Met.ofW (cc := cX12_run) (maxL := 4) (ret := (some .int)) (by decide) rfl ?_
  intro p e s m args below meth c s₁ B hml hv
  obtain ⟨rfl, hP, hE⟩ := hv
  have hx := B.exec
  have hb := B.bytes
  have hr := B.returns
  have hT : ∀ w ∈ TB, w.before _ s = true := fun w h => atoms_spec (ws := hz_w yX12_run cX12_run 4 (some .int)) B.pre w (List.mem_cons_of_mem _ h)
  have hown : s.vm.findClass RX12 = some m.cls := findClass_of_methodNamed B.named
  have hlocks := B.notSynchronized
  clear B
  have hS : va_S (fun _ => False) s.heap s.heap [] := va_S.rf
  have hP : va_P D classes [(g 0, .inr (12, [.ref (g 1), .int 0, .int 0, .ref (g 2), .ref (g 3), .ref (g 4), .ref (g 5), .ref (g 6), .int 0, .int 0, .int 0, .int 0, .int 0, .int 0, .int 0, .ref (g 7), .int 0, .ref (g 8), .int 0, .ref (g 9), .ref (g 10), .int 0, .ref (g 11), .ref (g 12), .ref (g 13), .int 0, .int 0, .ref (g 14), .ref (g 15), .int 0, .int 0, .int 0, .ref (g 16), .long 0, .ref (g 17), .ref (g 18), .ref (g 19)])), (g 10, .inl (cs 0, 123, .inl (fun _ => 0)))] s.heap := hP
  have hK := hE.1
  have hl := lv_entry ([.ref (g 0), .int p0, .int p1]) (n := 4) (Nat.le_of_ble_eq_true rfl)
  rw [lg_entry_eq]
  generalize (lg_sl ([.ref (g 0), .int p0, .int p1]) ++ List.replicate (4 - (lg_sl ([.ref (g 0), .int p0, .int p1])).length) Slot.unset).toArray = ls at hl ⊢
  have hl : lv_has ls 4 [(0, .ref (g 0)), (1, .int p0), (2, .int p1)] := hl
  obtain ⟨H, eH⟩ : ∃ z, z = s.heap := ⟨_, rfl⟩
  have hP : va_P D classes [(g 0, .inr (12, [.ref (g 1), .int 0, .int 0, .ref (g 2), .ref (g 3), .ref (g 4), .ref (g 5), .ref (g 6), .int 0, .int 0, .int 0, .int 0, .int 0, .int 0, .int 0, .ref (g 7), .int 0, .ref (g 8), .int 0, .ref (g 9), .ref (g 10), .int 0, .ref (g 11), .ref (g 12), .ref (g 13), .int 0, .int 0, .ref (g 14), .ref (g 15), .int 0, .int 0, .int 0, .ref (g 16), .long 0, .ref (g 17), .ref (g 18), .ref (g 19)])), (g 10, .inl (cs 0, 123, .inl (fun _ => 0)))] H := by rw [eH]; exact hP
  have hS : va_S (fun _ => False) s.heap H [] := by rw [eH]; exact hS
  rw [← eH]
  clear eH
  refine lv_aload_n hx hb dX12_run_0 rfl (lv_at hl 0 rfl) ?_
  refine va_calli (va_runV (As := []) (rest := []) ⟨hx, hb, hml, hown, hT⟩ (c_X12_isFair l D cs kK kV g) (cwV 0 hT (hz_gV q_249 q_250 q_251 q_252 q_253) rfl rfl rfl (by decide +kernel) ⟨(Nat.le_of_ble_eq_true rfl), (Nat.le_of_ble_eq_true rfl)⟩) ⟨hz_P.blind, va_recv hK hP (ci := 12) (q0 := 0) rfl rfl, hz_P.mk (hP.sub (ws' := [(g 0, .inr (12, [.ref (g 1), .int 0, .int 0, .ref (g 2), .ref (g 3), .ref (g 4), .ref (g 5), .ref (g 6), .int 0, .int 0, .int 0, .int 0, .int 0, .int 0, .int 0, .ref (g 7), .int 0, .ref (g 8), .int 0, .ref (g 9), .ref (g 10), .int 0, .ref (g 11), .ref (g 12), .ref (g 13), .int 0, .int 0, .ref (g 14), .ref (g 15), .int 0, .int 0, .int 0, .ref (g 16), .long 0, .ref (g 17), .ref (g 18), .ref (g 19)])), (g 10, .inl (cs 0, 123, .inl (fun _ => 0)))]) [0,1] rfl) hE hS⟩ rfl rfl hl.1 rfl (lv_room (Nat.le_of_ble_eq_true rfl)) dX12_run_1 ⟨(Nat.le_of_ble_eq_true rfl), (Nat.le_of_ble_eq_true rfl)⟩) hS (fun _ _ h => h.elim) (fun _ h => h.elim) (fun r_1 u t H1 locs ht hvm hw hB hz1 hk1 hS => ?_)
  have hP := hz_keep hP hk1
  clear hk1 hB hz1
  generalize H1 = H at hP hS ⊢
  subst hw
  refine lv_if_eq (tgt := 40) hx hb dX12_run_4 (by decide) (fun _ => ?_) (fun z => absurd (by decide) z)
  refine lv_iconst (v := -1) hx hb dX12_run_40 (by decide) ?_
  exact W.iret (v := -1) hx hb hr (fun t ht hW => ⟨⟨-1, (), rfl, rfl, trivial⟩, hS.F ht⟩) hS.2.2 dX12_run_41
theorem dX12_worth_0 : decode cX12_worth 0 = .ok (.aload_n 0, 1) := by decide +kernel
theorem dX12_worth_1 : decode cX12_worth 1 = .ok (.iload_n 1, 1) := by decide +kernel
theorem dX12_worth_2 : decode cX12_worth 2 = .ok (.invokevirtual 332, 3) := by decide +kernel
theorem dX12_worth_5 : decode cX12_worth 5 = .ok (.ifCond .eq 12, 3) := by decide +kernel
theorem dX12_worth_17 : decode cX12_worth 17 = .ok (.iconst (-1), 1) := by decide +kernel
theorem dX12_worth_18 : decode cX12_worth 18 = .ok (.ireturn, 1) := by decide +kernel
set_option maxHeartbeats 4000000 in
set_option maxRecDepth 100000 in
theorem c_X12_worth (l : Launch) (D : va_G) (cs : Nat → ClassId) (kK kV : Nat → Nat) (g : Nat → Nat) (p0 : Int32) : Met l yX12_worth (hz_w yX12_worth cX12_worth 2 (some .int)) ({ frames := 2, cells := 0, slots := 0, locals := 41 }) (va_Pc [.ref (g 0), .int p0] (hz_P D cs kK kV [(g 0, .inr (12, [.ref (g 1), .int 0, .int 0, .ref (g 2), .ref (g 3), .ref (g 4), .ref (g 5), .ref (g 6), .int 0, .int 0, .int 0, .int 0, .int 0, .int 0, .int 0, .ref (g 7), .int 0, .ref (g 8), .int 0, .ref (g 9), .ref (g 10), .int 0, .ref (g 11), .ref (g 12), .ref (g 13), .int 0, .int 0, .ref (g 14), .ref (g 15), .int 0, .int 0, .int 0, .ref (g 16), .long 0, .ref (g 17), .ref (g 18), .ref (g 19)])), (g 10, .inl (cs 0, 123, .inl (fun _ => 0)))])) (va_Qi (fun (r : Int32) (_ : Unit) => r = -1) (fun _ t => True) (fun _ => False)) 0 0 (fun _ => False) := by
  refine Met.ofW (cc := cX12_worth) (maxL := 2) (ret := (some .int)) (by decide) rfl ?_
  intro p e s m args below meth c s₁ B hml hv
  obtain ⟨rfl, hP, hE⟩ := hv
  have hx := B.exec
  have hb := B.bytes
  have hr := B.returns
  have hT : ∀ w ∈ TB, w.before _ s = true := fun w h => atoms_spec (ws := hz_w yX12_worth cX12_worth 2 (some .int)) B.pre w (List.mem_cons_of_mem _ h)
  have hown : s.vm.findClass RX12 = some m.cls := findClass_of_methodNamed B.named
  have hlocks := B.notSynchronized
  clear B
  have hS : va_S (fun _ => False) s.heap s.heap [] := va_S.rf
  have hP : va_P D classes [(g 0, .inr (12, [.ref (g 1), .int 0, .int 0, .ref (g 2), .ref (g 3), .ref (g 4), .ref (g 5), .ref (g 6), .int 0, .int 0, .int 0, .int 0, .int 0, .int 0, .int 0, .ref (g 7), .int 0, .ref (g 8), .int 0, .ref (g 9), .ref (g 10), .int 0, .ref (g 11), .ref (g 12), .ref (g 13), .int 0, .int 0, .ref (g 14), .ref (g 15), .int 0, .int 0, .int 0, .ref (g 16), .long 0, .ref (g 17), .ref (g 18), .ref (g 19)])), (g 10, .inl (cs 0, 123, .inl (fun _ => 0)))] s.heap := hP
  have hK := hE.1
  have hl := lv_entry ([.ref (g 0), .int p0]) (n := 2) (Nat.le_of_ble_eq_true rfl)
  rw [lg_entry_eq]
  generalize (lg_sl ([.ref (g 0), .int p0]) ++ List.replicate (2 - (lg_sl ([.ref (g 0), .int p0])).length) Slot.unset).toArray = ls at hl ⊢
  have hl : lv_has ls 2 [(0, .ref (g 0)), (1, .int p0)] := hl
  obtain ⟨H, eH⟩ : ∃ z, z = s.heap := ⟨_, rfl⟩
  have hP : va_P D classes [(g 0, .inr (12, [.ref (g 1), .int 0, .int 0, .ref (g 2), .ref (g 3), .ref (g 4), .ref (g 5), .ref (g 6), .int 0, .int 0, .int 0, .int 0, .int 0, .int 0, .int 0, .ref (g 7), .int 0, .ref (g 8), .int 0, .ref (g 9), .ref (g 10), .int 0, .ref (g 11), .ref (g 12), .ref (g 13), .int 0, .int 0, .ref (g 14), .ref (g 15), .int 0, .int 0, .int 0, .ref (g 16), .long 0, .ref (g 17), .ref (g 18), .ref (g 19)])), (g 10, .inl (cs 0, 123, .inl (fun _ => 0)))] H := by rw [eH]; exact hP
  have hS : va_S (fun _ => False) s.heap H [] := by rw [eH]; exact hS
  rw [← eH]
  clear eH
  refine lv_aload_n hx hb dX12_worth_0 rfl (lv_at hl 0 rfl) ?_
  refine lv_iload_n hx hb dX12_worth_1 rfl (lv_at hl 1 rfl) ?_
  refine va_calli (va_runV (As := [.int p0]) (rest := []) ⟨hx, hb, hml, hown, hT⟩ (c_X12_isSet l D cs kK kV g p0) (cwV 1 hT (hz_gV q_267 q_268 q_269 q_252 q_270) rfl rfl rfl (by decide +kernel) ⟨(Nat.le_of_ble_eq_true rfl), (Nat.le_of_ble_eq_true rfl)⟩) ⟨hz_P.blind, va_recv hK hP (ci := 12) (q0 := 0) rfl rfl, hz_P.mk (hP.sub (ws' := [(g 0, .inr (12, [.ref (g 1), .int 0, .int 0, .ref (g 2), .ref (g 3), .ref (g 4), .ref (g 5), .ref (g 6), .int 0, .int 0, .int 0, .int 0, .int 0, .int 0, .int 0, .ref (g 7), .int 0, .ref (g 8), .int 0, .ref (g 9), .ref (g 10), .int 0, .ref (g 11), .ref (g 12), .ref (g 13), .int 0, .int 0, .ref (g 14), .ref (g 15), .int 0, .int 0, .int 0, .ref (g 16), .long 0, .ref (g 17), .ref (g 18), .ref (g 19)])), (g 10, .inl (cs 0, 123, .inl (fun _ => 0)))]) [0,1] rfl) hE hS⟩ rfl rfl hl.1 rfl (lv_room (Nat.le_of_ble_eq_true rfl)) dX12_worth_2 ⟨(Nat.le_of_ble_eq_true rfl), (Nat.le_of_ble_eq_true rfl)⟩) hS (fun _ _ h => h.elim) (fun _ h => h.elim) (fun r_1 u t H1 locs ht hvm hw hB hz1 hk1 hS => ?_)
  have hP := hz_keep hP hk1
  clear hk1 hB hz1
  generalize H1 = H at hP hS ⊢
  subst hw
  refine lv_if_eq (tgt := 17) hx hb dX12_worth_5 (by decide) (fun _ => ?_) (fun z => absurd (by decide) z)
  refine lv_iconst (v := -1) hx hb dX12_worth_17 (by decide) ?_
  exact W.iret (v := -1) hx hb hr (fun t ht hW => ⟨⟨-1, (), rfl, rfl, trivial⟩, hS.F ht⟩) hS.2.2 dX12_worth_18
theorem dX12_with_0 : decode cX12_with 0 = .ok (.aload_n 0, 1) := by decide +kernel
theorem dX12_with_1 : decode cX12_with 1 = .ok (.iload_n 1, 1) := by decide +kernel
theorem dX12_with_2 : decode cX12_with 2 = .ok (.invokevirtual 332, 3) := by decide +kernel
theorem dX12_with_5 : decode cX12_with 5 = .ok (.ifCond .eq 19, 3) := by decide +kernel
theorem dX12_with_24 : decode cX12_with 24 = .ok (.bipush (-2), 2) := by decide +kernel
theorem dX12_with_26 : decode cX12_with 26 = .ok (.ireturn, 1) := by decide +kernel
set_option maxHeartbeats 4000000 in
set_option maxRecDepth 100000 in
theorem c_X12_with (l : Launch) (D : va_G) (cs : Nat → ClassId) (kK kV : Nat → Nat) (g : Nat → Nat) (p0 : Int32) (p1 : Int32) : Met l yX12_with (hz_w yX12_with cX12_with 6 (some .int)) ({ frames := 2, cells := 0, slots := 0, locals := 41 }) (va_Pc [.ref (g 0), .int p0, .int p1] (hz_P D cs kK kV [(g 0, .inr (12, [.ref (g 1), .int 0, .int 0, .ref (g 2), .ref (g 3), .ref (g 4), .ref (g 5), .ref (g 6), .int 0, .int 0, .int 0, .int 0, .int 0, .int 0, .int 0, .ref (g 7), .int 0, .ref (g 8), .int 0, .ref (g 9), .ref (g 10), .int 0, .ref (g 11), .ref (g 12), .ref (g 13), .int 0, .int 0, .ref (g 14), .ref (g 15), .int 0, .int 0, .int 0, .ref (g 16), .long 0, .ref (g 17), .ref (g 18), .ref (g 19)])), (g 10, .inl (cs 0, 123, .inl (fun _ => 0)))])) (va_Qi (fun (r : Int32) (_ : Unit) => r = -2) (fun _ t => True) (fun _ => False)) 0 0 (fun _ => False) := by
  refine Met.ofW (cc := cX12_with) (maxL := 6) (ret := (some .int)) (by decide) rfl ?_
  intro p e s m args below meth c s₁ B hml hv
  obtain ⟨rfl, hP, hE⟩ := hv
  have hx := B.exec
  have hb := B.bytes
  have hr := B.returns
  have hT : ∀ w ∈ TB, w.before _ s = true := fun w h => atoms_spec (ws := hz_w yX12_with cX12_with 6 (some .int)) B.pre w (List.mem_cons_of_mem _ h)
  have hown : s.vm.findClass RX12 = some m.cls := findClass_of_methodNamed B.named
  have hlocks := B.notSynchronized
  clear B
  have hS : va_S (fun _ => False) s.heap s.heap [] := va_S.rf
  have hP : va_P D classes [(g 0, .inr (12, [.ref (g 1), .int 0, .int 0, .ref (g 2), .ref (g 3), .ref (g 4), .ref (g 5), .ref (g 6), .int 0, .int 0, .int 0, .int 0, .int 0, .int 0, .int 0, .ref (g 7), .int 0, .ref (g 8), .int 0, .ref (g 9), .ref (g 10), .int 0, .ref (g 11), .ref (g 12), .ref (g 13), .int 0, .int 0, .ref (g 14), .ref (g 15), .int 0, .int 0, .int 0, .ref (g 16), .long 0, .ref (g 17), .ref (g 18), .ref (g 19)])), (g 10, .inl (cs 0, 123, .inl (fun _ => 0)))] s.heap := hP
  have hK := hE.1
  have hl := lv_entry ([.ref (g 0), .int p0, .int p1]) (n := 6) (Nat.le_of_ble_eq_true rfl)
  rw [lg_entry_eq]
  generalize (lg_sl ([.ref (g 0), .int p0, .int p1]) ++ List.replicate (6 - (lg_sl ([.ref (g 0), .int p0, .int p1])).length) Slot.unset).toArray = ls at hl ⊢
  have hl : lv_has ls 6 [(0, .ref (g 0)), (1, .int p0), (2, .int p1)] := hl
  obtain ⟨H, eH⟩ : ∃ z, z = s.heap := ⟨_, rfl⟩
  have hP : va_P D classes [(g 0, .inr (12, [.ref (g 1), .int 0, .int 0, .ref (g 2), .ref (g 3), .ref (g 4), .ref (g 5), .ref (g 6), .int 0, .int 0, .int 0, .int 0, .int 0, .int 0, .int 0, .ref (g 7), .int 0, .ref (g 8), .int 0, .ref (g 9), .ref (g 10), .int 0, .ref (g 11), .ref (g 12), .ref (g 13), .int 0, .int 0, .ref (g 14), .ref (g 15), .int 0, .int 0, .int 0, .ref (g 16), .long 0, .ref (g 17), .ref (g 18), .ref (g 19)])), (g 10, .inl (cs 0, 123, .inl (fun _ => 0)))] H := by rw [eH]; exact hP
  have hS : va_S (fun _ => False) s.heap H [] := by rw [eH]; exact hS
  rw [← eH]
  clear eH
  refine lv_aload_n hx hb dX12_with_0 rfl (lv_at hl 0 rfl) ?_
  refine lv_iload_n hx hb dX12_with_1 rfl (lv_at hl 1 rfl) ?_
  refine va_calli (va_runV (As := [.int p0]) (rest := []) ⟨hx, hb, hml, hown, hT⟩ (c_X12_isSet l D cs kK kV g p0) (cwV 1 hT (hz_gV q_267 q_268 q_269 q_252 q_270) rfl rfl rfl (by decide +kernel) ⟨(Nat.le_of_ble_eq_true rfl), (Nat.le_of_ble_eq_true rfl)⟩) ⟨hz_P.blind, va_recv hK hP (ci := 12) (q0 := 0) rfl rfl, hz_P.mk (hP.sub (ws' := [(g 0, .inr (12, [.ref (g 1), .int 0, .int 0, .ref (g 2), .ref (g 3), .ref (g 4), .ref (g 5), .ref (g 6), .int 0, .int 0, .int 0, .int 0, .int 0, .int 0, .int 0, .ref (g 7), .int 0, .ref (g 8), .int 0, .ref (g 9), .ref (g 10), .int 0, .ref (g 11), .ref (g 12), .ref (g 13), .int 0, .int 0, .ref (g 14), .ref (g 15), .int 0, .int 0, .int 0, .ref (g 16), .long 0, .ref (g 17), .ref (g 18), .ref (g 19)])), (g 10, .inl (cs 0, 123, .inl (fun _ => 0)))]) [0,1] rfl) hE hS⟩ rfl rfl hl.1 rfl (lv_room (Nat.le_of_ble_eq_true rfl)) dX12_with_2 ⟨(Nat.le_of_ble_eq_true rfl), (Nat.le_of_ble_eq_true rfl)⟩) hS (fun _ _ h => h.elim) (fun _ h => h.elim) (fun r_1 u t H1 locs ht hvm hw hB hz1 hk1 hS => ?_)
  have hP := hz_keep hP hk1
  clear hk1 hB hz1
  generalize H1 = H at hP hS ⊢
  subst hw
  refine lv_if_eq (tgt := 24) hx hb dX12_with_5 (by decide) (fun _ => ?_) (fun z => absurd (by decide) z)
  refine lv_bipush (v := -2) hx hb dX12_with_24 (by decide) ?_
  exact W.iret (v := -2) hx hb hr (fun t ht hW => ⟨⟨-2, (), rfl, rfl, trivial⟩, hS.F ht⟩) hS.2.2 dX12_with_26
theorem dX12_walk_0 : decode cX12_walk 0 = .ok (.aload_n 0, 1) := by decide +kernel
theorem dX12_walk_1 : decode cX12_walk 1 = .ok (.iload_n 1, 1) := by decide +kernel
theorem dX12_walk_2 : decode cX12_walk 2 = .ok (.invokevirtual 343, 3) := by decide +kernel
theorem dX12_walk_5 : decode cX12_walk 5 = .ok (.ifCond .eq 15, 3) := by decide +kernel
theorem dX12_walk_20 : decode cX12_walk 20 = .ok (.bipush (-3), 2) := by decide +kernel
theorem dX12_walk_22 : decode cX12_walk 22 = .ok (.ireturn, 1) := by decide +kernel
set_option maxHeartbeats 4000000 in
set_option maxRecDepth 100000 in
theorem c_X12_walk (l : Launch) (D : va_G) (cs : Nat → ClassId) (kK kV : Nat → Nat) (g : Nat → Nat) (p0 : Int32) (p1 : Int32) : Met l yX12_walk (hz_w yX12_walk cX12_walk 6 (some .int)) ({ frames := 1, cells := 0, slots := 0, locals := 21 }) (va_Pc [.ref (g 0), .int p0, .int p1] (hz_P D cs kK kV [(g 0, .inr (12, [.ref (g 1), .int 0, .int 0, .ref (g 2), .ref (g 3), .ref (g 4), .ref (g 5), .ref (g 6), .int 0, .int 0, .int 0, .int 0, .int 0, .int 0, .int 0, .ref (g 7), .int 0, .ref (g 8), .int 0, .ref (g 9), .ref (g 10), .int 0, .ref (g 11), .ref (g 12), .ref (g 13), .int 0, .int 0, .ref (g 14), .ref (g 15), .int 0, .int 0, .int 0, .ref (g 16), .long 0, .ref (g 17), .ref (g 18), .ref (g 19)])), (g 10, .inl (cs 0, 123, .inl (fun _ => 0)))])) (va_Qi (fun (r : Int32) (_ : Unit) => r = -3) (fun _ t => True) (fun _ => False)) 0 0 (fun _ => False) := by
  refine Met.ofW (cc := cX12_walk) (maxL := 6) (ret := (some .int)) (by decide) rfl ?_
  intro p e s m args below meth c s₁ B hml hv
  obtain ⟨rfl, hP, hE⟩ := hv
  have hx := B.exec
  have hb := B.bytes
  have hr := B.returns
  have hT : ∀ w ∈ TB, w.before _ s = true := fun w h => atoms_spec (ws := hz_w yX12_walk cX12_walk 6 (some .int)) B.pre w (List.mem_cons_of_mem _ h)
  have hown : s.vm.findClass RX12 = some m.cls := findClass_of_methodNamed B.named
  have hlocks := B.notSynchronized
  clear B
  have hS : va_S (fun _ => False) s.heap s.heap [] := va_S.rf
  have hP : va_P D classes [(g 0, .inr (12, [.ref (g 1), .int 0, .int 0, .ref (g 2), .ref (g 3), .ref (g 4), .ref (g 5), .ref (g 6), .int 0, .int 0, .int 0, .int 0, .int 0, .int 0, .int 0, .ref (g 7), .int 0, .ref (g 8), .int 0, .ref (g 9), .ref (g 10), .int 0, .ref (g 11), .ref (g 12), .ref (g 13), .int 0, .int 0, .ref (g 14), .ref (g 15), .int 0, .int 0, .int 0, .ref (g 16), .long 0, .ref (g 17), .ref (g 18), .ref (g 19)])), (g 10, .inl (cs 0, 123, .inl (fun _ => 0)))] s.heap := hP
  have hK := hE.1
  have hl := lv_entry ([.ref (g 0), .int p0, .int p1]) (n := 6) (Nat.le_of_ble_eq_true rfl)
  rw [lg_entry_eq]
  generalize (lg_sl ([.ref (g 0), .int p0, .int p1]) ++ List.replicate (6 - (lg_sl ([.ref (g 0), .int p0, .int p1])).length) Slot.unset).toArray = ls at hl ⊢
  have hl : lv_has ls 6 [(0, .ref (g 0)), (1, .int p0), (2, .int p1)] := hl
  obtain ⟨H, eH⟩ : ∃ z, z = s.heap := ⟨_, rfl⟩
  have hP : va_P D classes [(g 0, .inr (12, [.ref (g 1), .int 0, .int 0, .ref (g 2), .ref (g 3), .ref (g 4), .ref (g 5), .ref (g 6), .int 0, .int 0, .int 0, .int 0, .int 0, .int 0, .int 0, .ref (g 7), .int 0, .ref (g 8), .int 0, .ref (g 9), .ref (g 10), .int 0, .ref (g 11), .ref (g 12), .ref (g 13), .int 0, .int 0, .ref (g 14), .ref (g 15), .int 0, .int 0, .int 0, .ref (g 16), .long 0, .ref (g 17), .ref (g 18), .ref (g 19)])), (g 10, .inl (cs 0, 123, .inl (fun _ => 0)))] H := by rw [eH]; exact hP
  have hS : va_S (fun _ => False) s.heap H [] := by rw [eH]; exact hS
  rw [← eH]
  clear eH
  refine lv_aload_n hx hb dX12_walk_0 rfl (lv_at hl 0 rfl) ?_
  refine lv_iload_n hx hb dX12_walk_1 rfl (lv_at hl 1 rfl) ?_
  refine va_calli (va_runV (As := [.int p0]) (rest := []) ⟨hx, hb, hml, hown, hT⟩ (c_X12_isBuyer l D cs kK kV g p0) (cwV 1 hT (hz_gV q_254 q_255 q_256 q_252 q_257) rfl rfl rfl (by decide +kernel) ⟨(Nat.le_of_ble_eq_true rfl), (Nat.le_of_ble_eq_true rfl)⟩) ⟨hz_P.blind, va_recv hK hP (ci := 12) (q0 := 0) rfl rfl, hz_P.mk (hP.sub (ws' := [(g 0, .inr (12, [.ref (g 1), .int 0, .int 0, .ref (g 2), .ref (g 3), .ref (g 4), .ref (g 5), .ref (g 6), .int 0, .int 0, .int 0, .int 0, .int 0, .int 0, .int 0, .ref (g 7), .int 0, .ref (g 8), .int 0, .ref (g 9), .ref (g 10), .int 0, .ref (g 11), .ref (g 12), .ref (g 13), .int 0, .int 0, .ref (g 14), .ref (g 15), .int 0, .int 0, .int 0, .ref (g 16), .long 0, .ref (g 17), .ref (g 18), .ref (g 19)])), (g 10, .inl (cs 0, 123, .inl (fun _ => 0)))]) [0,1] rfl) hE hS⟩ rfl rfl hl.1 rfl (lv_room (Nat.le_of_ble_eq_true rfl)) dX12_walk_2 ⟨(Nat.le_of_ble_eq_true rfl), (Nat.le_of_ble_eq_true rfl)⟩) hS (fun _ _ h => h.elim) (fun _ h => h.elim) (fun r_1 u t H1 locs ht hvm hw hB hz1 hk1 hS => ?_)
  have hP := hz_keep hP hk1
  clear hk1 hB hz1
  generalize H1 = H at hP hS ⊢
  subst hw
  refine lv_if_eq (tgt := 20) hx hb dX12_walk_5 (by decide) (fun _ => ?_) (fun z => absurd (by decide) z)
  refine lv_bipush (v := -3) hx hb dX12_walk_20 (by decide) ?_
  exact W.iret (v := -3) hx hb hr (fun t ht hW => ⟨⟨-3, (), rfl, rfl, trivial⟩, hS.F ht⟩) hS.2.2 dX12_walk_22
theorem dX12_chance_0 : decode cX12_chance 0 = .ok (.aload_n 0, 1) := by decide +kernel
theorem dX12_chance_1 : decode cX12_chance 1 = .ok (.iload_n 1, 1) := by decide +kernel
theorem dX12_chance_2 : decode cX12_chance 2 = .ok (.invokevirtual 343, 3) := by decide +kernel
theorem dX12_chance_5 : decode cX12_chance 5 = .ok (.ifCond .eq 21, 3) := by decide +kernel
theorem dX12_chance_26 : decode cX12_chance 26 = .ok (.iconst (-1), 1) := by decide +kernel
theorem dX12_chance_27 : decode cX12_chance 27 = .ok (.ireturn, 1) := by decide +kernel
set_option maxHeartbeats 4000000 in
set_option maxRecDepth 100000 in
theorem c_X12_chance (l : Launch) (D : va_G) (cs : Nat → ClassId) (kK kV : Nat → Nat) (g : Nat → Nat) (p0 : Int32) (p1 : Int32) (p2 : Int32) : Met l yX12_chance (hz_w yX12_chance cX12_chance 6 (some .int)) ({ frames := 1, cells := 0, slots := 0, locals := 21 }) (va_Pc [.ref (g 0), .int p0, .int p1, .int p2] (hz_P D cs kK kV [(g 0, .inr (12, [.ref (g 1), .int 0, .int 0, .ref (g 2), .ref (g 3), .ref (g 4), .ref (g 5), .ref (g 6), .int 0, .int 0, .int 0, .int 0, .int 0, .int 0, .int 0, .ref (g 7), .int 0, .ref (g 8), .int 0, .ref (g 9), .ref (g 10), .int 0, .ref (g 11), .ref (g 12), .ref (g 13), .int 0, .int 0, .ref (g 14), .ref (g 15), .int 0, .int 0, .int 0, .ref (g 16), .long 0, .ref (g 17), .ref (g 18), .ref (g 19)])), (g 10, .inl (cs 0, 123, .inl (fun _ => 0)))])) (va_Qi (fun (r : Int32) (_ : Unit) => r = -1) (fun _ t => True) (fun _ => False)) 0 0 (fun _ => False) := by
  refine Met.ofW (cc := cX12_chance) (maxL := 6) (ret := (some .int)) (by decide) rfl ?_
  intro p e s m args below meth c s₁ B hml hv
  obtain ⟨rfl, hP, hE⟩ := hv
  have hx := B.exec
  have hb := B.bytes
  have hr := B.returns
  have hT : ∀ w ∈ TB, w.before _ s = true := fun w h => atoms_spec (ws := hz_w yX12_chance cX12_chance 6 (some .int)) B.pre w (List.mem_cons_of_mem _ h)
  have hown : s.vm.findClass RX12 = some m.cls := findClass_of_methodNamed B.named
  have hlocks := B.notSynchronized
  clear B
  have hS : va_S (fun _ => False) s.heap s.heap [] := va_S.rf
  have hP : va_P D classes [(g 0, .inr (12, [.ref (g 1), .int 0, .int 0, .ref (g 2), .ref (g 3), .ref (g 4), .ref (g 5), .ref (g 6), .int 0, .int 0, .int 0, .int 0, .int 0, .int 0, .int 0, .ref (g 7), .int 0, .ref (g 8), .int 0, .ref (g 9), .ref (g 10), .int 0, .ref (g 11), .ref (g 12), .ref (g 13), .int 0, .int 0, .ref (g 14), .ref (g 15), .int 0, .int 0, .int 0, .ref (g 16), .long 0, .ref (g 17), .ref (g 18), .ref (g 19)])), (g 10, .inl (cs 0, 123, .inl (fun _ => 0)))] s.heap := hP
  have hK := hE.1
  have hl := lv_entry ([.ref (g 0), .int p0, .int p1, .int p2]) (n := 6) (Nat.le_of_ble_eq_true rfl)
  rw [lg_entry_eq]
  generalize (lg_sl ([.ref (g 0), .int p0, .int p1, .int p2]) ++ List.replicate (6 - (lg_sl ([.ref (g 0), .int p0, .int p1, .int p2])).length) Slot.unset).toArray = ls at hl ⊢
  have hl : lv_has ls 6 [(0, .ref (g 0)), (1, .int p0), (2, .int p1), (3, .int p2)] := hl
  obtain ⟨H, eH⟩ : ∃ z, z = s.heap := ⟨_, rfl⟩
  have hP : va_P D classes [(g 0, .inr (12, [.ref (g 1), .int 0, .int 0, .ref (g 2), .ref (g 3), .ref (g 4), .ref (g 5), .ref (g 6), .int 0, .int 0, .int 0, .int 0, .int 0, .int 0, .int 0, .ref (g 7), .int 0, .ref (g 8), .int 0, .ref (g 9), .ref (g 10), .int 0, .ref (g 11), .ref (g 12), .ref (g 13), .int 0, .int 0, .ref (g 14), .ref (g 15), .int 0, .int 0, .int 0, .ref (g 16), .long 0, .ref (g 17), .ref (g 18), .ref (g 19)])), (g 10, .inl (cs 0, 123, .inl (fun _ => 0)))] H := by rw [eH]; exact hP
  have hS : va_S (fun _ => False) s.heap H [] := by rw [eH]; exact hS
  rw [← eH]
  clear eH
  refine lv_aload_n hx hb dX12_chance_0 rfl (lv_at hl 0 rfl) ?_
  refine lv_iload_n hx hb dX12_chance_1 rfl (lv_at hl 1 rfl) ?_
  refine va_calli (va_runV (As := [.int p0]) (rest := []) ⟨hx, hb, hml, hown, hT⟩ (c_X12_isBuyer l D cs kK kV g p0) (cwV 1 hT (hz_gV q_254 q_255 q_256 q_252 q_257) rfl rfl rfl (by decide +kernel) ⟨(Nat.le_of_ble_eq_true rfl), (Nat.le_of_ble_eq_true rfl)⟩) ⟨hz_P.blind, va_recv hK hP (ci := 12) (q0 := 0) rfl rfl, hz_P.mk (hP.sub (ws' := [(g 0, .inr (12, [.ref (g 1), .int 0, .int 0, .ref (g 2), .ref (g 3), .ref (g 4), .ref (g 5), .ref (g 6), .int 0, .int 0, .int 0, .int 0, .int 0, .int 0, .int 0, .ref (g 7), .int 0, .ref (g 8), .int 0, .ref (g 9), .ref (g 10), .int 0, .ref (g 11), .ref (g 12), .ref (g 13), .int 0, .int 0, .ref (g 14), .ref (g 15), .int 0, .int 0, .int 0, .ref (g 16), .long 0, .ref (g 17), .ref (g 18), .ref (g 19)])), (g 10, .inl (cs 0, 123, .inl (fun _ => 0)))]) [0,1] rfl) hE hS⟩ rfl rfl hl.1 rfl (lv_room (Nat.le_of_ble_eq_true rfl)) dX12_chance_2 ⟨(Nat.le_of_ble_eq_true rfl), (Nat.le_of_ble_eq_true rfl)⟩) hS (fun _ _ h => h.elim) (fun _ h => h.elim) (fun r_1 u t H1 locs ht hvm hw hB hz1 hk1 hS => ?_)
  have hP := hz_keep hP hk1
  clear hk1 hB hz1
  generalize H1 = H at hP hS ⊢
  subst hw
  refine lv_if_eq (tgt := 26) hx hb dX12_chance_5 (by decide) (fun _ => ?_) (fun z => absurd (by decide) z)
  refine lv_iconst (v := -1) hx hb dX12_chance_26 (by decide) ?_
  exact W.iret (v := -1) hx hb hr (fun t ht hW => ⟨⟨-1, (), rfl, rfl, trivial⟩, hS.F ht⟩) hS.2.2 dX12_chance_27
theorem dX12_yields_0 : decode cX12_yields 0 = .ok (.aload_n 0, 1) := by decide +kernel
theorem dX12_yields_1 : decode cX12_yields 1 = .ok (.iload_n 1, 1) := by decide +kernel
theorem dX12_yields_2 : decode cX12_yields 2 = .ok (.iload_n 2, 1) := by decide +kernel
theorem dX12_yields_3 : decode cX12_yields 3 = .ok (.iload_n 3, 1) := by decide +kernel
theorem dX12_yields_4 : decode cX12_yields 4 = .ok (.iload 4, 2) := by decide +kernel
theorem dX12_yields_6 : decode cX12_yields 6 = .ok (.invokevirtual 377, 3) := by decide +kernel
theorem dX12_yields_9 : decode cX12_yields 9 = .ok (.ifCond .eq 24, 3) := by decide +kernel
theorem dX12_yields_33 : decode cX12_yields 33 = .ok (.iconst (-1), 1) := by decide +kernel
theorem dX12_yields_34 : decode cX12_yields 34 = .ok (.ireturn, 1) := by decide +kernel
set_option maxHeartbeats 4000000 in
set_option maxRecDepth 100000 in
theorem c_X12_yields (l : Launch) (D : va_G) (cs : Nat → ClassId) (kK kV : Nat → Nat) (g : Nat → Nat) (p0 : Int32) (p1 : Int32) (p2 : Int32) (p3 : Int32) (p4 : Int32) : Met l yX12_yields (hz_w yX12_yields cX12_yields 8 (some .int)) ({ frames := 2, cells := 0, slots := 0, locals := 45 }) (va_Pc [.ref (g 0), .int p0, .int p1, .int p2, .int p3, .int p4] (hz_P D cs kK kV [(g 0, .inr (12, [.ref (g 1), .int 0, .int 0, .ref (g 2), .ref (g 3), .ref (g 4), .ref (g 5), .ref (g 6), .int 0, .int 0, .int 0, .int 0, .int 0, .int 0, .int 0, .ref (g 7), .int 0, .ref (g 8), .int 0, .ref (g 9), .ref (g 10), .int 0, .ref (g 11), .ref (g 12), .ref (g 13), .int 0, .int 0, .ref (g 14), .ref (g 15), .int 0, .int 0, .int 0, .ref (g 16), .long 0, .ref (g 17), .ref (g 18), .ref (g 19)])), (g 10, .inl (cs 0, 123, .inl (fun _ => 0)))])) (va_Qi (fun (r : Int32) (_ : Unit) => r = -1) (fun _ t => True) (fun _ => False)) 0 0 (fun _ => False) := by
  refine Met.ofW (cc := cX12_yields) (maxL := 8) (ret := (some .int)) (by decide) rfl ?_
  intro p e s m args below meth c s₁ B hml hv
  obtain ⟨rfl, hP, hE⟩ := hv
  have hx := B.exec
  have hb := B.bytes
  have hr := B.returns
  have hT : ∀ w ∈ TB, w.before _ s = true := fun w h => atoms_spec (ws := hz_w yX12_yields cX12_yields 8 (some .int)) B.pre w (List.mem_cons_of_mem _ h)
  have hown : s.vm.findClass RX12 = some m.cls := findClass_of_methodNamed B.named
  have hlocks := B.notSynchronized
  clear B
  have hS : va_S (fun _ => False) s.heap s.heap [] := va_S.rf
  have hP : va_P D classes [(g 0, .inr (12, [.ref (g 1), .int 0, .int 0, .ref (g 2), .ref (g 3), .ref (g 4), .ref (g 5), .ref (g 6), .int 0, .int 0, .int 0, .int 0, .int 0, .int 0, .int 0, .ref (g 7), .int 0, .ref (g 8), .int 0, .ref (g 9), .ref (g 10), .int 0, .ref (g 11), .ref (g 12), .ref (g 13), .int 0, .int 0, .ref (g 14), .ref (g 15), .int 0, .int 0, .int 0, .ref (g 16), .long 0, .ref (g 17), .ref (g 18), .ref (g 19)])), (g 10, .inl (cs 0, 123, .inl (fun _ => 0)))] s.heap := hP
  have hK := hE.1
  have hl := lv_entry ([.ref (g 0), .int p0, .int p1, .int p2, .int p3, .int p4]) (n := 8) (Nat.le_of_ble_eq_true rfl)
  rw [lg_entry_eq]
  generalize (lg_sl ([.ref (g 0), .int p0, .int p1, .int p2, .int p3, .int p4]) ++ List.replicate (8 - (lg_sl ([.ref (g 0), .int p0, .int p1, .int p2, .int p3, .int p4])).length) Slot.unset).toArray = ls at hl ⊢
  have hl : lv_has ls 8 [(0, .ref (g 0)), (1, .int p0), (2, .int p1), (3, .int p2), (4, .int p3), (5, .int p4)] := hl
  obtain ⟨H, eH⟩ : ∃ z, z = s.heap := ⟨_, rfl⟩
  have hP : va_P D classes [(g 0, .inr (12, [.ref (g 1), .int 0, .int 0, .ref (g 2), .ref (g 3), .ref (g 4), .ref (g 5), .ref (g 6), .int 0, .int 0, .int 0, .int 0, .int 0, .int 0, .int 0, .ref (g 7), .int 0, .ref (g 8), .int 0, .ref (g 9), .ref (g 10), .int 0, .ref (g 11), .ref (g 12), .ref (g 13), .int 0, .int 0, .ref (g 14), .ref (g 15), .int 0, .int 0, .int 0, .ref (g 16), .long 0, .ref (g 17), .ref (g 18), .ref (g 19)])), (g 10, .inl (cs 0, 123, .inl (fun _ => 0)))] H := by rw [eH]; exact hP
  have hS : va_S (fun _ => False) s.heap H [] := by rw [eH]; exact hS
  rw [← eH]
  clear eH
  refine lv_aload_n hx hb dX12_yields_0 rfl (lv_at hl 0 rfl) ?_
  refine lv_iload_n hx hb dX12_yields_1 rfl (lv_at hl 1 rfl) ?_
  refine lv_iload_n hx hb dX12_yields_2 rfl (lv_at hl 2 rfl) ?_
  refine lv_iload_n hx hb dX12_yields_3 rfl (lv_at hl 3 rfl) ?_
  refine lv_iload hx hb dX12_yields_4 (lv_at hl 4 rfl) ?_
  refine va_calli (va_runV (As := [.int p0, .int p1, .int p2, .int p3]) (rest := []) ⟨hx, hb, hml, hown, hT⟩ (c_X12_areTheirs l D cs kK kV g p0 p1 p2 p3) (cwV 4 hT (hz_gV q_262 q_263 q_264 q_252 q_265) rfl rfl rfl (by decide +kernel) ⟨(Nat.le_of_ble_eq_true rfl), (Nat.le_of_ble_eq_true rfl)⟩) ⟨hz_P.blind, va_recv hK hP (ci := 12) (q0 := 0) rfl rfl, hz_P.mk (hP.sub (ws' := [(g 0, .inr (12, [.ref (g 1), .int 0, .int 0, .ref (g 2), .ref (g 3), .ref (g 4), .ref (g 5), .ref (g 6), .int 0, .int 0, .int 0, .int 0, .int 0, .int 0, .int 0, .ref (g 7), .int 0, .ref (g 8), .int 0, .ref (g 9), .ref (g 10), .int 0, .ref (g 11), .ref (g 12), .ref (g 13), .int 0, .int 0, .ref (g 14), .ref (g 15), .int 0, .int 0, .int 0, .ref (g 16), .long 0, .ref (g 17), .ref (g 18), .ref (g 19)])), (g 10, .inl (cs 0, 123, .inl (fun _ => 0)))]) [0,1] rfl) hE hS⟩ rfl rfl hl.1 rfl (lv_room (Nat.le_of_ble_eq_true rfl)) dX12_yields_6 ⟨(Nat.le_of_ble_eq_true rfl), (Nat.le_of_ble_eq_true rfl)⟩) hS (fun _ _ h => h.elim) (fun _ h => h.elim) (fun r_1 u t H1 locs ht hvm hw hB hz1 hk1 hS => ?_)
  have hP := hz_keep hP hk1
  clear hk1 hB hz1
  generalize H1 = H at hP hS ⊢
  subst hw
  refine lv_if_eq (tgt := 33) hx hb dX12_yields_9 (by decide) (fun _ => ?_) (fun z => absurd (by decide) z)
  refine lv_iconst (v := -1) hx hb dX12_yields_33 (by decide) ?_
  exact W.iret (v := -1) hx hb hr (fun t ht hW => ⟨⟨-1, (), rfl, rfl, trivial⟩, hS.F ht⟩) hS.2.2 dX12_yields_34
theorem dX12_cry_0 : decode cX12_cry 0 = .ok (.aload_n 0, 1) := by decide +kernel
theorem dX12_cry_1 : decode cX12_cry 1 = .ok (.iload_n 1, 1) := by decide +kernel
theorem dX12_cry_2 : decode cX12_cry 2 = .ok (.invokevirtual 343, 3) := by decide +kernel
theorem dX12_cry_5 : decode cX12_cry 5 = .ok (.ifCond .eq 13, 3) := by decide +kernel
theorem dX12_cry_18 : decode cX12_cry 18 = .ok (.iconst (-1), 1) := by decide +kernel
theorem dX12_cry_19 : decode cX12_cry 19 = .ok (.ireturn, 1) := by decide +kernel
set_option maxHeartbeats 4000000 in
set_option maxRecDepth 100000 in
theorem c_X12_cry (l : Launch) (D : va_G) (cs : Nat → ClassId) (kK kV : Nat → Nat) (g : Nat → Nat) (p0 : Int32) (p1 : Int32) : Met l yX12_cry (hz_w yX12_cry cX12_cry 7 (some .int)) ({ frames := 1, cells := 0, slots := 0, locals := 21 }) (va_Pc [.ref (g 0), .int p0, .int p1] (hz_P D cs kK kV [(g 0, .inr (12, [.ref (g 1), .int 0, .int 0, .ref (g 2), .ref (g 3), .ref (g 4), .ref (g 5), .ref (g 6), .int 0, .int 0, .int 0, .int 0, .int 0, .int 0, .int 0, .ref (g 7), .int 0, .ref (g 8), .int 0, .ref (g 9), .ref (g 10), .int 0, .ref (g 11), .ref (g 12), .ref (g 13), .int 0, .int 0, .ref (g 14), .ref (g 15), .int 0, .int 0, .int 0, .ref (g 16), .long 0, .ref (g 17), .ref (g 18), .ref (g 19)])), (g 10, .inl (cs 0, 123, .inl (fun _ => 0)))])) (va_Qi (fun (r : Int32) (_ : Unit) => r = -1) (fun _ t => True) (fun _ => False)) 0 0 (fun _ => False) := by
  refine Met.ofW (cc := cX12_cry) (maxL := 7) (ret := (some .int)) (by decide) rfl ?_
  intro p e s m args below meth c s₁ B hml hv
  obtain ⟨rfl, hP, hE⟩ := hv
  have hx := B.exec
  have hb := B.bytes
  have hr := B.returns
  have hT : ∀ w ∈ TB, w.before _ s = true := fun w h => atoms_spec (ws := hz_w yX12_cry cX12_cry 7 (some .int)) B.pre w (List.mem_cons_of_mem _ h)
  have hown : s.vm.findClass RX12 = some m.cls := findClass_of_methodNamed B.named
  have hlocks := B.notSynchronized
  clear B
  have hS : va_S (fun _ => False) s.heap s.heap [] := va_S.rf
  have hP : va_P D classes [(g 0, .inr (12, [.ref (g 1), .int 0, .int 0, .ref (g 2), .ref (g 3), .ref (g 4), .ref (g 5), .ref (g 6), .int 0, .int 0, .int 0, .int 0, .int 0, .int 0, .int 0, .ref (g 7), .int 0, .ref (g 8), .int 0, .ref (g 9), .ref (g 10), .int 0, .ref (g 11), .ref (g 12), .ref (g 13), .int 0, .int 0, .ref (g 14), .ref (g 15), .int 0, .int 0, .int 0, .ref (g 16), .long 0, .ref (g 17), .ref (g 18), .ref (g 19)])), (g 10, .inl (cs 0, 123, .inl (fun _ => 0)))] s.heap := hP
  have hK := hE.1
  have hl := lv_entry ([.ref (g 0), .int p0, .int p1]) (n := 7) (Nat.le_of_ble_eq_true rfl)
  rw [lg_entry_eq]
  generalize (lg_sl ([.ref (g 0), .int p0, .int p1]) ++ List.replicate (7 - (lg_sl ([.ref (g 0), .int p0, .int p1])).length) Slot.unset).toArray = ls at hl ⊢
  have hl : lv_has ls 7 [(0, .ref (g 0)), (1, .int p0), (2, .int p1)] := hl
  obtain ⟨H, eH⟩ : ∃ z, z = s.heap := ⟨_, rfl⟩
  have hP : va_P D classes [(g 0, .inr (12, [.ref (g 1), .int 0, .int 0, .ref (g 2), .ref (g 3), .ref (g 4), .ref (g 5), .ref (g 6), .int 0, .int 0, .int 0, .int 0, .int 0, .int 0, .int 0, .ref (g 7), .int 0, .ref (g 8), .int 0, .ref (g 9), .ref (g 10), .int 0, .ref (g 11), .ref (g 12), .ref (g 13), .int 0, .int 0, .ref (g 14), .ref (g 15), .int 0, .int 0, .int 0, .ref (g 16), .long 0, .ref (g 17), .ref (g 18), .ref (g 19)])), (g 10, .inl (cs 0, 123, .inl (fun _ => 0)))] H := by rw [eH]; exact hP
  have hS : va_S (fun _ => False) s.heap H [] := by rw [eH]; exact hS
  rw [← eH]
  clear eH
  refine lv_aload_n hx hb dX12_cry_0 rfl (lv_at hl 0 rfl) ?_
  refine lv_iload_n hx hb dX12_cry_1 rfl (lv_at hl 1 rfl) ?_
  refine va_calli (va_runV (As := [.int p0]) (rest := []) ⟨hx, hb, hml, hown, hT⟩ (c_X12_isBuyer l D cs kK kV g p0) (cwV 1 hT (hz_gV q_254 q_255 q_256 q_252 q_257) rfl rfl rfl (by decide +kernel) ⟨(Nat.le_of_ble_eq_true rfl), (Nat.le_of_ble_eq_true rfl)⟩) ⟨hz_P.blind, va_recv hK hP (ci := 12) (q0 := 0) rfl rfl, hz_P.mk (hP.sub (ws' := [(g 0, .inr (12, [.ref (g 1), .int 0, .int 0, .ref (g 2), .ref (g 3), .ref (g 4), .ref (g 5), .ref (g 6), .int 0, .int 0, .int 0, .int 0, .int 0, .int 0, .int 0, .ref (g 7), .int 0, .ref (g 8), .int 0, .ref (g 9), .ref (g 10), .int 0, .ref (g 11), .ref (g 12), .ref (g 13), .int 0, .int 0, .ref (g 14), .ref (g 15), .int 0, .int 0, .int 0, .ref (g 16), .long 0, .ref (g 17), .ref (g 18), .ref (g 19)])), (g 10, .inl (cs 0, 123, .inl (fun _ => 0)))]) [0,1] rfl) hE hS⟩ rfl rfl hl.1 rfl (lv_room (Nat.le_of_ble_eq_true rfl)) dX12_cry_2 ⟨(Nat.le_of_ble_eq_true rfl), (Nat.le_of_ble_eq_true rfl)⟩) hS (fun _ _ h => h.elim) (fun _ h => h.elim) (fun r_1 u t H1 locs ht hvm hw hB hz1 hk1 hS => ?_)
  have hP := hz_keep hP hk1
  clear hk1 hB hz1
  generalize H1 = H at hP hS ⊢
  subst hw
  refine lv_if_eq (tgt := 18) hx hb dX12_cry_5 (by decide) (fun _ => ?_) (fun z => absurd (by decide) z)
  refine lv_iconst (v := -1) hx hb dX12_cry_18 (by decide) ?_
  exact W.iret (v := -1) hx hb hr (fun t ht hW => ⟨⟨-1, (), rfl, rfl, trivial⟩, hS.F ht⟩) hS.2.2 dX12_cry_19
theorem dX12_bring_0 : decode cX12_bring 0 = .ok (.aload_n 0, 1) := by decide +kernel
theorem dX12_bring_1 : decode cX12_bring 1 = .ok (.iload_n 1, 1) := by decide +kernel
theorem dX12_bring_2 : decode cX12_bring 2 = .ok (.invokevirtual 413, 3) := by decide +kernel
theorem dX12_bring_5 : decode cX12_bring 5 = .ok (.ifCond .eq 21, 3) := by decide +kernel
theorem dX12_bring_26 : decode cX12_bring 26 = .ok (.iconst (-1), 1) := by decide +kernel
theorem dX12_bring_27 : decode cX12_bring 27 = .ok (.ireturn, 1) := by decide +kernel
set_option maxHeartbeats 4000000 in
set_option maxRecDepth 100000 in
theorem c_X12_bring (l : Launch) (D : va_G) (cs : Nat → ClassId) (kK kV : Nat → Nat) (g : Nat → Nat) (p0 : Int32) (p1 : Int32) (p2 : Int32) : Met l yX12_bring (hz_w yX12_bring cX12_bring 9 (some .int)) ({ frames := 1, cells := 0, slots := 0, locals := 21 }) (va_Pc [.ref (g 0), .int p0, .int p1, .int p2] (hz_P D cs kK kV [(g 0, .inr (12, [.ref (g 1), .int 0, .int 0, .ref (g 2), .ref (g 3), .ref (g 4), .ref (g 5), .ref (g 6), .int 0, .int 0, .int 0, .int 0, .int 0, .int 0, .int 0, .ref (g 7), .int 0, .ref (g 8), .int 0, .ref (g 9), .ref (g 10), .int 0, .ref (g 11), .ref (g 12), .ref (g 13), .int 0, .int 0, .ref (g 14), .ref (g 15), .int 0, .int 0, .int 0, .ref (g 16), .long 0, .ref (g 17), .ref (g 18), .ref (g 19)]))])) (va_Qi (fun (r : Int32) (_ : Unit) => r = -1) (fun _ t => True) (fun _ => False)) 0 0 (fun _ => False) := by
  refine Met.ofW (cc := cX12_bring) (maxL := 9) (ret := (some .int)) (by decide) rfl ?_
  intro p e s m args below meth c s₁ B hml hv
  obtain ⟨rfl, hP, hE⟩ := hv
  have hx := B.exec
  have hb := B.bytes
  have hr := B.returns
  have hT : ∀ w ∈ TB, w.before _ s = true := fun w h => atoms_spec (ws := hz_w yX12_bring cX12_bring 9 (some .int)) B.pre w (List.mem_cons_of_mem _ h)
  have hown : s.vm.findClass RX12 = some m.cls := findClass_of_methodNamed B.named
  have hlocks := B.notSynchronized
  clear B
  have hS : va_S (fun _ => False) s.heap s.heap [] := va_S.rf
  have hP : va_P D classes [(g 0, .inr (12, [.ref (g 1), .int 0, .int 0, .ref (g 2), .ref (g 3), .ref (g 4), .ref (g 5), .ref (g 6), .int 0, .int 0, .int 0, .int 0, .int 0, .int 0, .int 0, .ref (g 7), .int 0, .ref (g 8), .int 0, .ref (g 9), .ref (g 10), .int 0, .ref (g 11), .ref (g 12), .ref (g 13), .int 0, .int 0, .ref (g 14), .ref (g 15), .int 0, .int 0, .int 0, .ref (g 16), .long 0, .ref (g 17), .ref (g 18), .ref (g 19)]))] s.heap := hP
  have hK := hE.1
  have hl := lv_entry ([.ref (g 0), .int p0, .int p1, .int p2]) (n := 9) (Nat.le_of_ble_eq_true rfl)
  rw [lg_entry_eq]
  generalize (lg_sl ([.ref (g 0), .int p0, .int p1, .int p2]) ++ List.replicate (9 - (lg_sl ([.ref (g 0), .int p0, .int p1, .int p2])).length) Slot.unset).toArray = ls at hl ⊢
  have hl : lv_has ls 9 [(0, .ref (g 0)), (1, .int p0), (2, .int p1), (3, .int p2)] := hl
  obtain ⟨H, eH⟩ : ∃ z, z = s.heap := ⟨_, rfl⟩
  have hP : va_P D classes [(g 0, .inr (12, [.ref (g 1), .int 0, .int 0, .ref (g 2), .ref (g 3), .ref (g 4), .ref (g 5), .ref (g 6), .int 0, .int 0, .int 0, .int 0, .int 0, .int 0, .int 0, .ref (g 7), .int 0, .ref (g 8), .int 0, .ref (g 9), .ref (g 10), .int 0, .ref (g 11), .ref (g 12), .ref (g 13), .int 0, .int 0, .ref (g 14), .ref (g 15), .int 0, .int 0, .int 0, .ref (g 16), .long 0, .ref (g 17), .ref (g 18), .ref (g 19)]))] H := by rw [eH]; exact hP
  have hS : va_S (fun _ => False) s.heap H [] := by rw [eH]; exact hS
  rw [← eH]
  clear eH
  refine lv_aload_n hx hb dX12_bring_0 rfl (lv_at hl 0 rfl) ?_
  refine lv_iload_n hx hb dX12_bring_1 rfl (lv_at hl 1 rfl) ?_
  refine va_calli (va_runV (As := [.int p0]) (rest := []) ⟨hx, hb, hml, hown, hT⟩ (c_X12_isRule l D cs kK kV g p0) (cwV 1 hT (hz_gV q_271 q_272 q_273 q_252 q_274) rfl rfl rfl (by decide +kernel) ⟨(Nat.le_of_ble_eq_true rfl), (Nat.le_of_ble_eq_true rfl)⟩) ⟨hz_P.blind, va_recv hK hP (ci := 12) (q0 := 0) rfl rfl, hz_P.mk (hP.sub (ws' := [(g 0, .inr (12, [.ref (g 1), .int 0, .int 0, .ref (g 2), .ref (g 3), .ref (g 4), .ref (g 5), .ref (g 6), .int 0, .int 0, .int 0, .int 0, .int 0, .int 0, .int 0, .ref (g 7), .int 0, .ref (g 8), .int 0, .ref (g 9), .ref (g 10), .int 0, .ref (g 11), .ref (g 12), .ref (g 13), .int 0, .int 0, .ref (g 14), .ref (g 15), .int 0, .int 0, .int 0, .ref (g 16), .long 0, .ref (g 17), .ref (g 18), .ref (g 19)]))]) [0] rfl) hE hS⟩ rfl rfl hl.1 rfl (lv_room (Nat.le_of_ble_eq_true rfl)) dX12_bring_2 ⟨(Nat.le_of_ble_eq_true rfl), (Nat.le_of_ble_eq_true rfl)⟩) hS (fun _ _ h => h.elim) (fun _ h => h.elim) (fun r_1 u t H1 locs ht hvm hw hB hz1 hk1 hS => ?_)
  have hP := hz_keep hP hk1
  clear hk1 hB hz1
  generalize H1 = H at hP hS ⊢
  subst hw
  refine lv_if_eq (tgt := 26) hx hb dX12_bring_5 (by decide) (fun _ => ?_) (fun z => absurd (by decide) z)
  refine lv_iconst (v := -1) hx hb dX12_bring_26 (by decide) ?_
  exact W.iret (v := -1) hx hb hr (fun t ht hW => ⟨⟨-1, (), rfl, rfl, trivial⟩, hS.F ht⟩) hS.2.2 dX12_bring_27
theorem dX12_forgers_0 : decode cX12_forgers 0 = .ok (.aload_n 0, 1) := by decide +kernel
theorem dX12_forgers_1 : decode cX12_forgers 1 = .ok (.invokevirtual 329, 3) := by decide +kernel
theorem dX12_forgers_4 : decode cX12_forgers 4 = .ok (.ifCond .eq 13, 3) := by decide +kernel
theorem dX12_forgers_17 : decode cX12_forgers 17 = .ok (.iconst (-1), 1) := by decide +kernel
theorem dX12_forgers_18 : decode cX12_forgers 18 = .ok (.ireturn, 1) := by decide +kernel
set_option maxHeartbeats 4000000 in
set_option maxRecDepth 100000 in
theorem c_X12_forgers (l : Launch) (D : va_G) (cs : Nat → ClassId) (kK kV : Nat → Nat) (g : Nat → Nat) (p0 : Int32) : Met l yX12_forgers (hz_w yX12_forgers cX12_forgers 5 (some .int)) ({ frames := 1, cells := 0, slots := 0, locals := 20 }) (va_Pc [.ref (g 0), .int p0] (hz_P D cs kK kV [(g 0, .inr (12, [.ref (g 1), .int 0, .int 0, .ref (g 2), .ref (g 3), .ref (g 4), .ref (g 5), .ref (g 6), .int 0, .int 0, .int 0, .int 0, .int 0, .int 0, .int 0, .ref (g 7), .int 0, .ref (g 8), .int 0, .ref (g 9), .ref (g 10), .int 0, .ref (g 11), .ref (g 12), .ref (g 13), .int 0, .int 0, .ref (g 14), .ref (g 15), .int 0, .int 0, .int 0, .ref (g 16), .long 0, .ref (g 17), .ref (g 18), .ref (g 19)])), (g 10, .inl (cs 0, 123, .inl (fun _ => 0)))])) (va_Qi (fun (r : Int32) (_ : Unit) => r = -1) (fun _ t => True) (fun _ => False)) 0 0 (fun _ => False) := by
  refine Met.ofW (cc := cX12_forgers) (maxL := 5) (ret := (some .int)) (by decide) rfl ?_
  intro p e s m args below meth c s₁ B hml hv
  obtain ⟨rfl, hP, hE⟩ := hv
  have hx := B.exec
  have hb := B.bytes
  have hr := B.returns
  have hT : ∀ w ∈ TB, w.before _ s = true := fun w h => atoms_spec (ws := hz_w yX12_forgers cX12_forgers 5 (some .int)) B.pre w (List.mem_cons_of_mem _ h)
  have hown : s.vm.findClass RX12 = some m.cls := findClass_of_methodNamed B.named
  have hlocks := B.notSynchronized
  clear B
  have hS : va_S (fun _ => False) s.heap s.heap [] := va_S.rf
  have hP : va_P D classes [(g 0, .inr (12, [.ref (g 1), .int 0, .int 0, .ref (g 2), .ref (g 3), .ref (g 4), .ref (g 5), .ref (g 6), .int 0, .int 0, .int 0, .int 0, .int 0, .int 0, .int 0, .ref (g 7), .int 0, .ref (g 8), .int 0, .ref (g 9), .ref (g 10), .int 0, .ref (g 11), .ref (g 12), .ref (g 13), .int 0, .int 0, .ref (g 14), .ref (g 15), .int 0, .int 0, .int 0, .ref (g 16), .long 0, .ref (g 17), .ref (g 18), .ref (g 19)])), (g 10, .inl (cs 0, 123, .inl (fun _ => 0)))] s.heap := hP
  have hK := hE.1
  have hl := lv_entry ([.ref (g 0), .int p0]) (n := 5) (Nat.le_of_ble_eq_true rfl)
  rw [lg_entry_eq]
  generalize (lg_sl ([.ref (g 0), .int p0]) ++ List.replicate (5 - (lg_sl ([.ref (g 0), .int p0])).length) Slot.unset).toArray = ls at hl ⊢
  have hl : lv_has ls 5 [(0, .ref (g 0)), (1, .int p0)] := hl
  obtain ⟨H, eH⟩ : ∃ z, z = s.heap := ⟨_, rfl⟩
  have hP : va_P D classes [(g 0, .inr (12, [.ref (g 1), .int 0, .int 0, .ref (g 2), .ref (g 3), .ref (g 4), .ref (g 5), .ref (g 6), .int 0, .int 0, .int 0, .int 0, .int 0, .int 0, .int 0, .ref (g 7), .int 0, .ref (g 8), .int 0, .ref (g 9), .ref (g 10), .int 0, .ref (g 11), .ref (g 12), .ref (g 13), .int 0, .int 0, .ref (g 14), .ref (g 15), .int 0, .int 0, .int 0, .ref (g 16), .long 0, .ref (g 17), .ref (g 18), .ref (g 19)])), (g 10, .inl (cs 0, 123, .inl (fun _ => 0)))] H := by rw [eH]; exact hP
  have hS : va_S (fun _ => False) s.heap H [] := by rw [eH]; exact hS
  rw [← eH]
  clear eH
  refine lv_aload_n hx hb dX12_forgers_0 rfl (lv_at hl 0 rfl) ?_
  refine va_calli (va_runV (As := []) (rest := []) ⟨hx, hb, hml, hown, hT⟩ (c_X12_isFair l D cs kK kV g) (cwV 0 hT (hz_gV q_249 q_250 q_251 q_252 q_253) rfl rfl rfl (by decide +kernel) ⟨(Nat.le_of_ble_eq_true rfl), (Nat.le_of_ble_eq_true rfl)⟩) ⟨hz_P.blind, va_recv hK hP (ci := 12) (q0 := 0) rfl rfl, hz_P.mk (hP.sub (ws' := [(g 0, .inr (12, [.ref (g 1), .int 0, .int 0, .ref (g 2), .ref (g 3), .ref (g 4), .ref (g 5), .ref (g 6), .int 0, .int 0, .int 0, .int 0, .int 0, .int 0, .int 0, .ref (g 7), .int 0, .ref (g 8), .int 0, .ref (g 9), .ref (g 10), .int 0, .ref (g 11), .ref (g 12), .ref (g 13), .int 0, .int 0, .ref (g 14), .ref (g 15), .int 0, .int 0, .int 0, .ref (g 16), .long 0, .ref (g 17), .ref (g 18), .ref (g 19)])), (g 10, .inl (cs 0, 123, .inl (fun _ => 0)))]) [0,1] rfl) hE hS⟩ rfl rfl hl.1 rfl (lv_room (Nat.le_of_ble_eq_true rfl)) dX12_forgers_1 ⟨(Nat.le_of_ble_eq_true rfl), (Nat.le_of_ble_eq_true rfl)⟩) hS (fun _ _ h => h.elim) (fun _ h => h.elim) (fun r_1 u t H1 locs ht hvm hw hB hz1 hk1 hS => ?_)
  have hP := hz_keep hP hk1
  clear hk1 hB hz1
  generalize H1 = H at hP hS ⊢
  subst hw
  refine lv_if_eq (tgt := 17) hx hb dX12_forgers_4 (by decide) (fun _ => ?_) (fun z => absurd (by decide) z)
  refine lv_iconst (v := -1) hx hb dX12_forgers_17 (by decide) ?_
  exact W.iret (v := -1) hx hb hr (fun t ht hW => ⟨⟨-1, (), rfl, rfl, trivial⟩, hS.F ht⟩) hS.2.2 dX12_forgers_18
theorem dX12_fairs_0 : decode cX12_fairs 0 = .ok (.aload_n 0, 1) := by decide +kernel
theorem dX12_fairs_1 : decode cX12_fairs 1 = .ok (.invokevirtual 329, 3) := by decide +kernel
theorem dX12_fairs_4 : decode cX12_fairs 4 = .ok (.ifCond .eq 46, 3) := by decide +kernel
theorem dX12_fairs_50 : decode cX12_fairs 50 = .ok (.iconst (-1), 1) := by decide +kernel
theorem dX12_fairs_51 : decode cX12_fairs 51 = .ok (.ireturn, 1) := by decide +kernel
set_option maxHeartbeats 4000000 in
set_option maxRecDepth 100000 in
theorem c_X12_fairs (l : Launch) (D : va_G) (cs : Nat → ClassId) (kK kV : Nat → Nat) (g : Nat → Nat) (p0 : Int32) (p1 : Int32) (p2 : Int32) (p3 : Int32) : Met l yX12_fairs (hz_w yX12_fairs cX12_fairs 9 (some .int)) ({ frames := 1, cells := 0, slots := 0, locals := 20 }) (va_Pc [.ref (g 0), .int p0, .int p1, .int p2, .int p3] (hz_P D cs kK kV [(g 0, .inr (12, [.ref (g 1), .int 0, .int 0, .ref (g 2), .ref (g 3), .ref (g 4), .ref (g 5), .ref (g 6), .int 0, .int 0, .int 0, .int 0, .int 0, .int 0, .int 0, .ref (g 7), .int 0, .ref (g 8), .int 0, .ref (g 9), .ref (g 10), .int 0, .ref (g 11), .ref (g 12), .ref (g 13), .int 0, .int 0, .ref (g 14), .ref (g 15), .int 0, .int 0, .int 0, .ref (g 16), .long 0, .ref (g 17), .ref (g 18), .ref (g 19)])), (g 10, .inl (cs 0, 123, .inl (fun _ => 0)))])) (va_Qi (fun (r : Int32) (_ : Unit) => r = -1) (fun _ t => True) (fun _ => False)) 0 0 (fun _ => False) := by
  refine Met.ofW (cc := cX12_fairs) (maxL := 9) (ret := (some .int)) (by decide) rfl ?_
  intro p e s m args below meth c s₁ B hml hv
  obtain ⟨rfl, hP, hE⟩ := hv
  have hx := B.exec
  have hb := B.bytes
  have hr := B.returns
  have hT : ∀ w ∈ TB, w.before _ s = true := fun w h => atoms_spec (ws := hz_w yX12_fairs cX12_fairs 9 (some .int)) B.pre w (List.mem_cons_of_mem _ h)
  have hown : s.vm.findClass RX12 = some m.cls := findClass_of_methodNamed B.named
  have hlocks := B.notSynchronized
  clear B
  have hS : va_S (fun _ => False) s.heap s.heap [] := va_S.rf
  have hP : va_P D classes [(g 0, .inr (12, [.ref (g 1), .int 0, .int 0, .ref (g 2), .ref (g 3), .ref (g 4), .ref (g 5), .ref (g 6), .int 0, .int 0, .int 0, .int 0, .int 0, .int 0, .int 0, .ref (g 7), .int 0, .ref (g 8), .int 0, .ref (g 9), .ref (g 10), .int 0, .ref (g 11), .ref (g 12), .ref (g 13), .int 0, .int 0, .ref (g 14), .ref (g 15), .int 0, .int 0, .int 0, .ref (g 16), .long 0, .ref (g 17), .ref (g 18), .ref (g 19)])), (g 10, .inl (cs 0, 123, .inl (fun _ => 0)))] s.heap := hP
  have hK := hE.1
  have hl := lv_entry ([.ref (g 0), .int p0, .int p1, .int p2, .int p3]) (n := 9) (Nat.le_of_ble_eq_true rfl)
  rw [lg_entry_eq]
  generalize (lg_sl ([.ref (g 0), .int p0, .int p1, .int p2, .int p3]) ++ List.replicate (9 - (lg_sl ([.ref (g 0), .int p0, .int p1, .int p2, .int p3])).length) Slot.unset).toArray = ls at hl ⊢
  have hl : lv_has ls 9 [(0, .ref (g 0)), (1, .int p0), (2, .int p1), (3, .int p2), (4, .int p3)] := hl
  obtain ⟨H, eH⟩ : ∃ z, z = s.heap := ⟨_, rfl⟩
  have hP : va_P D classes [(g 0, .inr (12, [.ref (g 1), .int 0, .int 0, .ref (g 2), .ref (g 3), .ref (g 4), .ref (g 5), .ref (g 6), .int 0, .int 0, .int 0, .int 0, .int 0, .int 0, .int 0, .ref (g 7), .int 0, .ref (g 8), .int 0, .ref (g 9), .ref (g 10), .int 0, .ref (g 11), .ref (g 12), .ref (g 13), .int 0, .int 0, .ref (g 14), .ref (g 15), .int 0, .int 0, .int 0, .ref (g 16), .long 0, .ref (g 17), .ref (g 18), .ref (g 19)])), (g 10, .inl (cs 0, 123, .inl (fun _ => 0)))] H := by rw [eH]; exact hP
  have hS : va_S (fun _ => False) s.heap H [] := by rw [eH]; exact hS
  rw [← eH]
  clear eH
  refine lv_aload_n hx hb dX12_fairs_0 rfl (lv_at hl 0 rfl) ?_
  refine va_calli (va_runV (As := []) (rest := []) ⟨hx, hb, hml, hown, hT⟩ (c_X12_isFair l D cs kK kV g) (cwV 0 hT (hz_gV q_249 q_250 q_251 q_252 q_253) rfl rfl rfl (by decide +kernel) ⟨(Nat.le_of_ble_eq_true rfl), (Nat.le_of_ble_eq_true rfl)⟩) ⟨hz_P.blind, va_recv hK hP (ci := 12) (q0 := 0) rfl rfl, hz_P.mk (hP.sub (ws' := [(g 0, .inr (12, [.ref (g 1), .int 0, .int 0, .ref (g 2), .ref (g 3), .ref (g 4), .ref (g 5), .ref (g 6), .int 0, .int 0, .int 0, .int 0, .int 0, .int 0, .int 0, .ref (g 7), .int 0, .ref (g 8), .int 0, .ref (g 9), .ref (g 10), .int 0, .ref (g 11), .ref (g 12), .ref (g 13), .int 0, .int 0, .ref (g 14), .ref (g 15), .int 0, .int 0, .int 0, .ref (g 16), .long 0, .ref (g 17), .ref (g 18), .ref (g 19)])), (g 10, .inl (cs 0, 123, .inl (fun _ => 0)))]) [0,1] rfl) hE hS⟩ rfl rfl hl.1 rfl (lv_room (Nat.le_of_ble_eq_true rfl)) dX12_fairs_1 ⟨(Nat.le_of_ble_eq_true rfl), (Nat.le_of_ble_eq_true rfl)⟩) hS (fun _ _ h => h.elim) (fun _ h => h.elim) (fun r_1 u t H1 locs ht hvm hw hB hz1 hk1 hS => ?_)
  have hP := hz_keep hP hk1
  clear hk1 hB hz1
  generalize H1 = H at hP hS ⊢
  subst hw
  refine lv_if_eq (tgt := 50) hx hb dX12_fairs_4 (by decide) (fun _ => ?_) (fun z => absurd (by decide) z)
  refine lv_iconst (v := -1) hx hb dX12_fairs_50 (by decide) ?_
  exact W.iret (v := -1) hx hb hr (fun t ht hW => ⟨⟨-1, (), rfl, rfl, trivial⟩, hS.F ht⟩) hS.2.2 dX12_fairs_51
theorem dX12_count_0 : decode cX12_count 0 = .ok (.iload_n 1, 1) := by decide +kernel
theorem dX12_count_1 : decode cX12_count 1 = .ok (.tableswitch 146 0 10 #[59, 59, 59, 66, 71, 78, 115, 123, 131, 136, 141], 59) := by decide +kernel
theorem dX12_count_60 : decode cX12_count 60 = .ok (.aload_n 0, 1) := by decide +kernel
theorem dX12_count_61 : decode cX12_count 61 = .ok (.getfield 39, 3) := by decide +kernel
theorem dX12_count_64 : decode cX12_count 64 = .ok (.iload_n 1, 1) := by decide +kernel
theorem dX12_count_65 : decode cX12_count 65 = .ok (.iaload, 1) := by decide +kernel
theorem dX12_count_66 : decode cX12_count 66 = .ok (.ireturn, 1) := by decide +kernel
theorem dX12_count_67 : decode cX12_count 67 = .ok (.aload_n 0, 1) := by decide +kernel
theorem dX12_count_68 : decode cX12_count 68 = .ok (.getfield 268, 3) := by decide +kernel
theorem dX12_count_71 : decode cX12_count 71 = .ok (.ireturn, 1) := by decide +kernel
theorem dX12_count_72 : decode cX12_count 72 = .ok (.aload_n 0, 1) := by decide +kernel
theorem dX12_count_73 : decode cX12_count 73 = .ok (.getfield 39, 3) := by decide +kernel
theorem dX12_count_76 : decode cX12_count 76 = .ok (.iconst 3, 1) := by decide +kernel
theorem dX12_count_77 : decode cX12_count 77 = .ok (.iaload, 1) := by decide +kernel
theorem dX12_count_78 : decode cX12_count 78 = .ok (.ireturn, 1) := by decide +kernel
theorem dX12_count_79 : decode cX12_count 79 = .ok (.aload_n 0, 1) := by decide +kernel
theorem dX12_count_80 : decode cX12_count 80 = .ok (.invokevirtual 329, 3) := by decide +kernel
theorem dX12_count_83 : decode cX12_count 83 = .ok (.ifCond .ne 7, 3) := by decide +kernel
theorem dX12_count_86 : decode cX12_count 86 = .ok (.iconst (-1), 1) := by decide +kernel
theorem dX12_count_87 : decode cX12_count 87 = .ok (.goto 28, 3) := by decide +kernel
theorem dX12_count_115 : decode cX12_count 115 = .ok (.ireturn, 1) := by decide +kernel
theorem dX12_count_116 : decode cX12_count 116 = .ok (.aload_n 0, 1) := by decide +kernel
theorem dX12_count_117 : decode cX12_count 117 = .ok (.invokevirtual 387, 3) := by decide +kernel
theorem dX12_count_120 : decode cX12_count 120 = .ok (.invokestatic 374, 3) := by decide +kernel
theorem dX12_count_123 : decode cX12_count 123 = .ok (.ireturn, 1) := by decide +kernel
theorem dX12_count_124 : decode cX12_count 124 = .ok (.aload_n 0, 1) := by decide +kernel
theorem dX12_count_125 : decode cX12_count 125 = .ok (.getfield 39, 3) := by decide +kernel
theorem dX12_count_128 : decode cX12_count 128 = .ok (.bipush 122, 2) := by decide +kernel
theorem dX12_count_130 : decode cX12_count 130 = .ok (.iaload, 1) := by decide +kernel
theorem dX12_count_131 : decode cX12_count 131 = .ok (.ireturn, 1) := by decide +kernel
theorem dX12_count_132 : decode cX12_count 132 = .ok (.aload_n 0, 1) := by decide +kernel
theorem dX12_count_133 : decode cX12_count 133 = .ok (.getfield 274, 3) := by decide +kernel
theorem dX12_count_136 : decode cX12_count 136 = .ok (.ireturn, 1) := by decide +kernel
theorem dX12_count_137 : decode cX12_count 137 = .ok (.aload_n 0, 1) := by decide +kernel
theorem dX12_count_138 : decode cX12_count 138 = .ok (.getfield 479, 3) := by decide +kernel
theorem dX12_count_141 : decode cX12_count 141 = .ok (.ireturn, 1) := by decide +kernel
theorem dX12_count_142 : decode cX12_count 142 = .ok (.aload_n 0, 1) := by decide +kernel
theorem dX12_count_143 : decode cX12_count 143 = .ok (.getfield 70, 3) := by decide +kernel
theorem dX12_count_146 : decode cX12_count 146 = .ok (.ireturn, 1) := by decide +kernel
theorem dX12_count_147 : decode cX12_count 147 = .ok (.iconst (-1), 1) := by decide +kernel
theorem dX12_count_148 : decode cX12_count 148 = .ok (.ireturn, 1) := by decide +kernel
set_option maxHeartbeats 4000000 in
set_option maxRecDepth 100000 in
theorem c_X12_count (l : Launch) (D : va_G) (cs : Nat → ClassId) (kK kV : Nat → Nat) (g : Nat → Nat) (p0 : Int32) : Met l yX12_count (hz_w yX12_count cX12_count 2 (some .int)) ({ frames := 1, cells := 0, slots := 0, locals := 22 }) (va_Pc [.ref (g 0), .int p0] (hz_P D cs kK kV [(g 0, .inr (12, [.ref (g 1), .int 0, .int 0, .ref (g 2), .ref (g 3), .ref (g 4), .ref (g 5), .ref (g 6), .int 0, .int 0, .int 0, .int 0, .int 0, .int 0, .int 0, .ref (g 7), .int 0, .ref (g 8), .int 0, .ref (g 9), .ref (g 10), .int 0, .ref (g 11), .ref (g 12), .ref (g 13), .int 0, .int 0, .ref (g 14), .ref (g 15), .int 0, .int 0, .int 0, .ref (g 16), .long 0, .ref (g 17), .ref (g 18), .ref (g 19)])), (g 10, .inl (cs 0, 123, .inl (fun _ => 0)))])) (va_Qi (fun (r : Int32) (_ : Unit) => r = hz_count p0) (fun _ t => True) (fun _ => False)) 0 0 (fun _ => False) := by
  refine Met.ofW (cc := cX12_count) (maxL := 2) (ret := (some .int)) (by decide) rfl ?_
  intro p e s m args below meth c s₁ B hml hv
  obtain ⟨rfl, hP, hE⟩ := hv
  have hx := B.exec
  have hb := B.bytes
  have hr := B.returns
  have hT : ∀ w ∈ TB, w.before _ s = true := fun w h => atoms_spec (ws := hz_w yX12_count cX12_count 2 (some .int)) B.pre w (List.mem_cons_of_mem _ h)
  have hown : s.vm.findClass RX12 = some m.cls := findClass_of_methodNamed B.named
  have hlocks := B.notSynchronized
  clear B
  have hS : va_S (fun _ => False) s.heap s.heap [] := va_S.rf
  have hP : va_P D classes [(g 0, .inr (12, [.ref (g 1), .int 0, .int 0, .ref (g 2), .ref (g 3), .ref (g 4), .ref (g 5), .ref (g 6), .int 0, .int 0, .int 0, .int 0, .int 0, .int 0, .int 0, .ref (g 7), .int 0, .ref (g 8), .int 0, .ref (g 9), .ref (g 10), .int 0, .ref (g 11), .ref (g 12), .ref (g 13), .int 0, .int 0, .ref (g 14), .ref (g 15), .int 0, .int 0, .int 0, .ref (g 16), .long 0, .ref (g 17), .ref (g 18), .ref (g 19)])), (g 10, .inl (cs 0, 123, .inl (fun _ => 0)))] s.heap := hP
  have hK := hE.1
  have hl := lv_entry ([.ref (g 0), .int p0]) (n := 2) (Nat.le_of_ble_eq_true rfl)
  rw [lg_entry_eq]
  generalize (lg_sl ([.ref (g 0), .int p0]) ++ List.replicate (2 - (lg_sl ([.ref (g 0), .int p0])).length) Slot.unset).toArray = ls at hl ⊢
  have hl : lv_has ls 2 [(0, .ref (g 0)), (1, .int p0)] := hl
  obtain ⟨H, eH⟩ : ∃ z, z = s.heap := ⟨_, rfl⟩
  have hP : va_P D classes [(g 0, .inr (12, [.ref (g 1), .int 0, .int 0, .ref (g 2), .ref (g 3), .ref (g 4), .ref (g 5), .ref (g 6), .int 0, .int 0, .int 0, .int 0, .int 0, .int 0, .int 0, .ref (g 7), .int 0, .ref (g 8), .int 0, .ref (g 9), .ref (g 10), .int 0, .ref (g 11), .ref (g 12), .ref (g 13), .int 0, .int 0, .ref (g 14), .ref (g 15), .int 0, .int 0, .int 0, .ref (g 16), .long 0, .ref (g 17), .ref (g 18), .ref (g 19)])), (g 10, .inl (cs 0, 123, .inl (fun _ => 0)))] H := by rw [eH]; exact hP
  have hS : va_S (fun _ => False) s.heap H [] := by rw [eH]; exact hS
  rw [← eH]
  clear eH
  refine lv_iload_n hx hb dX12_count_0 rfl (lv_at hl 1 rfl) ?_
  by_cases c_1 : p0.toInt < 0 ∨ 10 < p0.toInt
  · refine lv_tableOut (tgt := 147) hx hb dX12_count_1 c_1 (by decide) ?_
    refine lv_iconst (v := -1) hx hb dX12_count_147 (by decide) ?_
    exact W.iret (v := -1) hx hb hr (fun t ht hW => ⟨⟨-1, (), rfl, (hz_cout c_1), trivial⟩, hS.F ht⟩) hS.2.2 dX12_count_148
  · rcases hz_sw10 c_1 with rfl | rfl | rfl | rfl | rfl | rfl | rfl | rfl | rfl | rfl | rfl
    · refine lv_tableIn (off := 59) (tgt := 60) hx hb dX12_count_1 (by decide) (by decide) (by decide) (by decide) ?_
      refine lv_aload_n hx hb dX12_count_60 rfl (lv_at hl 0 rfl) ?_
      refine va_get (D := D) (ci := 12) (v := .ref (g 10)) (C := RX12) (T := TX12) (N := 37) hx hb hT i_X12 hown hK hP 0 rfl rfl 20 (by decide) (hT _ q_247) (fun _ h9 => h9) rfl dX12_count_61 ?_
      refine lv_iload_n hx hb dX12_count_64 rfl (lv_at hl 1 rfl) ?_
      refine va_iald hx hb hK hP 1 0 rfl rfl (by unfold vp_in; decide) dX12_count_65 ?_
      refine hz_ev 0 rfl ?_
      exact W.iret (v := 0) hx hb hr (fun t ht hW => ⟨⟨0, (), rfl, (by decide), trivial⟩, hS.F ht⟩) hS.2.2 dX12_count_66
    · refine lv_tableIn (off := 59) (tgt := 60) hx hb dX12_count_1 (by decide) (by decide) (by decide) (by decide) ?_
      refine lv_aload_n hx hb dX12_count_60 rfl (lv_at hl 0 rfl) ?_
      refine va_get (D := D) (ci := 12) (v := .ref (g 10)) (C := RX12) (T := TX12) (N := 37) hx hb hT i_X12 hown hK hP 0 rfl rfl 20 (by decide) (hT _ q_247) (fun _ h9 => h9) rfl dX12_count_61 ?_
      refine lv_iload_n hx hb dX12_count_64 rfl (lv_at hl 1 rfl) ?_
      refine va_iald hx hb hK hP 1 0 rfl rfl (by unfold vp_in; decide) dX12_count_65 ?_
      refine hz_ev 0 rfl ?_
      exact W.iret (v := 0) hx hb hr (fun t ht hW => ⟨⟨0, (), rfl, (by decide), trivial⟩, hS.F ht⟩) hS.2.2 dX12_count_66
    · refine lv_tableIn (off := 59) (tgt := 60) hx hb dX12_count_1 (by decide) (by decide) (by decide) (by decide) ?_
      refine lv_aload_n hx hb dX12_count_60 rfl (lv_at hl 0 rfl) ?_
      refine va_get (D := D) (ci := 12) (v := .ref (g 10)) (C := RX12) (T := TX12) (N := 37) hx hb hT i_X12 hown hK hP 0 rfl rfl 20 (by decide) (hT _ q_247) (fun _ h9 => h9) rfl dX12_count_61 ?_
      refine lv_iload_n hx hb dX12_count_64 rfl (lv_at hl 1 rfl) ?_
      refine va_iald hx hb hK hP 1 0 rfl rfl (by unfold vp_in; decide) dX12_count_65 ?_
      refine hz_ev 0 rfl ?_
      exact W.iret (v := 0) hx hb hr (fun t ht hW => ⟨⟨0, (), rfl, (by decide), trivial⟩, hS.F ht⟩) hS.2.2 dX12_count_66
    · refine lv_tableIn (off := 66) (tgt := 67) hx hb dX12_count_1 (by decide) (by decide) (by decide) (by decide) ?_
      refine lv_aload_n hx hb dX12_count_67 rfl (lv_at hl 0 rfl) ?_
      refine va_get (D := D) (ci := 12) (v := .int 0) (C := RX12) (T := TX12) (N := 37) hx hb hT i_X12 hown hK hP 0 rfl rfl 2 (by decide) (hT _ q_248) (fun _ h9 => h9) rfl dX12_count_68 ?_
      exact W.iret (v := 0) hx hb hr (fun t ht hW => ⟨⟨0, (), rfl, (by decide), trivial⟩, hS.F ht⟩) hS.2.2 dX12_count_71
    · refine lv_tableIn (off := 71) (tgt := 72) hx hb dX12_count_1 (by decide) (by decide) (by decide) (by decide) ?_
      refine lv_aload_n hx hb dX12_count_72 rfl (lv_at hl 0 rfl) ?_
      refine va_get (D := D) (ci := 12) (v := .ref (g 10)) (C := RX12) (T := TX12) (N := 37) hx hb hT i_X12 hown hK hP 0 rfl rfl 20 (by decide) (hT _ q_247) (fun _ h9 => h9) rfl dX12_count_73 ?_
      refine lv_iconst (v := 3) hx hb dX12_count_76 (by decide) ?_
      refine va_iald hx hb hK hP 1 0 rfl rfl (by unfold vp_in; decide) dX12_count_77 ?_
      refine hz_ev 0 rfl ?_
      exact W.iret (v := 0) hx hb hr (fun t ht hW => ⟨⟨0, (), rfl, (by decide), trivial⟩, hS.F ht⟩) hS.2.2 dX12_count_78
    · refine lv_tableIn (off := 78) (tgt := 79) hx hb dX12_count_1 (by decide) (by decide) (by decide) (by decide) ?_
      refine lv_aload_n hx hb dX12_count_79 rfl (lv_at hl 0 rfl) ?_
      refine va_calli (va_runV (As := []) (rest := []) ⟨hx, hb, hml, hown, hT⟩ (c_X12_isFair l D cs kK kV g) (cwV 0 hT (hz_gV q_249 q_250 q_251 q_252 q_253) rfl rfl rfl (by decide +kernel) ⟨(Nat.le_of_ble_eq_true rfl), (Nat.le_of_ble_eq_true rfl)⟩) ⟨hz_P.blind, va_recv hK hP (ci := 12) (q0 := 0) rfl rfl, hz_P.mk (hP.sub (ws' := [(g 0, .inr (12, [.ref (g 1), .int 0, .int 0, .ref (g 2), .ref (g 3), .ref (g 4), .ref (g 5), .ref (g 6), .int 0, .int 0, .int 0, .int 0, .int 0, .int 0, .int 0, .ref (g 7), .int 0, .ref (g 8), .int 0, .ref (g 9), .ref (g 10), .int 0, .ref (g 11), .ref (g 12), .ref (g 13), .int 0, .int 0, .ref (g 14), .ref (g 15), .int 0, .int 0, .int 0, .ref (g 16), .long 0, .ref (g 17), .ref (g 18), .ref (g 19)])), (g 10, .inl (cs 0, 123, .inl (fun _ => 0)))]) [0,1] rfl) hE hS⟩ rfl rfl hl.1 rfl (lv_room (Nat.le_of_ble_eq_true rfl)) dX12_count_80 ⟨(Nat.le_of_ble_eq_true rfl), (Nat.le_of_ble_eq_true rfl)⟩) hS (fun _ _ h => h.elim) (fun _ h => h.elim) (fun r_2 u t H1 locs ht hvm hw hB hz1 hk1 hS => ?_)
      have hP := hz_keep hP hk1
      clear hk1 hB hz1
      generalize H1 = H at hP hS ⊢
      subst hw
      refine lv_if_ne (tgt := 90) hx hb dX12_count_83 (by decide) (fun z => absurd (by decide) z) (fun _ => ?_)
      refine lv_iconst (v := -1) hx hb dX12_count_86 (by decide) ?_
      refine lv_goto (tgt := 115) hx hb dX12_count_87 (by decide) ?_
      exact W.iret (v := -1) hx hb hr (fun t ht hW => ⟨⟨-1, (), rfl, (by decide), trivial⟩, hS.F ht⟩) hS.2.2 dX12_count_115
    · refine lv_tableIn (off := 115) (tgt := 116) hx hb dX12_count_1 (by decide) (by decide) (by decide) (by decide) ?_
      refine lv_aload_n hx hb dX12_count_116 rfl (lv_at hl 0 rfl) ?_
      refine va_calli (va_runV (As := []) (rest := []) ⟨hx, hb, hml, hown, hT⟩ (c_X12_atStalls l D cs kK kV g) (cwV 0 hT (hz_gV q_275 q_276 q_277 q_252 q_278) rfl rfl rfl (by decide +kernel) ⟨(Nat.le_of_ble_eq_true rfl), (Nat.le_of_ble_eq_true rfl)⟩) ⟨hz_P.blind, va_recv hK hP (ci := 12) (q0 := 0) rfl rfl, hz_P.mk (hP.sub (ws' := [(g 0, .inr (12, [.ref (g 1), .int 0, .int 0, .ref (g 2), .ref (g 3), .ref (g 4), .ref (g 5), .ref (g 6), .int 0, .int 0, .int 0, .int 0, .int 0, .int 0, .int 0, .ref (g 7), .int 0, .ref (g 8), .int 0, .ref (g 9), .ref (g 10), .int 0, .ref (g 11), .ref (g 12), .ref (g 13), .int 0, .int 0, .ref (g 14), .ref (g 15), .int 0, .int 0, .int 0, .ref (g 16), .long 0, .ref (g 17), .ref (g 18), .ref (g 19)])), (g 10, .inl (cs 0, 123, .inl (fun _ => 0)))]) [0,1] rfl) hE hS⟩ rfl rfl hl.1 rfl (lv_room (Nat.le_of_ble_eq_true rfl)) dX12_count_117 ⟨(Nat.le_of_ble_eq_true rfl), (Nat.le_of_ble_eq_true rfl)⟩) hS (fun _ _ h => h.elim) (fun _ h => h.elim) (fun r_3 u t H1 locs ht hvm hw hB hz1 hk1 hS => ?_)
      have hP := hz_keep hP hk1
      clear hk1 hB hz1
      generalize H1 = H at hP hS ⊢
      subst hw
      refine va_calli (va_runS (As := [.int 0]) (rest := []) ⟨hx, hb, hml, hown, hT⟩ (c_X12_bits l D cs kK kV ) (va_cwS 1 hT (hz_gS q_279 q_280 q_252 q_281) rfl rfl rfl (by decide +kernel) ⟨(Nat.le_of_ble_eq_true rfl), (Nat.le_of_ble_eq_true rfl)⟩) ⟨hz_P.blind, hz_P.mk (hP.sub (ws' := []) [] rfl) hE hS⟩ rfl rfl hl.1 rfl (lv_room (Nat.le_of_ble_eq_true rfl)) dX12_count_120 ⟨(Nat.le_of_ble_eq_true rfl), (Nat.le_of_ble_eq_true rfl)⟩) hS (fun _ _ h => h.elim) (fun _ h => h.elim) (fun r_4 u t H1 locs ht hvm hw hB hz1 hk1 hS => ?_)
      have hP := hz_keep hP hk1
      clear hk1 hB hz1
      generalize H1 = H at hP hS ⊢
      subst hw
      exact W.iret (v := 0) hx hb hr (fun t ht hW => ⟨⟨0, (), rfl, (by decide), trivial⟩, hS.F ht⟩) hS.2.2 dX12_count_123
    · refine lv_tableIn (off := 123) (tgt := 124) hx hb dX12_count_1 (by decide) (by decide) (by decide) (by decide) ?_
      refine lv_aload_n hx hb dX12_count_124 rfl (lv_at hl 0 rfl) ?_
      refine va_get (D := D) (ci := 12) (v := .ref (g 10)) (C := RX12) (T := TX12) (N := 37) hx hb hT i_X12 hown hK hP 0 rfl rfl 20 (by decide) (hT _ q_247) (fun _ h9 => h9) rfl dX12_count_125 ?_
      refine lv_bipush (v := 122) hx hb dX12_count_128 (by decide) ?_
      refine va_iald hx hb hK hP 1 0 rfl rfl (by unfold vp_in; decide) dX12_count_130 ?_
      refine hz_ev 0 rfl ?_
      exact W.iret (v := 0) hx hb hr (fun t ht hW => ⟨⟨0, (), rfl, (by decide), trivial⟩, hS.F ht⟩) hS.2.2 dX12_count_131
    · refine lv_tableIn (off := 131) (tgt := 132) hx hb dX12_count_1 (by decide) (by decide) (by decide) (by decide) ?_
      refine lv_aload_n hx hb dX12_count_132 rfl (lv_at hl 0 rfl) ?_
      refine va_get (D := D) (ci := 12) (v := .int 0) (C := RX12) (T := TX12) (N := 37) hx hb hT i_X12 hown hK hP 0 rfl rfl 25 (by decide) (hT _ q_266) (fun _ h9 => h9) rfl dX12_count_133 ?_
      exact W.iret (v := 0) hx hb hr (fun t ht hW => ⟨⟨0, (), rfl, (by decide), trivial⟩, hS.F ht⟩) hS.2.2 dX12_count_136
    · refine lv_tableIn (off := 136) (tgt := 137) hx hb dX12_count_1 (by decide) (by decide) (by decide) (by decide) ?_
      refine lv_aload_n hx hb dX12_count_137 rfl (lv_at hl 0 rfl) ?_
      refine va_get (D := D) (ci := 12) (v := .int 0) (C := RX12) (T := TX12) (N := 37) hx hb hT i_X12 hown hK hP 0 rfl rfl 21 (by decide) (hT _ q_282) (fun _ h9 => h9) rfl dX12_count_138 ?_
      exact W.iret (v := 0) hx hb hr (fun t ht hW => ⟨⟨0, (), rfl, (by decide), trivial⟩, hS.F ht⟩) hS.2.2 dX12_count_141
    · refine lv_tableIn (off := 141) (tgt := 142) hx hb dX12_count_1 (by decide) (by decide) (by decide) (by decide) ?_
      refine lv_aload_n hx hb dX12_count_142 rfl (lv_at hl 0 rfl) ?_
      refine va_get (D := D) (ci := 12) (v := .int 0) (C := RX12) (T := TX12) (N := 37) hx hb hT i_X12 hown hK hP 0 rfl rfl 1 (by decide) (hT _ q_283) (fun _ h9 => h9) rfl dX12_count_143 ?_
      exact W.iret (v := 0) hx hb hr (fun t ht hW => ⟨⟨0, (), rfl, (by decide), trivial⟩, hS.F ht⟩) hS.2.2 dX12_count_146
theorem dX12_back_0 : decode cX12_back 0 = .ok (.iload_n 1, 1) := by decide +kernel
theorem dX12_back_1 : decode cX12_back 1 = .ok (.i2l, 1) := by decide +kernel
theorem dX12_back_2 : decode cX12_back 2 = .ok (.lconst 0, 1) := by decide +kernel
theorem dX12_back_3 : decode cX12_back 3 = .ok (.ldc2_w 504, 3) := by decide +kernel
theorem dX12_back_6 : decode cX12_back 6 = .ok (.invokestatic 109, 3) := by decide +kernel
theorem dX12_back_9 : decode cX12_back 9 = .ok (.ifCond .eq 12, 3) := by decide +kernel
theorem dX12_back_12 : decode cX12_back 12 = .ok (.aload_n 0, 1) := by decide +kernel
theorem dX12_back_13 : decode cX12_back 13 = .ok (.getfield 66, 3) := by decide +kernel
theorem dX12_back_16 : decode cX12_back 16 = .ok (.iload_n 1, 1) := by decide +kernel
theorem dX12_back_17 : decode cX12_back 17 = .ok (.baload, 1) := by decide +kernel
theorem dX12_back_18 : decode cX12_back 18 = .ok (.ifCond .ne 5, 3) := by decide +kernel
theorem dX12_back_21 : decode cX12_back 21 = .ok (.iconst (-1), 1) := by decide +kernel
theorem dX12_back_22 : decode cX12_back 22 = .ok (.ireturn, 1) := by decide +kernel
set_option maxHeartbeats 4000000 in
set_option maxRecDepth 100000 in
theorem c_X12_back (l : Launch) (D : va_G) (cs : Nat → ClassId) (kK kV : Nat → Nat) (g : Nat → Nat) (p0 : Int32) : Met l yX12_back (hz_w yX12_back cX12_back 3 (some .int)) ({ frames := 1, cells := 0, slots := 0, locals := 25 }) (va_Pc [.ref (g 0), .int p0] (hz_P D cs kK kV [(g 0, .inr (12, [.ref (g 1), .int 0, .int 0, .ref (g 2), .ref (g 3), .ref (g 4), .ref (g 5), .ref (g 6), .int 0, .int 0, .int 0, .int 0, .int 0, .int 0, .int 0, .ref (g 7), .int 0, .ref (g 8), .int 0, .ref (g 9), .ref (g 10), .int 0, .ref (g 11), .ref (g 12), .ref (g 13), .int 0, .int 0, .ref (g 14), .ref (g 15), .int 0, .int 0, .int 0, .ref (g 16), .long 0, .ref (g 17), .ref (g 18), .ref (g 19)])), (g 19, .inl (cs 2, 4, .inl (fun _ => 0)))])) (va_Qi (fun (r : Int32) (_ : Unit) => r = -1) (fun _ t => True) (fun _ => False)) 0 0 (fun _ => False) := by
  refine Met.ofW (cc := cX12_back) (maxL := 3) (ret := (some .int)) (by decide) rfl ?_
  intro p e s m args below meth c s₁ B hml hv
  obtain ⟨rfl, hP, hE⟩ := hv
  have hx := B.exec
  have hb := B.bytes
  have hr := B.returns
  have hT : ∀ w ∈ TB, w.before _ s = true := fun w h => atoms_spec (ws := hz_w yX12_back cX12_back 3 (some .int)) B.pre w (List.mem_cons_of_mem _ h)
  have hown : s.vm.findClass RX12 = some m.cls := findClass_of_methodNamed B.named
  have hlocks := B.notSynchronized
  clear B
  have hS : va_S (fun _ => False) s.heap s.heap [] := va_S.rf
  have hP : va_P D classes [(g 0, .inr (12, [.ref (g 1), .int 0, .int 0, .ref (g 2), .ref (g 3), .ref (g 4), .ref (g 5), .ref (g 6), .int 0, .int 0, .int 0, .int 0, .int 0, .int 0, .int 0, .ref (g 7), .int 0, .ref (g 8), .int 0, .ref (g 9), .ref (g 10), .int 0, .ref (g 11), .ref (g 12), .ref (g 13), .int 0, .int 0, .ref (g 14), .ref (g 15), .int 0, .int 0, .int 0, .ref (g 16), .long 0, .ref (g 17), .ref (g 18), .ref (g 19)])), (g 19, .inl (cs 2, 4, .inl (fun _ => 0)))] s.heap := hP
  have hK := hE.1
  have hl := lv_entry ([.ref (g 0), .int p0]) (n := 3) (Nat.le_of_ble_eq_true rfl)
  rw [lg_entry_eq]
  generalize (lg_sl ([.ref (g 0), .int p0]) ++ List.replicate (3 - (lg_sl ([.ref (g 0), .int p0])).length) Slot.unset).toArray = ls at hl ⊢
  have hl : lv_has ls 3 [(0, .ref (g 0)), (1, .int p0)] := hl
  obtain ⟨H, eH⟩ : ∃ z, z = s.heap := ⟨_, rfl⟩
  have hP : va_P D classes [(g 0, .inr (12, [.ref (g 1), .int 0, .int 0, .ref (g 2), .ref (g 3), .ref (g 4), .ref (g 5), .ref (g 6), .int 0, .int 0, .int 0, .int 0, .int 0, .int 0, .int 0, .ref (g 7), .int 0, .ref (g 8), .int 0, .ref (g 9), .ref (g 10), .int 0, .ref (g 11), .ref (g 12), .ref (g 13), .int 0, .int 0, .ref (g 14), .ref (g 15), .int 0, .int 0, .int 0, .ref (g 16), .long 0, .ref (g 17), .ref (g 18), .ref (g 19)])), (g 19, .inl (cs 2, 4, .inl (fun _ => 0)))] H := by rw [eH]; exact hP
  have hS : va_S (fun _ => False) s.heap H [] := by rw [eH]; exact hS
  rw [← eH]
  clear eH
  refine lv_iload_n hx hb dX12_back_0 rfl (lv_at hl 1 rfl) ?_
  refine lv_i2l (v := p0.toInt64) hx hb dX12_back_1 rfl ?_
  refine lv_lconst (v := 0) hx hb dX12_back_2 (by decide) ?_
  refine lv_ldc2 hx hb hown (hT _ q_284) dX12_back_3 ?_
  refine va_calli (va_runS (As := [.long p0.toInt64, .long 0, .long 3]) (rest := []) ⟨hx, hb, hml, hown, hT⟩ (c_X12_in l D cs kK kV p0) (va_cwS 3 hT (hz_gS q_285 q_286 q_252 q_287) rfl rfl rfl (by decide +kernel) ⟨(Nat.le_of_ble_eq_true rfl), (Nat.le_of_ble_eq_true rfl)⟩) ⟨hz_P.blind, hz_P.mk (hP.sub (ws' := []) [] rfl) hE hS⟩ rfl rfl hl.1 rfl (lv_room (Nat.le_of_ble_eq_true rfl)) dX12_back_6 ⟨(Nat.le_of_ble_eq_true rfl), (Nat.le_of_ble_eq_true rfl)⟩) hS (fun _ _ h => h.elim) (fun _ h => h.elim) (fun r_1 u t H1 locs ht hvm hw hB hz1 hk1 hS => ?_)
  have hP := hz_keep hP hk1
  clear hk1 hB hz1
  generalize H1 = H at hP hS ⊢
  subst hw
  refine lv_if_eq (tgt := 21) hx hb dX12_back_9 (by decide) (fun c_2 => ?_) (fun c_2 => ?_)
  · refine lv_iconst (v := -1) hx hb dX12_back_21 (by decide) ?_
    exact W.iret (v := -1) hx hb hr (fun t ht hW => ⟨⟨-1, (), rfl, rfl, trivial⟩, hS.F ht⟩) hS.2.2 dX12_back_22
  · refine lv_aload_n hx hb dX12_back_12 rfl (lv_at hl 0 rfl) ?_
    refine va_get (D := D) (ci := 12) (v := .ref (g 19)) (C := RX12) (T := TX12) (N := 37) hx hb hT i_X12 hown hK hP 0 rfl rfl 36 (by decide) (hT _ q_288) (fun _ h9 => h9) rfl dX12_back_13 ?_
    refine lv_iload_n hx hb dX12_back_16 rfl (lv_at hl 1 rfl) ?_
    refine va_zald hx hb hK hP 1 2 rfl rfl (hz_vinb c_2) dX12_back_17 ?_
    refine hz_ev 0 rfl ?_
    refine lv_if_ne (tgt := 23) hx hb dX12_back_18 (by decide) (fun z => absurd (by decide) z) (fun _ => ?_)
    refine lv_iconst (v := -1) hx hb dX12_back_21 (by decide) ?_
    exact W.iret (v := -1) hx hb hr (fun t ht hW => ⟨⟨-1, (), rfl, rfl, trivial⟩, hS.F ht⟩) hS.2.2 dX12_back_22
