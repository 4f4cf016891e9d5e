theorem dJ9_floorMod_7cf53_0 : decode cJ9_floorMod_7cf53 0 = .ok (.iload_n 0, 1) := by decide +kernel
theorem dJ9_floorMod_7cf53_1 : decode cJ9_floorMod_7cf53 1 = .ok (.iload_n 1, 1) := by decide +kernel
theorem dJ9_floorMod_7cf53_2 : decode cJ9_floorMod_7cf53 2 = .ok (.irem, 1) := by decide +kernel
theorem dJ9_floorMod_7cf53_3 : decode cJ9_floorMod_7cf53 3 = .ok (.istore_n 2, 1) := by decide +kernel
theorem dJ9_floorMod_7cf53_4 : decode cJ9_floorMod_7cf53 4 = .ok (.iload_n 0, 1) := by decide +kernel
theorem dJ9_floorMod_7cf53_5 : decode cJ9_floorMod_7cf53 5 = .ok (.iload_n 1, 1) := by decide +kernel
theorem dJ9_floorMod_7cf53_6 : decode cJ9_floorMod_7cf53 6 = .ok (.ixor, 1) := by decide +kernel
theorem dJ9_floorMod_7cf53_7 : decode cJ9_floorMod_7cf53 7 = .ok (.ifCond .ge 11, 3) := by decide +kernel
theorem dJ9_floorMod_7cf53_10 : decode cJ9_floorMod_7cf53 10 = .ok (.iload_n 2, 1) := by decide +kernel
theorem dJ9_floorMod_7cf53_11 : decode cJ9_floorMod_7cf53 11 = .ok (.ifCond .eq 7, 3) := by decide +kernel
theorem dJ9_floorMod_7cf53_14 : decode cJ9_floorMod_7cf53 14 = .ok (.iload_n 2, 1) := by decide +kernel
theorem dJ9_floorMod_7cf53_15 : decode cJ9_floorMod_7cf53 15 = .ok (.iload_n 1, 1) := by decide +kernel
theorem dJ9_floorMod_7cf53_16 : decode cJ9_floorMod_7cf53 16 = .ok (.iadd, 1) := by decide +kernel
theorem dJ9_floorMod_7cf53_17 : decode cJ9_floorMod_7cf53 17 = .ok (.ireturn, 1) := by decide +kernel
theorem dJ9_floorMod_7cf53_18 : decode cJ9_floorMod_7cf53 18 = .ok (.iload_n 2, 1) := by decide +kernel
theorem dJ9_floorMod_7cf53_19 : decode cJ9_floorMod_7cf53 19 = .ok (.ireturn, 1) := by decide +kernel
set_option maxHeartbeats 4000000 in
set_option maxRecDepth 100000 in
theorem c_J9_floorMod_7cf53_1 (l : Launch) (D : va_G) (cs : Nat → ClassId) (kK kV : Nat → Nat) (p0 : Int32) (p1 : Int32) (h_p1 : IV 1 8 p1) : Met l yJ9_floorMod_7cf53 (hz_w yJ9_floorMod_7cf53 cJ9_floorMod_7cf53 3 (some .int)) ({ frames := 0, cells := 0, slots := 0, locals := 0 }) (va_Pc [.int p0, .int p1] (hz_P D cs kK kV [])) (va_Qi (fun (r : Int32) (_ : Unit) => IV 0 7 r) (fun _ t => True) (fun _ => False)) 0 0 (fun _ => False) := by
  refine hz_ofW (cc := cJ9_floorMod_7cf53) (maxL := 3) (ret := (some .int)) (by decide +kernel) rfl ?_
  intro p e s m args below meth c s₁ B hml hv
  obtain ⟨rfl, hP, hE⟩ := hv
  have hx := B.exec
  have hb := B.bytes
  have hr := B.returns
  have hT : ∀ w ∈ TB, w.before _ s = true := fun w h => atoms_spec (ws := hz_w yJ9_floorMod_7cf53 cJ9_floorMod_7cf53 3 (some .int)) B.pre w (List.mem_cons_of_mem _ h)
  have hown : s.vm.findClass RJ9 = some m.cls := findClass_of_methodNamed B.named
  have hlocks := B.notSynchronized
  clear B
  have hS : va_S (fun _ => False) s.heap s.heap [] := va_S.rf
  have hK := hE.1
  have hl := lv_entry ([.int p0, .int p1]) (n := 3) (Nat.le_of_ble_eq_true rfl)
  rw [lg_entry_eq]
  generalize (lg_sl ([.int p0, .int p1]) ++ List.replicate (3 - (lg_sl ([.int p0, .int p1])).length) Slot.unset).toArray = ls at hl ⊢
  have hl : lv_has ls 3 [(0, .int p0), (1, .int p1)] := hl
  obtain ⟨H, eH⟩ : ∃ z, z = s.heap := ⟨_, rfl⟩
  have hP : va_P D classes [] H := by rw [eH]; exact hP
  have hS : va_S (fun _ => False) s.heap H [] := by rw [eH]; exact hS
  rw [← eH]
  clear eH
  obtain ⟨locs, el⟩ : ∃ z : List Loc, z = [] := ⟨_, rfl⟩
  rw [← el] at hS ⊢
  clear el
  by_cases c1 : p0 < 0
  · have h2 : IV (-2147483648) (-1) p0 := iv_lt1 c1 iv_top (iv_c (a := 0) (b := 0) (by decide)) (by decide)
    refine lv_iload_n hx hb dJ9_floorMod_7cf53_0 rfl (lv_at hl 0 rfl) ?_
    refine lv_iload_n hx hb dJ9_floorMod_7cf53_1 rfl (lv_at hl 1 rfl) ?_
    refine lv_irem hx hb dJ9_floorMod_7cf53_2 (iv_ne0 h_p1 (by decide)) ?_
    refine lv_topi (fun v3 ev3 => ?_)
    have hv3 : IV (-7) 0 v3 := iv_remN ev3 h2 h_p1 (by decide) (by decide)
    have tm := iv_tm ev3 h_p1 (by decide)
    refine lv_istore_n (lv' := [(2, .int v3), (0, .int p0), (1, .int p1)]) hx hb dJ9_floorMod_7cf53_3 rfl hl (by decide) rfl (fun ls hl => ?_)
    refine lv_iload_n hx hb dJ9_floorMod_7cf53_4 rfl (lv_at hl 1 rfl) ?_
    refine lv_iload_n hx hb dJ9_floorMod_7cf53_5 rfl (lv_at hl 2 rfl) ?_
    refine lv_ixor hx hb dJ9_floorMod_7cf53_6 ?_
    refine lv_topi (fun v4 ev4 => ?_)
    have hv4 : IV (-2147483648) (-1) v4 := iv_xneg ev4 h2 h_p1 (by decide) (by decide)
    refine lv_if_ge (tgt := 18) hx hb dJ9_floorMod_7cf53_7 (by decide) (fun z => absurd z (iv_leF (iv_c (a := 0) (b := 0) (by decide)) hv4 (by decide))) (fun _ => ?_)
    refine lv_iload_n hx hb dJ9_floorMod_7cf53_10 rfl (lv_at hl 0 rfl) ?_
    refine lv_if_eq (tgt := 18) hx hb dJ9_floorMod_7cf53_11 (by decide) (fun c5 => ?_) (fun c5 => ?_)
    · have h6 : IV 0 0 v3 := iv_eq1 c5 hv3 (iv_c (a := 0) (b := 0) (by decide)) (by decide) (by decide)
      refine lv_iload_n hx hb dJ9_floorMod_7cf53_18 rfl (lv_at hl 0 rfl) ?_
      exact W.iret (v := v3) hx hb hr (fun t ht hW => ⟨⟨v3, (), rfl, (iv_w h6 (by decide) (by decide)), trivial⟩, hS.F ht⟩) hS.2.2 dJ9_floorMod_7cf53_19
    · have h7 : IV (-7) (-1) v3 := iv_neR c5 hv3 (by decide)
      refine lv_iload_n hx hb dJ9_floorMod_7cf53_14 rfl (lv_at hl 0 rfl) ?_
      refine lv_iload_n hx hb dJ9_floorMod_7cf53_15 rfl (lv_at hl 2 rfl) ?_
      refine lv_iadd hx hb dJ9_floorMod_7cf53_16 ?_
      refine lv_topi (fun v8 ev8 => ?_)
      have hv8 : IV (-6) 7 v8 := iv_add ev8 h7 h_p1 (by decide) (by decide)
      have ag := iv_addG ev8 h7 h_p1 (by decide) (by decide)
      have iy := h_p1
      have iw := h7
      unfold IV at iy iw
      have h9 : IV 0 7 v8 := ⟨by omega, by omega⟩
      exact W.iret (v := v8) hx hb hr (fun t ht hW => ⟨⟨v8, (), rfl, h9, trivial⟩, hS.F ht⟩) hS.2.2 dJ9_floorMod_7cf53_17
  · have h10 : IV 0 2147483647 p0 := iv_le2 (Int32.not_lt.mp c1) (iv_c (a := 0) (b := 0) (by decide)) iv_top (by decide)
    refine lv_iload_n hx hb dJ9_floorMod_7cf53_0 rfl (lv_at hl 0 rfl) ?_
    refine lv_iload_n hx hb dJ9_floorMod_7cf53_1 rfl (lv_at hl 1 rfl) ?_
    refine lv_irem hx hb dJ9_floorMod_7cf53_2 (iv_ne0 h_p1 (by decide)) ?_
    refine lv_topi (fun v11 ev11 => ?_)
    have hv11 : IV 0 7 v11 := iv_remP ev11 h10 h_p1 (by decide) (by decide)
    have tm := iv_tm ev11 h_p1 (by decide)
    refine lv_istore_n (lv' := [(2, .int v11), (0, .int p0), (1, .int p1)]) hx hb dJ9_floorMod_7cf53_3 rfl hl (by decide) rfl (fun ls hl => ?_)
    refine lv_iload_n hx hb dJ9_floorMod_7cf53_4 rfl (lv_at hl 1 rfl) ?_
    refine lv_iload_n hx hb dJ9_floorMod_7cf53_5 rfl (lv_at hl 2 rfl) ?_
    refine lv_ixor hx hb dJ9_floorMod_7cf53_6 ?_
    refine lv_topi (fun v12 ev12 => ?_)
    have hv12 : IV 0 2147483647 v12 := iv_xpos ev12 h10 h_p1 (by decide) (by decide)
    refine lv_if_ge (tgt := 18) hx hb dJ9_floorMod_7cf53_7 (by decide) (fun _ => ?_) (fun z => absurd (iv_leT (iv_c (a := 0) (b := 0) (by decide)) hv12 (by decide)) z)
    refine lv_iload_n hx hb dJ9_floorMod_7cf53_18 rfl (lv_at hl 0 rfl) ?_
    exact W.iret (v := v11) hx hb hr (fun t ht hW => ⟨⟨v11, (), rfl, hv11, trivial⟩, hS.F ht⟩) hS.2.2 dJ9_floorMod_7cf53_19
theorem dJ9_abs_0f7a4_0 : decode cJ9_abs_0f7a4 0 = .ok (.iload_n 0, 1) := by decide +kernel
theorem dJ9_abs_0f7a4_1 : decode cJ9_abs_0f7a4 1 = .ok (.ifCond .ge 8, 3) := by decide +kernel
theorem dJ9_abs_0f7a4_4 : decode cJ9_abs_0f7a4 4 = .ok (.iload_n 0, 1) := by decide +kernel
theorem dJ9_abs_0f7a4_5 : decode cJ9_abs_0f7a4 5 = .ok (.ineg, 1) := by decide +kernel
theorem dJ9_abs_0f7a4_6 : decode cJ9_abs_0f7a4 6 = .ok (.goto 4, 3) := by decide +kernel
theorem dJ9_abs_0f7a4_9 : decode cJ9_abs_0f7a4 9 = .ok (.iload_n 0, 1) := by decide +kernel
theorem dJ9_abs_0f7a4_10 : decode cJ9_abs_0f7a4 10 = .ok (.ireturn, 1) := by decide +kernel
set_option maxHeartbeats 4000000 in
set_option maxRecDepth 100000 in
theorem c_J9_abs_0f7a4_2 (l : Launch) (D : va_G) (cs : Nat → ClassId) (kK kV : Nat → Nat) (p0 : Int32)  : Met l yJ9_abs_0f7a4 (hz_w yJ9_abs_0f7a4 cJ9_abs_0f7a4 1 (some .int)) ({ frames := 0, cells := 0, slots := 0, locals := 0 }) (va_Pc [.int p0] (hz_P D cs kK kV [])) (va_Qi (fun (r : Int32) (_ : Unit) => True) (fun _ t => True) (fun _ => False)) 0 0 (fun _ => False) := by
  refine hz_ofW (cc := cJ9_abs_0f7a4) (maxL := 1) (ret := (some .int)) (by decide +kernel) rfl ?_
  intro p e s m args below meth c s₁ B hml hv
  obtain ⟨rfl, hP, hE⟩ := hv
  have hx := B.exec
  have hb := B.bytes
  have hr := B.returns
  have hT : ∀ w ∈ TB, w.before _ s = true := fun w h => atoms_spec (ws := hz_w yJ9_abs_0f7a4 cJ9_abs_0f7a4 1 (some .int)) B.pre w (List.mem_cons_of_mem _ h)
  have hown : s.vm.findClass RJ9 = some m.cls := findClass_of_methodNamed B.named
  have hlocks := B.notSynchronized
  clear B
  have hS : va_S (fun _ => False) s.heap s.heap [] := va_S.rf
  have hK := hE.1
  have hl := lv_entry ([.int p0]) (n := 1) (Nat.le_of_ble_eq_true rfl)
  rw [lg_entry_eq]
  generalize (lg_sl ([.int p0]) ++ List.replicate (1 - (lg_sl ([.int p0])).length) Slot.unset).toArray = ls at hl ⊢
  have hl : lv_has ls 1 [(0, .int p0)] := hl
  obtain ⟨H, eH⟩ : ∃ z, z = s.heap := ⟨_, rfl⟩
  have hP : va_P D classes [] H := by rw [eH]; exact hP
  have hS : va_S (fun _ => False) s.heap H [] := by rw [eH]; exact hS
  rw [← eH]
  clear eH
  obtain ⟨locs, el⟩ : ∃ z : List Loc, z = [] := ⟨_, rfl⟩
  rw [← el] at hS ⊢
  clear el
  refine lv_iload_n hx hb dJ9_abs_0f7a4_0 rfl (lv_at hl 0 rfl) ?_
  refine lv_if_ge (tgt := 9) hx hb dJ9_abs_0f7a4_1 (by decide) (fun c1 => ?_) (fun c1 => ?_)
  · have h2 : IV 0 2147483647 p0 := iv_le2 c1 (iv_c (a := 0) (b := 0) (by decide)) iv_top (by decide)
    refine lv_iload_n hx hb dJ9_abs_0f7a4_9 rfl (lv_at hl 0 rfl) ?_
    exact W.iret (v := p0) hx hb hr (fun t ht hW => ⟨⟨p0, (), rfl, trivial, trivial⟩, hS.F ht⟩) hS.2.2 dJ9_abs_0f7a4_10
  · have h3 : IV (-2147483648) (-1) p0 := iv_lt1 (Int32.not_le.mp c1) iv_top (iv_c (a := 0) (b := 0) (by decide)) (by decide)
    refine lv_iload_n hx hb dJ9_abs_0f7a4_4 rfl (lv_at hl 0 rfl) ?_
    refine lv_ineg hx hb dJ9_abs_0f7a4_5 ?_
    refine lv_topi (fun v4 ev4 => ?_)
    refine lv_goto (tgt := 10) hx hb dJ9_abs_0f7a4_6 (by decide) ?_
    exact W.iret (v := v4) hx hb hr (fun t ht hW => ⟨⟨v4, (), rfl, trivial, trivial⟩, hS.F ht⟩) hS.2.2 dJ9_abs_0f7a4_10
theorem dJ9_min_7cf53_0 : decode cJ9_min_7cf53 0 = .ok (.iload_n 0, 1) := by decide +kernel
theorem dJ9_min_7cf53_1 : decode cJ9_min_7cf53 1 = .ok (.iload_n 1, 1) := by decide +kernel
theorem dJ9_min_7cf53_2 : decode cJ9_min_7cf53 2 = .ok (.if_icmp .gt 7, 3) := by decide +kernel
theorem dJ9_min_7cf53_5 : decode cJ9_min_7cf53 5 = .ok (.iload_n 0, 1) := by decide +kernel
theorem dJ9_min_7cf53_6 : decode cJ9_min_7cf53 6 = .ok (.goto 4, 3) := by decide +kernel
theorem dJ9_min_7cf53_9 : decode cJ9_min_7cf53 9 = .ok (.iload_n 1, 1) := by decide +kernel
theorem dJ9_min_7cf53_10 : decode cJ9_min_7cf53 10 = .ok (.ireturn, 1) := by decide +kernel
set_option maxHeartbeats 4000000 in
set_option maxRecDepth 100000 in
theorem c_J9_min_7cf53_3 (l : Launch) (D : va_G) (cs : Nat → ClassId) (kK kV : Nat → Nat) (p0 : Int32) (p1 : Int32)  : Met l yJ9_min_7cf53 (hz_w yJ9_min_7cf53 cJ9_min_7cf53 2 (some .int)) ({ frames := 0, cells := 0, slots := 0, locals := 0 }) (va_Pc [.int p0, .int p1] (hz_P D cs kK kV [])) (va_Qi (fun (r : Int32) (_ : Unit) => True) (fun _ t => True) (fun _ => False)) 0 0 (fun _ => False) := by
  refine hz_ofW (cc := cJ9_min_7cf53) (maxL := 2) (ret := (some .int)) (by decide +kernel) rfl ?_
  intro p e s m args below meth c s₁ B hml hv
  obtain ⟨rfl, hP, hE⟩ := hv
  have hx := B.exec
  have hb := B.bytes
  have hr := B.returns
  have hT : ∀ w ∈ TB, w.before _ s = true := fun w h => atoms_spec (ws := hz_w yJ9_min_7cf53 cJ9_min_7cf53 2 (some .int)) B.pre w (List.mem_cons_of_mem _ h)
  have hown : s.vm.findClass RJ9 = some m.cls := findClass_of_methodNamed B.named
  have hlocks := B.notSynchronized
  clear B
  have hS : va_S (fun _ => False) s.heap s.heap [] := va_S.rf
  have hK := hE.1
  have hl := lv_entry ([.int p0, .int p1]) (n := 2) (Nat.le_of_ble_eq_true rfl)
  rw [lg_entry_eq]
  generalize (lg_sl ([.int p0, .int p1]) ++ List.replicate (2 - (lg_sl ([.int p0, .int p1])).length) Slot.unset).toArray = ls at hl ⊢
  have hl : lv_has ls 2 [(0, .int p0), (1, .int p1)] := hl
  obtain ⟨H, eH⟩ : ∃ z, z = s.heap := ⟨_, rfl⟩
  have hP : va_P D classes [] H := by rw [eH]; exact hP
  have hS : va_S (fun _ => False) s.heap H [] := by rw [eH]; exact hS
  rw [← eH]
  clear eH
  obtain ⟨locs, el⟩ : ∃ z : List Loc, z = [] := ⟨_, rfl⟩
  rw [← el] at hS ⊢
  clear el
  refine lv_iload_n hx hb dJ9_min_7cf53_0 rfl (lv_at hl 0 rfl) ?_
  refine lv_iload_n hx hb dJ9_min_7cf53_1 rfl (lv_at hl 1 rfl) ?_
  refine lv_icmp_gt (tgt := 9) hx hb dJ9_min_7cf53_2 (by decide) (fun c1 => ?_) (fun c1 => ?_)
  · have h2 : IV (-2147483648) 2147483646 p1 := iv_lt1 c1 iv_top iv_top (by decide)
    have h3 : IV (-2147483647) 2147483647 p0 := iv_lt2 c1 iv_top iv_top (by decide)
    refine lv_iload_n hx hb dJ9_min_7cf53_9 rfl (lv_at hl 1 rfl) ?_
    exact W.iret (v := p1) hx hb hr (fun t ht hW => ⟨⟨p1, (), rfl, trivial, trivial⟩, hS.F ht⟩) hS.2.2 dJ9_min_7cf53_10
  · refine lv_iload_n hx hb dJ9_min_7cf53_5 rfl (lv_at hl 0 rfl) ?_
    refine lv_goto (tgt := 10) hx hb dJ9_min_7cf53_6 (by decide) ?_
    exact W.iret (v := p0) hx hb hr (fun t ht hW => ⟨⟨p0, (), rfl, trivial, trivial⟩, hS.F ht⟩) hS.2.2 dJ9_min_7cf53_10
theorem dJ9_max_7cf53_0 : decode cJ9_max_7cf53 0 = .ok (.iload_n 0, 1) := by decide +kernel
theorem dJ9_max_7cf53_1 : decode cJ9_max_7cf53 1 = .ok (.iload_n 1, 1) := by decide +kernel
theorem dJ9_max_7cf53_2 : decode cJ9_max_7cf53 2 = .ok (.if_icmp .lt 7, 3) := by decide +kernel
theorem dJ9_max_7cf53_5 : decode cJ9_max_7cf53 5 = .ok (.iload_n 0, 1) := by decide +kernel
theorem dJ9_max_7cf53_6 : decode cJ9_max_7cf53 6 = .ok (.goto 4, 3) := by decide +kernel
theorem dJ9_max_7cf53_9 : decode cJ9_max_7cf53 9 = .ok (.iload_n 1, 1) := by decide +kernel
theorem dJ9_max_7cf53_10 : decode cJ9_max_7cf53 10 = .ok (.ireturn, 1) := by decide +kernel
set_option maxHeartbeats 4000000 in
set_option maxRecDepth 100000 in
theorem c_J9_max_7cf53_4 (l : Launch) (D : va_G) (cs : Nat → ClassId) (kK kV : Nat → Nat) (p0 : Int32)  : Met l yJ9_max_7cf53 (hz_w yJ9_max_7cf53 cJ9_max_7cf53 2 (some .int)) ({ frames := 0, cells := 0, slots := 0, locals := 0 }) (va_Pc [.int p0, .int 0] (hz_P D cs kK kV [])) (va_Qi (fun (r : Int32) (_ : Unit) => (r = 0 ∧ IV (-2147483648) (-1) p0) ∨ (IV 0 2147483647 r ∧ IV 0 2147483647 p0)) (fun _ t => True) (fun _ => False)) 0 0 (fun _ => False) := by
  refine hz_ofW (cc := cJ9_max_7cf53) (maxL := 2) (ret := (some .int)) (by decide +kernel) rfl ?_
  intro p e s m args below meth c s₁ B hml hv
  obtain ⟨rfl, hP, hE⟩ := hv
  have hx := B.exec
  have hb := B.bytes
  have hr := B.returns
  have hT : ∀ w ∈ TB, w.before _ s = true := fun w h => atoms_spec (ws := hz_w yJ9_max_7cf53 cJ9_max_7cf53 2 (some .int)) B.pre w (List.mem_cons_of_mem _ h)
  have hown : s.vm.findClass RJ9 = some m.cls := findClass_of_methodNamed B.named
  have hlocks := B.notSynchronized
  clear B
  have hS : va_S (fun _ => False) s.heap s.heap [] := va_S.rf
  have hK := hE.1
  have hl := lv_entry ([.int p0, .int 0]) (n := 2) (Nat.le_of_ble_eq_true rfl)
  rw [lg_entry_eq]
  generalize (lg_sl ([.int p0, .int 0]) ++ List.replicate (2 - (lg_sl ([.int p0, .int 0])).length) Slot.unset).toArray = ls at hl ⊢
  have hl : lv_has ls 2 [(0, .int p0), (1, .int 0)] := hl
  obtain ⟨H, eH⟩ : ∃ z, z = s.heap := ⟨_, rfl⟩
  have hP : va_P D classes [] H := by rw [eH]; exact hP
  have hS : va_S (fun _ => False) s.heap H [] := by rw [eH]; exact hS
  rw [← eH]
  clear eH
  obtain ⟨locs, el⟩ : ∃ z : List Loc, z = [] := ⟨_, rfl⟩
  rw [← el] at hS ⊢
  clear el
  refine lv_iload_n hx hb dJ9_max_7cf53_0 rfl (lv_at hl 0 rfl) ?_
  refine lv_iload_n hx hb dJ9_max_7cf53_1 rfl (lv_at hl 1 rfl) ?_
  refine lv_icmp_lt (tgt := 9) hx hb dJ9_max_7cf53_2 (by decide) (fun c1 => ?_) (fun c1 => ?_)
  · have h2 : IV (-2147483648) (-1) p0 := iv_lt1 c1 iv_top (iv_c (a := 0) (b := 0) (by decide)) (by decide)
    refine lv_iload_n hx hb dJ9_max_7cf53_9 rfl (lv_at hl 1 rfl) ?_
    exact W.iret (v := 0) hx hb hr (fun t ht hW => ⟨⟨0, (), rfl, (Or.inl (⟨rfl, h2⟩)), trivial⟩, hS.F ht⟩) hS.2.2 dJ9_max_7cf53_10
  · have h3 : IV 0 2147483647 p0 := iv_le2 (Int32.not_lt.mp c1) (iv_c (a := 0) (b := 0) (by decide)) iv_top (by decide)
    refine lv_iload_n hx hb dJ9_max_7cf53_5 rfl (lv_at hl 0 rfl) ?_
    refine lv_goto (tgt := 10) hx hb dJ9_max_7cf53_6 (by decide) ?_
    exact W.iret (v := p0) hx hb hr (fun t ht hW => ⟨⟨p0, (), rfl, (Or.inr ((⟨h3, h3⟩))), trivial⟩, hS.F ht⟩) hS.2.2 dJ9_max_7cf53_10
theorem dJ7_fill_53178_0 : decode cJ7_fill_53178 0 = .ok (.iconst 0, 1) := by decide +kernel
theorem dJ7_fill_53178_1 : decode cJ7_fill_53178 1 = .ok (.istore_n 2, 1) := by decide +kernel
theorem dJ7_fill_53178_2 : decode cJ7_fill_53178 2 = .ok (.aload_n 0, 1) := by decide +kernel
theorem dJ7_fill_53178_3 : decode cJ7_fill_53178 3 = .ok (.arraylength, 1) := by decide +kernel
theorem dJ7_fill_53178_4 : decode cJ7_fill_53178 4 = .ok (.istore_n 3, 1) := by decide +kernel
theorem dJ7_fill_53178_5 : decode cJ7_fill_53178 5 = .ok (.iload_n 2, 1) := by decide +kernel
theorem dJ7_fill_53178_6 : decode cJ7_fill_53178 6 = .ok (.iload_n 3, 1) := by decide +kernel
theorem dJ7_fill_53178_7 : decode cJ7_fill_53178 7 = .ok (.if_icmp .ge 13, 3) := by decide +kernel
theorem dJ7_fill_53178_10 : decode cJ7_fill_53178 10 = .ok (.aload_n 0, 1) := by decide +kernel
theorem dJ7_fill_53178_11 : decode cJ7_fill_53178 11 = .ok (.iload_n 2, 1) := by decide +kernel
theorem dJ7_fill_53178_12 : decode cJ7_fill_53178 12 = .ok (.iload_n 1, 1) := by decide +kernel
theorem dJ7_fill_53178_13 : decode cJ7_fill_53178 13 = .ok (.iastore, 1) := by decide +kernel
theorem dJ7_fill_53178_14 : decode cJ7_fill_53178 14 = .ok (.iinc 2 1, 3) := by decide +kernel
theorem dJ7_fill_53178_17 : decode cJ7_fill_53178 17 = .ok (.goto (-12), 3) := by decide +kernel
theorem dJ7_fill_53178_20 : decode cJ7_fill_53178 20 = .ok (.return_, 1) := by decide +kernel
set_option maxHeartbeats 4000000 in
set_option maxRecDepth 100000 in
theorem c_J7_fill_53178_5 (l : Launch) (D : va_G) (cs : Nat → ClassId) (kK kV : Nat → Nat) (b0 : Nat) (b0_c : Nat → Int32)  (sz : Nat) : Met l yJ7_fill_53178 (hz_w yJ7_fill_53178 cJ7_fill_53178 4 none) ({ frames := 0, cells := 0, slots := 0, locals := 0 }) (va_Pc [.ref b0, .int 0] (hz_C D cs kK kV sz [(b0, .inl (cs 0, 8, .inl b0_c))])) (va_Qv (fun (_ : Unit) => True) (fun _ t => ∃ (o_b0_c : Nat → Int32), va_P D classes [(b0, .inl (cs 0, 8, .inl o_b0_c))] t.heap ∧ va_D (va_A [(b0, .inl (cs 0, 8, .inl b0_c))] sz) [(b0, .inl (cs 0, 8, .inl o_b0_c))]) (va_A [(b0, .inl (cs 0, 8, .inl b0_c))] sz)) 0 0 (va_A [(b0, .inl (cs 0, 8, .inl b0_c))] sz) := by
  refine hz_ofW (cc := cJ7_fill_53178) (maxL := 4) (ret := none) (by decide +kernel) rfl ?_
  intro p e s m args below meth c s₁ B hml hv
  obtain ⟨rfl, hsz, hP, hD0, hE⟩ := hv
  have hx := B.exec
  have hb := B.bytes
  have hr := B.returns
  have hT : ∀ w ∈ TB, w.before _ s = true := fun w h => atoms_spec (ws := hz_w yJ7_fill_53178 cJ7_fill_53178 4 none) B.pre w (List.mem_cons_of_mem _ h)
  have hown : s.vm.findClass RJ7 = some m.cls := findClass_of_methodNamed B.named
  have hlocks := B.notSynchronized
  clear B
  subst hsz
  have hD := hD0.self (sz := s.heap.size)
  generalize hAe : va_A [(b0, .inl (cs 0, 8, .inl b0_c))] s.heap.size = A at hD hE ⊢
  have hA : ∀ q : Nat, s.heap.size ≤ q → A q := fun q h => by rw [← hAe]; exact Or.inr h
  clear hAe hD0
  have hS : va_S A s.heap s.heap [] := va_S.rf
  have hK := hE.1
  have hl := lv_entry ([.ref b0, .int 0]) (n := 4) (Nat.le_of_ble_eq_true rfl)
  rw [lg_entry_eq]
  generalize (lg_sl ([.ref b0, .int 0]) ++ List.replicate (4 - (lg_sl ([.ref b0, .int 0])).length) Slot.unset).toArray = ls at hl ⊢
  have hl : lv_has ls 4 [(0, .ref b0), (1, .int 0)] := hl
  obtain ⟨H, eH⟩ : ∃ z, z = s.heap := ⟨_, rfl⟩
  have hP : va_P D classes [(b0, .inl (cs 0, 8, .inl b0_c))] H := by rw [eH]; exact hP
  have hS : va_S A s.heap H [] := by rw [eH]; exact hS
  rw [← eH]
  clear eH
  obtain ⟨locs, el⟩ : ∃ z : List Loc, z = [] := ⟨_, rfl⟩
  rw [← el] at hS ⊢
  clear el
  have K5 : ∀ (n : Nat) (k5_L_2 : Int32) (k5_C_b0 : Nat → Int32), (8 - k5_L_2.toInt + 1).toNat ≤ n → IV 0 8 k5_L_2 → ∀ (H : Heap) (locs : List Loc), va_P D classes [(b0, .inl (cs 0, 8, .inl k5_C_b0))] H → va_D A [(b0, .inl (cs 0, 8, .inl k5_C_b0))] → va_S A s.heap H locs → ∀ ls : Array Slot, lv_has ls 4 [(3, .int 8), (2, .int k5_L_2), (0, .ref b0), (1, .int 0)] → W p l e (headSpec (hz_w yJ7_fill_53178 cJ7_fill_53178 4 none) ({ frames := 0, cells := 0, slots := 0, locals := 0 })).room s m [.ref b0, .int 0].toArray below meth c H locs 0 0 (MQ below (va_Qv (fun (_ : Unit) => True) (fun _ t => ∃ (o_b0_c : Nat → Int32), va_P D classes [(b0, .inl (cs 0, 8, .inl o_b0_c))] t.heap ∧ va_D A [(b0, .inl (cs 0, 8, .inl o_b0_c))]) A) [.ref b0, .int 0].toArray s 0 0 A) (F0 m 5 ls []) := by
    intro n
    induction n with
    | zero =>
      intro k5_L_2 k5_C_b0 hn q5_0 H locs hP hD hS ls hl
      exact absurd hn (by unfold IV at q5_0; omega)
    | succ n ih5 =>
      intro k5_L_2 k5_C_b0 hn q5_0 H locs hP hD hS ls hl
      refine lv_iload_n hx hb dJ7_fill_53178_5 rfl (lv_at hl 1 rfl) ?_
      refine lv_iload_n hx hb dJ7_fill_53178_6 rfl (lv_at hl 0 rfl) ?_
      refine lv_icmp_ge (tgt := 20) hx hb dJ7_fill_53178_7 (by decide) (fun c1 => ?_) (fun c1 => ?_)
      · have h2 : IV 8 8 k5_L_2 := iv_le2 c1 (iv_c (a := 8) (b := 8) (by decide)) q5_0 (by decide)
        refine W.widen (k := 0) (n := 0) (Nat.le_of_ble_eq_true rfl) (Nat.le_of_ble_eq_true rfl) ?_
        exact W.vret hx hb hr (fun t ht hW => ⟨⟨(), rfl, trivial, k5_C_b0, by rw [ht]; exact hP.sub [0] rfl, hD.sub [0] (by decide) rfl⟩, hS.F ht⟩) hS.2.2 dJ7_fill_53178_20
      · have h3 : IV 0 7 k5_L_2 := iv_lt1 (Int32.not_le.mp c1) q5_0 (iv_c (a := 8) (b := 8) (by decide)) (by decide)
        refine lv_aload_n hx hb dJ7_fill_53178_10 rfl (lv_at hl 2 rfl) ?_
        refine lv_iload_n hx hb dJ7_fill_53178_11 rfl (lv_at hl 1 rfl) ?_
        refine lv_iload_n hx hb dJ7_fill_53178_12 rfl (lv_at hl 3 rfl) ?_
        refine va_iast hx hb hK hP hD hS 0 0 rfl rfl (iv_v h3 (by decide) (by decide)) dJ7_fill_53178_13 (fun H locs hP hD hS => ?_)
        have hP : va_P D classes [(b0, .inl (cs 0, 8, .inl (upd k5_C_b0 (Int32.toNatClampNeg k5_L_2) (0 : Int32))))] H := hP
        have hD : va_D A [(b0, .inl (cs 0, 8, .inl (upd k5_C_b0 (Int32.toNatClampNeg k5_L_2) (0 : Int32))))] := hD
        generalize upd k5_C_b0 (Int32.toNatClampNeg k5_L_2) (0 : Int32) = f4 at hP hD
        obtain ⟨v5, ev5⟩ : ∃ z : Int32, z = k5_L_2 + 1 := ⟨_, rfl⟩
        have hv5 : IV 1 8 v5 := iv_add ev5 h3 (iv_c (a := 1) (b := 1) (by decide)) (by decide) (by decide)
        have dv5 : v5.toInt = k5_L_2.toInt + 1 := iv_addE ev5 h3 (iv_c (a := 1) (b := 1) (by decide)) (by decide) (by decide) (by decide)
        refine lv_iinc (v := v5) (lv' := [(2, .int v5), (3, .int 8), (0, .ref b0), (1, .int 0)]) hx hb dJ7_fill_53178_14 hl (k := 1) rfl (by rw [ev5]; rfl) (by decide) rfl (fun ls hl => ?_)
        refine lv_goto (tgt := 5) hx hb dJ7_fill_53178_17 (by decide) ?_
        exact ih5 v5 f4 (by have h9 := h3; unfold IV at h9; have := dv5; omega) (iv_w hv5 (by decide) (by decide)) H locs (hP.sub (ws' := [(b0, .inl (cs 0, 8, .inl f4))]) [0] rfl) (hD.sub (ws' := [(b0, .inl (cs 0, 8, .inl f4))]) [0] (by decide) rfl) hS ls (lv_sub hl [1, 0, 2, 3] rfl)
  refine lv_iconst (v := 0) hx hb dJ7_fill_53178_0 (by decide) ?_
  refine lv_istore_n (lv' := [(2, .int 0), (0, .ref b0), (1, .int 0)]) hx hb dJ7_fill_53178_1 rfl hl (by decide) rfl (fun ls hl => ?_)
  refine lv_aload_n hx hb dJ7_fill_53178_2 rfl (lv_at hl 1 rfl) ?_
  refine va_alen (v := 8) hx hb hK hP 0 0 rfl rfl rfl dJ7_fill_53178_3 ?_
  refine lv_istore_n (lv' := [(3, .int 8), (2, .int 0), (0, .ref b0), (1, .int 0)]) hx hb dJ7_fill_53178_4 rfl hl (by decide) rfl (fun ls hl => ?_)
  exact K5 _ 0 b0_c (Nat.le_refl _) (iv_c (by decide)) H locs (hP.sub (ws' := [(b0, .inl (cs 0, 8, .inl b0_c))]) [0] rfl) (hD.sub (ws' := [(b0, .inl (cs 0, 8, .inl b0_c))]) [0] (by decide) rfl) hS ls (lv_sub hl [0, 1, 2, 3] rfl)
theorem dJ6_bitCount_0f7a4_0 : decode cJ6_bitCount_0f7a4 0 = .ok (.iload_n 0, 1) := by decide +kernel
theorem dJ6_bitCount_0f7a4_1 : decode cJ6_bitCount_0f7a4 1 = .ok (.iload_n 0, 1) := by decide +kernel
theorem dJ6_bitCount_0f7a4_2 : decode cJ6_bitCount_0f7a4 2 = .ok (.iconst 1, 1) := by decide +kernel
theorem dJ6_bitCount_0f7a4_3 : decode cJ6_bitCount_0f7a4 3 = .ok (.iushr, 1) := by decide +kernel
theorem dJ6_bitCount_0f7a4_4 : decode cJ6_bitCount_0f7a4 4 = .ok (.ldc_w 265, 3) := by decide +kernel
theorem dJ6_bitCount_0f7a4_7 : decode cJ6_bitCount_0f7a4 7 = .ok (.iand, 1) := by decide +kernel
theorem dJ6_bitCount_0f7a4_8 : decode cJ6_bitCount_0f7a4 8 = .ok (.isub, 1) := by decide +kernel
theorem dJ6_bitCount_0f7a4_9 : decode cJ6_bitCount_0f7a4 9 = .ok (.istore_n 0, 1) := by decide +kernel
theorem dJ6_bitCount_0f7a4_10 : decode cJ6_bitCount_0f7a4 10 = .ok (.iload_n 0, 1) := by decide +kernel
theorem dJ6_bitCount_0f7a4_11 : decode cJ6_bitCount_0f7a4 11 = .ok (.ldc_w 266, 3) := by decide +kernel
theorem dJ6_bitCount_0f7a4_14 : decode cJ6_bitCount_0f7a4 14 = .ok (.iand, 1) := by decide +kernel
theorem dJ6_bitCount_0f7a4_15 : decode cJ6_bitCount_0f7a4 15 = .ok (.iload_n 0, 1) := by decide +kernel
theorem dJ6_bitCount_0f7a4_16 : decode cJ6_bitCount_0f7a4 16 = .ok (.iconst 2, 1) := by decide +kernel
theorem dJ6_bitCount_0f7a4_17 : decode cJ6_bitCount_0f7a4 17 = .ok (.iushr, 1) := by decide +kernel
theorem dJ6_bitCount_0f7a4_18 : decode cJ6_bitCount_0f7a4 18 = .ok (.ldc_w 266, 3) := by decide +kernel
theorem dJ6_bitCount_0f7a4_21 : decode cJ6_bitCount_0f7a4 21 = .ok (.iand, 1) := by decide +kernel
theorem dJ6_bitCount_0f7a4_22 : decode cJ6_bitCount_0f7a4 22 = .ok (.iadd, 1) := by decide +kernel
theorem dJ6_bitCount_0f7a4_23 : decode cJ6_bitCount_0f7a4 23 = .ok (.istore_n 0, 1) := by decide +kernel
theorem dJ6_bitCount_0f7a4_24 : decode cJ6_bitCount_0f7a4 24 = .ok (.iload_n 0, 1) := by decide +kernel
theorem dJ6_bitCount_0f7a4_25 : decode cJ6_bitCount_0f7a4 25 = .ok (.iload_n 0, 1) := by decide +kernel
theorem dJ6_bitCount_0f7a4_26 : decode cJ6_bitCount_0f7a4 26 = .ok (.iconst 4, 1) := by decide +kernel
theorem dJ6_bitCount_0f7a4_27 : decode cJ6_bitCount_0f7a4 27 = .ok (.iushr, 1) := by decide +kernel
theorem dJ6_bitCount_0f7a4_28 : decode cJ6_bitCount_0f7a4 28 = .ok (.iadd, 1) := by decide +kernel
theorem dJ6_bitCount_0f7a4_29 : decode cJ6_bitCount_0f7a4 29 = .ok (.ldc_w 267, 3) := by decide +kernel
theorem dJ6_bitCount_0f7a4_32 : decode cJ6_bitCount_0f7a4 32 = .ok (.iand, 1) := by decide +kernel
theorem dJ6_bitCount_0f7a4_33 : decode cJ6_bitCount_0f7a4 33 = .ok (.istore_n 0, 1) := by decide +kernel
theorem dJ6_bitCount_0f7a4_34 : decode cJ6_bitCount_0f7a4 34 = .ok (.iload_n 0, 1) := by decide +kernel
theorem dJ6_bitCount_0f7a4_35 : decode cJ6_bitCount_0f7a4 35 = .ok (.iload_n 0, 1) := by decide +kernel
theorem dJ6_bitCount_0f7a4_36 : decode cJ6_bitCount_0f7a4 36 = .ok (.bipush 8, 2) := by decide +kernel
theorem dJ6_bitCount_0f7a4_38 : decode cJ6_bitCount_0f7a4 38 = .ok (.iushr, 1) := by decide +kernel
theorem dJ6_bitCount_0f7a4_39 : decode cJ6_bitCount_0f7a4 39 = .ok (.iadd, 1) := by decide +kernel
theorem dJ6_bitCount_0f7a4_40 : decode cJ6_bitCount_0f7a4 40 = .ok (.istore_n 0, 1) := by decide +kernel
theorem dJ6_bitCount_0f7a4_41 : decode cJ6_bitCount_0f7a4 41 = .ok (.iload_n 0, 1) := by decide +kernel
theorem dJ6_bitCount_0f7a4_42 : decode cJ6_bitCount_0f7a4 42 = .ok (.iload_n 0, 1) := by decide +kernel
theorem dJ6_bitCount_0f7a4_43 : decode cJ6_bitCount_0f7a4 43 = .ok (.bipush 16, 2) := by decide +kernel
theorem dJ6_bitCount_0f7a4_45 : decode cJ6_bitCount_0f7a4 45 = .ok (.iushr, 1) := by decide +kernel
theorem dJ6_bitCount_0f7a4_46 : decode cJ6_bitCount_0f7a4 46 = .ok (.iadd, 1) := by decide +kernel
theorem dJ6_bitCount_0f7a4_47 : decode cJ6_bitCount_0f7a4 47 = .ok (.istore_n 0, 1) := by decide +kernel
theorem dJ6_bitCount_0f7a4_48 : decode cJ6_bitCount_0f7a4 48 = .ok (.iload_n 0, 1) := by decide +kernel
theorem dJ6_bitCount_0f7a4_49 : decode cJ6_bitCount_0f7a4 49 = .ok (.bipush 63, 2) := by decide +kernel
theorem dJ6_bitCount_0f7a4_51 : decode cJ6_bitCount_0f7a4 51 = .ok (.iand, 1) := by decide +kernel
theorem dJ6_bitCount_0f7a4_52 : decode cJ6_bitCount_0f7a4 52 = .ok (.ireturn, 1) := by decide +kernel
set_option maxHeartbeats 4000000 in
set_option maxRecDepth 100000 in
theorem c_J6_bitCount_0f7a4_6 (l : Launch) (D : va_G) (cs : Nat → ClassId) (kK kV : Nat → Nat) (p0 : Int32)  : Met l yJ6_bitCount_0f7a4 (hz_w yJ6_bitCount_0f7a4 cJ6_bitCount_0f7a4 1 (some .int)) ({ frames := 0, cells := 0, slots := 0, locals := 0 }) (va_Pc [.int p0] (hz_P D cs kK kV [])) (va_Qi (fun (r : Int32) (_ : Unit) => r = bcF p0) (fun _ t => True) (fun _ => False)) 0 0 (fun _ => False) := by
  refine hz_ofW (cc := cJ6_bitCount_0f7a4) (maxL := 1) (ret := (some .int)) (by decide +kernel) rfl ?_
  intro p e s m args below meth c s₁ B hml hv
  obtain ⟨rfl, hP, hE⟩ := hv
  have hx := B.exec
  have hb := B.bytes
  have hr := B.returns
  have hT : ∀ w ∈ TB, w.before _ s = true := fun w h => atoms_spec (ws := hz_w yJ6_bitCount_0f7a4 cJ6_bitCount_0f7a4 1 (some .int)) B.pre w (List.mem_cons_of_mem _ h)
  have hown : s.vm.findClass RJ6 = some m.cls := findClass_of_methodNamed B.named
  have hlocks := B.notSynchronized
  clear B
  have hS : va_S (fun _ => False) s.heap s.heap [] := va_S.rf
  have hK := hE.1
  have hl := lv_entry ([.int p0]) (n := 1) (Nat.le_of_ble_eq_true rfl)
  rw [lg_entry_eq]
  generalize (lg_sl ([.int p0]) ++ List.replicate (1 - (lg_sl ([.int p0])).length) Slot.unset).toArray = ls at hl ⊢
  have hl : lv_has ls 1 [(0, .int p0)] := hl
  obtain ⟨H, eH⟩ : ∃ z, z = s.heap := ⟨_, rfl⟩
  have hP : va_P D classes [] H := by rw [eH]; exact hP
  have hS : va_S (fun _ => False) s.heap H [] := by rw [eH]; exact hS
  rw [← eH]
  clear eH
  obtain ⟨locs, el⟩ : ∃ z : List Loc, z = [] := ⟨_, rfl⟩
  rw [← el] at hS ⊢
  clear el
  refine lv_iload_n hx hb dJ6_bitCount_0f7a4_0 rfl (lv_at hl 0 rfl) ?_
  refine lv_iload_n hx hb dJ6_bitCount_0f7a4_1 rfl (lv_at hl 0 rfl) ?_
  refine lv_iconst (v := 1) hx hb dJ6_bitCount_0f7a4_2 (by decide) ?_
  obtain ⟨v1, ev1⟩ : ∃ z : Int32, (Int32.toUInt32 p0 >>> (Int32.toUInt32 (1) &&& Int32.toUInt32 31)).toInt32 = z := ⟨_, rfl⟩
  refine lv_iushr hx hb dJ6_bitCount_0f7a4_3 ev1 ?_
  refine lv_ldcw hx hb hown (hT _ q_1432) dJ6_bitCount_0f7a4_4 ?_
  refine lv_iand hx hb dJ6_bitCount_0f7a4_7 ?_
  refine lv_topi (fun v2 ev2 => ?_)
  have hv2 : IV 0 1431655765 v2 := iv_and2 ev2 (iv_c (a := 1431655765) (b := 1431655765) (by decide))
  refine lv_isub hx hb dJ6_bitCount_0f7a4_8 ?_
  refine lv_topi (fun v3 ev3 => ?_)
  refine lv_istore_n (lv' := [(0, .int v3)]) hx hb dJ6_bitCount_0f7a4_9 rfl hl (by decide) rfl (fun ls hl => ?_)
  refine lv_iload_n hx hb dJ6_bitCount_0f7a4_10 rfl (lv_at hl 0 rfl) ?_
  refine lv_ldcw hx hb hown (hT _ q_1433) dJ6_bitCount_0f7a4_11 ?_
  refine lv_iand hx hb dJ6_bitCount_0f7a4_14 ?_
  refine lv_topi (fun v4 ev4 => ?_)
  have hv4 : IV 0 858993459 v4 := iv_and2 ev4 (iv_c (a := 858993459) (b := 858993459) (by decide))
  refine lv_iload_n hx hb dJ6_bitCount_0f7a4_15 rfl (lv_at hl 0 rfl) ?_
  refine lv_iconst (v := 2) hx hb dJ6_bitCount_0f7a4_16 (by decide) ?_
  obtain ⟨v5, ev5⟩ : ∃ z : Int32, (Int32.toUInt32 v3 >>> (Int32.toUInt32 (2) &&& Int32.toUInt32 31)).toInt32 = z := ⟨_, rfl⟩
  refine lv_iushr hx hb dJ6_bitCount_0f7a4_17 ev5 ?_
  refine lv_ldcw hx hb hown (hT _ q_1433) dJ6_bitCount_0f7a4_18 ?_
  refine lv_iand hx hb dJ6_bitCount_0f7a4_21 ?_
  refine lv_topi (fun v6 ev6 => ?_)
  have hv6 : IV 0 858993459 v6 := iv_and2 ev6 (iv_c (a := 858993459) (b := 858993459) (by decide))
  refine lv_iadd hx hb dJ6_bitCount_0f7a4_22 ?_
  refine lv_topi (fun v7 ev7 => ?_)
  have hv7 : IV 0 1717986918 v7 := iv_add ev7 hv4 hv6 (by decide) (by decide)
  refine lv_istore_n (lv' := [(0, .int v7)]) hx hb dJ6_bitCount_0f7a4_23 rfl hl (by decide) rfl (fun ls hl => ?_)
  refine lv_iload_n hx hb dJ6_bitCount_0f7a4_24 rfl (lv_at hl 0 rfl) ?_
  refine lv_iload_n hx hb dJ6_bitCount_0f7a4_25 rfl (lv_at hl 0 rfl) ?_
  refine lv_iconst (v := 4) hx hb dJ6_bitCount_0f7a4_26 (by decide) ?_
  obtain ⟨v8, ev8⟩ : ∃ z : Int32, (Int32.toUInt32 v7 >>> (Int32.toUInt32 (4) &&& Int32.toUInt32 31)).toInt32 = z := ⟨_, rfl⟩
  refine lv_iushr hx hb dJ6_bitCount_0f7a4_27 ev8 ?_
  refine lv_iadd hx hb dJ6_bitCount_0f7a4_28 ?_
  refine lv_topi (fun v9 ev9 => ?_)
  refine lv_ldcw hx hb hown (hT _ q_1434) dJ6_bitCount_0f7a4_29 ?_
  refine lv_iand hx hb dJ6_bitCount_0f7a4_32 ?_
  refine lv_topi (fun v10 ev10 => ?_)
  have hv10 : IV 0 252645135 v10 := iv_and2 ev10 (iv_c (a := 252645135) (b := 252645135) (by decide))
  refine lv_istore_n (lv' := [(0, .int v10)]) hx hb dJ6_bitCount_0f7a4_33 rfl hl (by decide) rfl (fun ls hl => ?_)
  refine lv_iload_n hx hb dJ6_bitCount_0f7a4_34 rfl (lv_at hl 0 rfl) ?_
  refine lv_iload_n hx hb dJ6_bitCount_0f7a4_35 rfl (lv_at hl 0 rfl) ?_
  refine lv_bipush (v := 8) hx hb dJ6_bitCount_0f7a4_36 (by decide) ?_
  obtain ⟨v11, ev11⟩ : ∃ z : Int32, (Int32.toUInt32 v10 >>> (Int32.toUInt32 (8) &&& Int32.toUInt32 31)).toInt32 = z := ⟨_, rfl⟩
  refine lv_iushr hx hb dJ6_bitCount_0f7a4_38 ev11 ?_
  refine lv_iadd hx hb dJ6_bitCount_0f7a4_39 ?_
  refine lv_topi (fun v12 ev12 => ?_)
  refine lv_istore_n (lv' := [(0, .int v12)]) hx hb dJ6_bitCount_0f7a4_40 rfl hl (by decide) rfl (fun ls hl => ?_)
  refine lv_iload_n hx hb dJ6_bitCount_0f7a4_41 rfl (lv_at hl 0 rfl) ?_
  refine lv_iload_n hx hb dJ6_bitCount_0f7a4_42 rfl (lv_at hl 0 rfl) ?_
  refine lv_bipush (v := 16) hx hb dJ6_bitCount_0f7a4_43 (by decide) ?_
  obtain ⟨v13, ev13⟩ : ∃ z : Int32, (Int32.toUInt32 v12 >>> (Int32.toUInt32 (16) &&& Int32.toUInt32 31)).toInt32 = z := ⟨_, rfl⟩
  refine lv_iushr hx hb dJ6_bitCount_0f7a4_45 ev13 ?_
  refine lv_iadd hx hb dJ6_bitCount_0f7a4_46 ?_
  refine lv_topi (fun v14 ev14 => ?_)
  refine lv_istore_n (lv' := [(0, .int v14)]) hx hb dJ6_bitCount_0f7a4_47 rfl hl (by decide) rfl (fun ls hl => ?_)
  refine lv_iload_n hx hb dJ6_bitCount_0f7a4_48 rfl (lv_at hl 0 rfl) ?_
  refine lv_bipush (v := 63) hx hb dJ6_bitCount_0f7a4_49 (by decide) ?_
  refine lv_iand hx hb dJ6_bitCount_0f7a4_51 ?_
  refine lv_topi (fun v15 ev15 => ?_)
  have hv15 : IV 0 63 v15 := iv_and2 ev15 (iv_c (a := 63) (b := 63) (by decide))
  exact W.iret (v := v15) hx hb hr (fun t ht hW => ⟨⟨v15, (), rfl, (by subst_vars; rfl), trivial⟩, hS.F ht⟩) hS.2.2 dJ6_bitCount_0f7a4_52
set_option maxHeartbeats 4000000 in
set_option maxRecDepth 100000 in
theorem c_J7_fill_53178_7 (l : Launch) (D : va_G) (cs : Nat → ClassId) (kK kV : Nat → Nat) (b0 : Nat) (b0_c : Nat → Int32)  (sz : Nat) : Met l yJ7_fill_53178 (hz_w yJ7_fill_53178 cJ7_fill_53178 4 none) ({ frames := 0, cells := 0, slots := 0, locals := 0 }) (va_Pc [.ref b0, .int 0] (hz_C D cs kK kV sz [(b0, .inl (cs 0, 4096, .inl b0_c))])) (va_Qv (fun (_ : Unit) => True) (fun _ t => ∃ (o_b0_c : Nat → Int32), va_P D classes [(b0, .inl (cs 0, 4096, .inl o_b0_c))] t.heap ∧ va_D (va_A [(b0, .inl (cs 0, 4096, .inl b0_c))] sz) [(b0, .inl (cs 0, 4096, .inl o_b0_c))]) (va_A [(b0, .inl (cs 0, 4096, .inl b0_c))] sz)) 0 0 (va_A [(b0, .inl (cs 0, 4096, .inl b0_c))] sz) := by
  refine hz_ofW (cc := cJ7_fill_53178) (maxL := 4) (ret := none) (by decide +kernel) rfl ?_
  intro p e s m args below meth c s₁ B hml hv
  obtain ⟨rfl, hsz, hP, hD0, hE⟩ := hv
  have hx := B.exec
  have hb := B.bytes
  have hr := B.returns
  have hT : ∀ w ∈ TB, w.before _ s = true := fun w h => atoms_spec (ws := hz_w yJ7_fill_53178 cJ7_fill_53178 4 none) B.pre w (List.mem_cons_of_mem _ h)
  have hown : s.vm.findClass RJ7 = some m.cls := findClass_of_methodNamed B.named
  have hlocks := B.notSynchronized
  clear B
  subst hsz
  have hD := hD0.self (sz := s.heap.size)
  generalize hAe : va_A [(b0, .inl (cs 0, 4096, .inl b0_c))] s.heap.size = A at hD hE ⊢
  have hA : ∀ q : Nat, s.heap.size ≤ q → A q := fun q h => by rw [← hAe]; exact Or.inr h
  clear hAe hD0
  have hS : va_S A s.heap s.heap [] := va_S.rf
  have hK := hE.1
  have hl := lv_entry ([.ref b0, .int 0]) (n := 4) (Nat.le_of_ble_eq_true rfl)
  rw [lg_entry_eq]
  generalize (lg_sl ([.ref b0, .int 0]) ++ List.replicate (4 - (lg_sl ([.ref b0, .int 0])).length) Slot.unset).toArray = ls at hl ⊢
  have hl : lv_has ls 4 [(0, .ref b0), (1, .int 0)] := hl
  obtain ⟨H, eH⟩ : ∃ z, z = s.heap := ⟨_, rfl⟩
  have hP : va_P D classes [(b0, .inl (cs 0, 4096, .inl b0_c))] H := by rw [eH]; exact hP
  have hS : va_S A s.heap H [] := by rw [eH]; exact hS
  rw [← eH]
  clear eH
  obtain ⟨locs, el⟩ : ∃ z : List Loc, z = [] := ⟨_, rfl⟩
  rw [← el] at hS ⊢
  clear el
  have K5 : ∀ (n : Nat) (k5_L_2 : Int32) (k5_C_b0 : Nat → Int32), (4096 - k5_L_2.toInt + 1).toNat ≤ n → IV 0 4096 k5_L_2 → ∀ (H : Heap) (locs : List Loc), va_P D classes [(b0, .inl (cs 0, 4096, .inl k5_C_b0))] H → va_D A [(b0, .inl (cs 0, 4096, .inl k5_C_b0))] → va_S A s.heap H locs → ∀ ls : Array Slot, lv_has ls 4 [(3, .int 4096), (2, .int k5_L_2), (0, .ref b0), (1, .int 0)] → W p l e (headSpec (hz_w yJ7_fill_53178 cJ7_fill_53178 4 none) ({ frames := 0, cells := 0, slots := 0, locals := 0 })).room s m [.ref b0, .int 0].toArray below meth c H locs 0 0 (MQ below (va_Qv (fun (_ : Unit) => True) (fun _ t => ∃ (o_b0_c : Nat → Int32), va_P D classes [(b0, .inl (cs 0, 4096, .inl o_b0_c))] t.heap ∧ va_D A [(b0, .inl (cs 0, 4096, .inl o_b0_c))]) A) [.ref b0, .int 0].toArray s 0 0 A) (F0 m 5 ls []) := by
    intro n
    induction n with
    | zero =>
      intro k5_L_2 k5_C_b0 hn q5_0 H locs hP hD hS ls hl
      exact absurd hn (by unfold IV at q5_0; omega)
    | succ n ih5 =>
      intro k5_L_2 k5_C_b0 hn q5_0 H locs hP hD hS ls hl
      refine lv_iload_n hx hb dJ7_fill_53178_5 rfl (lv_at hl 1 rfl) ?_
      refine lv_iload_n hx hb dJ7_fill_53178_6 rfl (lv_at hl 0 rfl) ?_
      refine lv_icmp_ge (tgt := 20) hx hb dJ7_fill_53178_7 (by decide) (fun c1 => ?_) (fun c1 => ?_)
      · have h2 : IV 4096 4096 k5_L_2 := iv_le2 c1 (iv_c (a := 4096) (b := 4096) (by decide)) q5_0 (by decide)
        refine W.widen (k := 0) (n := 0) (Nat.le_of_ble_eq_true rfl) (Nat.le_of_ble_eq_true rfl) ?_
        exact W.vret hx hb hr (fun t ht hW => ⟨⟨(), rfl, trivial, k5_C_b0, by rw [ht]; exact hP.sub [0] rfl, hD.sub [0] (by decide) rfl⟩, hS.F ht⟩) hS.2.2 dJ7_fill_53178_20
      · have h3 : IV 0 4095 k5_L_2 := iv_lt1 (Int32.not_le.mp c1) q5_0 (iv_c (a := 4096) (b := 4096) (by decide)) (by decide)
        refine lv_aload_n hx hb dJ7_fill_53178_10 rfl (lv_at hl 2 rfl) ?_
        refine lv_iload_n hx hb dJ7_fill_53178_11 rfl (lv_at hl 1 rfl) ?_
        refine lv_iload_n hx hb dJ7_fill_53178_12 rfl (lv_at hl 3 rfl) ?_
        refine va_iast hx hb hK hP hD hS 0 0 rfl rfl (iv_v h3 (by decide) (by decide)) dJ7_fill_53178_13 (fun H locs hP hD hS => ?_)
        have hP : va_P D classes [(b0, .inl (cs 0, 4096, .inl (upd k5_C_b0 (Int32.toNatClampNeg k5_L_2) (0 : Int32))))] H := hP
        have hD : va_D A [(b0, .inl (cs 0, 4096, .inl (upd k5_C_b0 (Int32.toNatClampNeg k5_L_2) (0 : Int32))))] := hD
        generalize upd k5_C_b0 (Int32.toNatClampNeg k5_L_2) (0 : Int32) = f4 at hP hD
        obtain ⟨v5, ev5⟩ : ∃ z : Int32, z = k5_L_2 + 1 := ⟨_, rfl⟩
        have hv5 : IV 1 4096 v5 := iv_add ev5 h3 (iv_c (a := 1) (b := 1) (by decide)) (by decide) (by decide)
        have dv5 : v5.toInt = k5_L_2.toInt + 1 := iv_addE ev5 h3 (iv_c (a := 1) (b := 1) (by decide)) (by decide) (by decide) (by decide)
        refine lv_iinc (v := v5) (lv' := [(2, .int v5), (3, .int 4096), (0, .ref b0), (1, .int 0)]) hx hb dJ7_fill_53178_14 hl (k := 1) rfl (by rw [ev5]; rfl) (by decide) rfl (fun ls hl => ?_)
        refine lv_goto (tgt := 5) hx hb dJ7_fill_53178_17 (by decide) ?_
        exact ih5 v5 f4 (by have h9 := h3; unfold IV at h9; have := dv5; omega) (iv_w hv5 (by decide) (by decide)) H locs (hP.sub (ws' := [(b0, .inl (cs 0, 4096, .inl f4))]) [0] rfl) (hD.sub (ws' := [(b0, .inl (cs 0, 4096, .inl f4))]) [0] (by decide) rfl) hS ls (lv_sub hl [1, 0, 2, 3] rfl)
  refine lv_iconst (v := 0) hx hb dJ7_fill_53178_0 (by decide) ?_
  refine lv_istore_n (lv' := [(2, .int 0), (0, .ref b0), (1, .int 0)]) hx hb dJ7_fill_53178_1 rfl hl (by decide) rfl (fun ls hl => ?_)
  refine lv_aload_n hx hb dJ7_fill_53178_2 rfl (lv_at hl 1 rfl) ?_
  refine va_alen (v := 4096) hx hb hK hP 0 0 rfl rfl rfl dJ7_fill_53178_3 ?_
  refine lv_istore_n (lv' := [(3, .int 4096), (2, .int 0), (0, .ref b0), (1, .int 0)]) hx hb dJ7_fill_53178_4 rfl hl (by decide) rfl (fun ls hl => ?_)
  exact K5 _ 0 b0_c (Nat.le_refl _) (iv_c (by decide)) H locs (hP.sub (ws' := [(b0, .inl (cs 0, 4096, .inl b0_c))]) [0] rfl) (hD.sub (ws' := [(b0, .inl (cs 0, 4096, .inl b0_c))]) [0] (by decide) rfl) hS ls (lv_sub hl [0, 1, 2, 3] rfl)
set_option maxHeartbeats 4000000 in
set_option maxRecDepth 100000 in
theorem c_J9_max_7cf53_22 (l : Launch) (D : va_G) (cs : Nat → ClassId) (kK kV : Nat → Nat)   : Met l yJ9_max_7cf53 (hz_w yJ9_max_7cf53 cJ9_max_7cf53 2 (some .int)) ({ frames := 0, cells := 0, slots := 0, locals := 0 }) (va_Pc [.int 9, .int 20] (hz_P D cs kK kV [])) (va_Qi (fun (r : Int32) (_ : Unit) => (r = 20)) (fun _ t => True) (fun _ => False)) 0 0 (fun _ => False) := by
  refine hz_ofW (cc := cJ9_max_7cf53) (maxL := 2) (ret := (some .int)) (by decide +kernel) rfl ?_
  intro p e s m args below meth c s₁ B hml hv
  obtain ⟨rfl, hP, hE⟩ := hv
  have hx := B.exec
  have hb := B.bytes
  have hr := B.returns
  have hT : ∀ w ∈ TB, w.before _ s = true := fun w h => atoms_spec (ws := hz_w yJ9_max_7cf53 cJ9_max_7cf53 2 (some .int)) B.pre w (List.mem_cons_of_mem _ h)
  have hown : s.vm.findClass RJ9 = some m.cls := findClass_of_methodNamed B.named
  have hlocks := B.notSynchronized
  clear B
  have hS : va_S (fun _ => False) s.heap s.heap [] := va_S.rf
  have hK := hE.1
  have hl := lv_entry ([.int 9, .int 20]) (n := 2) (Nat.le_of_ble_eq_true rfl)
  rw [lg_entry_eq]
  generalize (lg_sl ([.int 9, .int 20]) ++ List.replicate (2 - (lg_sl ([.int 9, .int 20])).length) Slot.unset).toArray = ls at hl ⊢
  have hl : lv_has ls 2 [(0, .int 9), (1, .int 20)] := hl
  obtain ⟨H, eH⟩ : ∃ z, z = s.heap := ⟨_, rfl⟩
  have hP : va_P D classes [] H := by rw [eH]; exact hP
  have hS : va_S (fun _ => False) s.heap H [] := by rw [eH]; exact hS
  rw [← eH]
  clear eH
  obtain ⟨locs, el⟩ : ∃ z : List Loc, z = [] := ⟨_, rfl⟩
  rw [← el] at hS ⊢
  clear el
  refine lv_iload_n hx hb dJ9_max_7cf53_0 rfl (lv_at hl 0 rfl) ?_
  refine lv_iload_n hx hb dJ9_max_7cf53_1 rfl (lv_at hl 1 rfl) ?_
  refine lv_icmp_lt (tgt := 9) hx hb dJ9_max_7cf53_2 (by decide) (fun _ => ?_) (fun z => absurd (by decide) z)
  refine lv_iload_n hx hb dJ9_max_7cf53_9 rfl (lv_at hl 1 rfl) ?_
  exact W.iret (v := 20) hx hb hr (fun t ht hW => ⟨⟨20, (), rfl, (rfl), trivial⟩, hS.F ht⟩) hS.2.2 dJ9_max_7cf53_10
set_option maxHeartbeats 4000000 in
set_option maxRecDepth 100000 in
theorem c_J9_max_7cf53_23 (l : Launch) (D : va_G) (cs : Nat → ClassId) (kK kV : Nat → Nat)   : Met l yJ9_max_7cf53 (hz_w yJ9_max_7cf53 cJ9_max_7cf53 2 (some .int)) ({ frames := 0, cells := 0, slots := 0, locals := 0 }) (va_Pc [.int 9, .int 40] (hz_P D cs kK kV [])) (va_Qi (fun (r : Int32) (_ : Unit) => (r = 40)) (fun _ t => True) (fun _ => False)) 0 0 (fun _ => False) := by
  refine hz_ofW (cc := cJ9_max_7cf53) (maxL := 2) (ret := (some .int)) (by decide +kernel) rfl ?_
  intro p e s m args below meth c s₁ B hml hv
  obtain ⟨rfl, hP, hE⟩ := hv
  have hx := B.exec
  have hb := B.bytes
  have hr := B.returns
  have hT : ∀ w ∈ TB, w.before _ s = true := fun w h => atoms_spec (ws := hz_w yJ9_max_7cf53 cJ9_max_7cf53 2 (some .int)) B.pre w (List.mem_cons_of_mem _ h)
  have hown : s.vm.findClass RJ9 = some m.cls := findClass_of_methodNamed B.named
  have hlocks := B.notSynchronized
  clear B
  have hS : va_S (fun _ => False) s.heap s.heap [] := va_S.rf
  have hK := hE.1
  have hl := lv_entry ([.int 9, .int 40]) (n := 2) (Nat.le_of_ble_eq_true rfl)
  rw [lg_entry_eq]
  generalize (lg_sl ([.int 9, .int 40]) ++ List.replicate (2 - (lg_sl ([.int 9, .int 40])).length) Slot.unset).toArray = ls at hl ⊢
  have hl : lv_has ls 2 [(0, .int 9), (1, .int 40)] := hl
  obtain ⟨H, eH⟩ : ∃ z, z = s.heap := ⟨_, rfl⟩
  have hP : va_P D classes [] H := by rw [eH]; exact hP
  have hS : va_S (fun _ => False) s.heap H [] := by rw [eH]; exact hS
  rw [← eH]
  clear eH
  obtain ⟨locs, el⟩ : ∃ z : List Loc, z = [] := ⟨_, rfl⟩
  rw [← el] at hS ⊢
  clear el
  refine lv_iload_n hx hb dJ9_max_7cf53_0 rfl (lv_at hl 0 rfl) ?_
  refine lv_iload_n hx hb dJ9_max_7cf53_1 rfl (lv_at hl 1 rfl) ?_
  refine lv_icmp_lt (tgt := 9) hx hb dJ9_max_7cf53_2 (by decide) (fun _ => ?_) (fun z => absurd (by decide) z)
  refine lv_iload_n hx hb dJ9_max_7cf53_9 rfl (lv_at hl 1 rfl) ?_
  exact W.iret (v := 40) hx hb hr (fun t ht hW => ⟨⟨40, (), rfl, (rfl), trivial⟩, hS.F ht⟩) hS.2.2 dJ9_max_7cf53_10
set_option maxHeartbeats 4000000 in
set_option maxRecDepth 100000 in
theorem c_J9_max_7cf53_24 (l : Launch) (D : va_G) (cs : Nat → ClassId) (kK kV : Nat → Nat) (p0 : Int32) (h_p0 : IV 9 60 p0) : Met l yJ9_max_7cf53 (hz_w yJ9_max_7cf53 cJ9_max_7cf53 2 (some .int)) ({ frames := 0, cells := 0, slots := 0, locals := 0 }) (va_Pc [.int p0, .int 20] (hz_P D cs kK kV [])) (va_Qi (fun (r : Int32) (_ : Unit) => (r = 20 ∧ IV 9 19 p0) ∨ (IV 20 60 r ∧ IV 20 60 p0)) (fun _ t => True) (fun _ => False)) 0 0 (fun _ => False) := by
  refine hz_ofW (cc := cJ9_max_7cf53) (maxL := 2) (ret := (some .int)) (by decide +kernel) rfl ?_
  intro p e s m args below meth c s₁ B hml hv
  obtain ⟨rfl, hP, hE⟩ := hv
  have hx := B.exec
  have hb := B.bytes
  have hr := B.returns
  have hT : ∀ w ∈ TB, w.before _ s = true := fun w h => atoms_spec (ws := hz_w yJ9_max_7cf53 cJ9_max_7cf53 2 (some .int)) B.pre w (List.mem_cons_of_mem _ h)
  have hown : s.vm.findClass RJ9 = some m.cls := findClass_of_methodNamed B.named
  have hlocks := B.notSynchronized
  clear B
  have hS : va_S (fun _ => False) s.heap s.heap [] := va_S.rf
  have hK := hE.1
  have hl := lv_entry ([.int p0, .int 20]) (n := 2) (Nat.le_of_ble_eq_true rfl)
  rw [lg_entry_eq]
  generalize (lg_sl ([.int p0, .int 20]) ++ List.replicate (2 - (lg_sl ([.int p0, .int 20])).length) Slot.unset).toArray = ls at hl ⊢
  have hl : lv_has ls 2 [(0, .int p0), (1, .int 20)] := hl
  obtain ⟨H, eH⟩ : ∃ z, z = s.heap := ⟨_, rfl⟩
  have hP : va_P D classes [] H := by rw [eH]; exact hP
  have hS : va_S (fun _ => False) s.heap H [] := by rw [eH]; exact hS
  rw [← eH]
  clear eH
  obtain ⟨locs, el⟩ : ∃ z : List Loc, z = [] := ⟨_, rfl⟩
  rw [← el] at hS ⊢
  clear el
  refine lv_iload_n hx hb dJ9_max_7cf53_0 rfl (lv_at hl 0 rfl) ?_
  refine lv_iload_n hx hb dJ9_max_7cf53_1 rfl (lv_at hl 1 rfl) ?_
  refine lv_icmp_lt (tgt := 9) hx hb dJ9_max_7cf53_2 (by decide) (fun c1 => ?_) (fun c1 => ?_)
  · have h2 : IV 9 19 p0 := iv_lt1 c1 h_p0 (iv_c (a := 20) (b := 20) (by decide)) (by decide)
    refine lv_iload_n hx hb dJ9_max_7cf53_9 rfl (lv_at hl 1 rfl) ?_
    exact W.iret (v := 20) hx hb hr (fun t ht hW => ⟨⟨20, (), rfl, (Or.inl (⟨rfl, h2⟩)), trivial⟩, hS.F ht⟩) hS.2.2 dJ9_max_7cf53_10
  · have h3 : IV 20 60 p0 := iv_le2 (Int32.not_lt.mp c1) (iv_c (a := 20) (b := 20) (by decide)) h_p0 (by decide)
    refine lv_iload_n hx hb dJ9_max_7cf53_5 rfl (lv_at hl 0 rfl) ?_
    refine lv_goto (tgt := 10) hx hb dJ9_max_7cf53_6 (by decide) ?_
    exact W.iret (v := p0) hx hb hr (fun t ht hW => ⟨⟨p0, (), rfl, (Or.inr ((⟨h3, h3⟩))), trivial⟩, hS.F ht⟩) hS.2.2 dJ9_max_7cf53_10
set_option maxHeartbeats 4000000 in
set_option maxRecDepth 100000 in
theorem c_J9_max_7cf53_25 (l : Launch) (D : va_G) (cs : Nat → ClassId) (kK kV : Nat → Nat) (p0 : Int32) (h_p0 : IV 9 60 p0) : Met l yJ9_max_7cf53 (hz_w yJ9_max_7cf53 cJ9_max_7cf53 2 (some .int)) ({ frames := 0, cells := 0, slots := 0, locals := 0 }) (va_Pc [.int p0, .int 40] (hz_P D cs kK kV [])) (va_Qi (fun (r : Int32) (_ : Unit) => (r = 40 ∧ IV 9 39 p0) ∨ (IV 40 60 r ∧ IV 40 60 p0)) (fun _ t => True) (fun _ => False)) 0 0 (fun _ => False) := by
  refine hz_ofW (cc := cJ9_max_7cf53) (maxL := 2) (ret := (some .int)) (by decide +kernel) rfl ?_
  intro p e s m args below meth c s₁ B hml hv
  obtain ⟨rfl, hP, hE⟩ := hv
  have hx := B.exec
  have hb := B.bytes
  have hr := B.returns
  have hT : ∀ w ∈ TB, w.before _ s = true := fun w h => atoms_spec (ws := hz_w yJ9_max_7cf53 cJ9_max_7cf53 2 (some .int)) B.pre w (List.mem_cons_of_mem _ h)
  have hown : s.vm.findClass RJ9 = some m.cls := findClass_of_methodNamed B.named
  have hlocks := B.notSynchronized
  clear B
  have hS : va_S (fun _ => False) s.heap s.heap [] := va_S.rf
  have hK := hE.1
  have hl := lv_entry ([.int p0, .int 40]) (n := 2) (Nat.le_of_ble_eq_true rfl)
  rw [lg_entry_eq]
  generalize (lg_sl ([.int p0, .int 40]) ++ List.replicate (2 - (lg_sl ([.int p0, .int 40])).length) Slot.unset).toArray = ls at hl ⊢
  have hl : lv_has ls 2 [(0, .int p0), (1, .int 40)] := hl
  obtain ⟨H, eH⟩ : ∃ z, z = s.heap := ⟨_, rfl⟩
  have hP : va_P D classes [] H := by rw [eH]; exact hP
  have hS : va_S (fun _ => False) s.heap H [] := by rw [eH]; exact hS
  rw [← eH]
  clear eH
  obtain ⟨locs, el⟩ : ∃ z : List Loc, z = [] := ⟨_, rfl⟩
  rw [← el] at hS ⊢
  clear el
  refine lv_iload_n hx hb dJ9_max_7cf53_0 rfl (lv_at hl 0 rfl) ?_
  refine lv_iload_n hx hb dJ9_max_7cf53_1 rfl (lv_at hl 1 rfl) ?_
  refine lv_icmp_lt (tgt := 9) hx hb dJ9_max_7cf53_2 (by decide) (fun c1 => ?_) (fun c1 => ?_)
  · have h2 : IV 9 39 p0 := iv_lt1 c1 h_p0 (iv_c (a := 40) (b := 40) (by decide)) (by decide)
    refine lv_iload_n hx hb dJ9_max_7cf53_9 rfl (lv_at hl 1 rfl) ?_
    exact W.iret (v := 40) hx hb hr (fun t ht hW => ⟨⟨40, (), rfl, (Or.inl (⟨rfl, h2⟩)), trivial⟩, hS.F ht⟩) hS.2.2 dJ9_max_7cf53_10
  · have h3 : IV 40 60 p0 := iv_le2 (Int32.not_lt.mp c1) (iv_c (a := 40) (b := 40) (by decide)) h_p0 (by decide)
    refine lv_iload_n hx hb dJ9_max_7cf53_5 rfl (lv_at hl 0 rfl) ?_
    refine lv_goto (tgt := 10) hx hb dJ9_max_7cf53_6 (by decide) ?_
    exact W.iret (v := p0) hx hb hr (fun t ht hW => ⟨⟨p0, (), rfl, (Or.inr ((⟨h3, h3⟩))), trivial⟩, hS.F ht⟩) hS.2.2 dJ9_max_7cf53_10
set_option maxHeartbeats 4000000 in
set_option maxRecDepth 100000 in
theorem c_J9_max_7cf53_26 (l : Launch) (D : va_G) (cs : Nat → ClassId) (kK kV : Nat → Nat) (p0 : Int32)  : Met l yJ9_max_7cf53 (hz_w yJ9_max_7cf53 cJ9_max_7cf53 2 (some .int)) ({ frames := 0, cells := 0, slots := 0, locals := 0 }) (va_Pc [.int p0, .int 20] (hz_P D cs kK kV [])) (va_Qi (fun (r : Int32) (_ : Unit) => (r = 20 ∧ IV (-2147483648) 19 p0) ∨ (IV 20 2147483647 r ∧ IV 20 2147483647 p0)) (fun _ t => True) (fun _ => False)) 0 0 (fun _ => False) := by
  refine hz_ofW (cc := cJ9_max_7cf53) (maxL := 2) (ret := (some .int)) (by decide +kernel) rfl ?_
  intro p e s m args below meth c s₁ B hml hv
  obtain ⟨rfl, hP, hE⟩ := hv
  have hx := B.exec
  have hb := B.bytes
  have hr := B.returns
  have hT : ∀ w ∈ TB, w.before _ s = true := fun w h => atoms_spec (ws := hz_w yJ9_max_7cf53 cJ9_max_7cf53 2 (some .int)) B.pre w (List.mem_cons_of_mem _ h)
  have hown : s.vm.findClass RJ9 = some m.cls := findClass_of_methodNamed B.named
  have hlocks := B.notSynchronized
  clear B
  have hS : va_S (fun _ => False) s.heap s.heap [] := va_S.rf
  have hK := hE.1
  have hl := lv_entry ([.int p0, .int 20]) (n := 2) (Nat.le_of_ble_eq_true rfl)
  rw [lg_entry_eq]
  generalize (lg_sl ([.int p0, .int 20]) ++ List.replicate (2 - (lg_sl ([.int p0, .int 20])).length) Slot.unset).toArray = ls at hl ⊢
  have hl : lv_has ls 2 [(0, .int p0), (1, .int 20)] := hl
  obtain ⟨H, eH⟩ : ∃ z, z = s.heap := ⟨_, rfl⟩
  have hP : va_P D classes [] H := by rw [eH]; exact hP
  have hS : va_S (fun _ => False) s.heap H [] := by rw [eH]; exact hS
  rw [← eH]
  clear eH
  obtain ⟨locs, el⟩ : ∃ z : List Loc, z = [] := ⟨_, rfl⟩
  rw [← el] at hS ⊢
  clear el
  refine lv_iload_n hx hb dJ9_max_7cf53_0 rfl (lv_at hl 0 rfl) ?_
  refine lv_iload_n hx hb dJ9_max_7cf53_1 rfl (lv_at hl 1 rfl) ?_
  refine lv_icmp_lt (tgt := 9) hx hb dJ9_max_7cf53_2 (by decide) (fun c1 => ?_) (fun c1 => ?_)
  · have h2 : IV (-2147483648) 19 p0 := iv_lt1 c1 iv_top (iv_c (a := 20) (b := 20) (by decide)) (by decide)
    refine lv_iload_n hx hb dJ9_max_7cf53_9 rfl (lv_at hl 1 rfl) ?_
    exact W.iret (v := 20) hx hb hr (fun t ht hW => ⟨⟨20, (), rfl, (Or.inl (⟨rfl, h2⟩)), trivial⟩, hS.F ht⟩) hS.2.2 dJ9_max_7cf53_10
  · have h3 : IV 20 2147483647 p0 := iv_le2 (Int32.not_lt.mp c1) (iv_c (a := 20) (b := 20) (by decide)) iv_top (by decide)
    refine lv_iload_n hx hb dJ9_max_7cf53_5 rfl (lv_at hl 0 rfl) ?_
    refine lv_goto (tgt := 10) hx hb dJ9_max_7cf53_6 (by decide) ?_
    exact W.iret (v := p0) hx hb hr (fun t ht hW => ⟨⟨p0, (), rfl, (Or.inr ((⟨h3, h3⟩))), trivial⟩, hS.F ht⟩) hS.2.2 dJ9_max_7cf53_10
set_option maxHeartbeats 4000000 in
set_option maxRecDepth 100000 in
theorem c_J9_max_7cf53_27 (l : Launch) (D : va_G) (cs : Nat → ClassId) (kK kV : Nat → Nat) (p0 : Int32) (p1 : Int32)  : Met l yJ9_max_7cf53 (hz_w yJ9_max_7cf53 cJ9_max_7cf53 2 (some .int)) ({ frames := 0, cells := 0, slots := 0, locals := 0 }) (va_Pc [.int p0, .int p1] (hz_P D cs kK kV [])) (va_Qi (fun (r : Int32) (_ : Unit) => True) (fun _ t => True) (fun _ => False)) 0 0 (fun _ => False) := by
  refine hz_ofW (cc := cJ9_max_7cf53) (maxL := 2) (ret := (some .int)) (by decide +kernel) rfl ?_
  intro p e s m args below meth c s₁ B hml hv
  obtain ⟨rfl, hP, hE⟩ := hv
  have hx := B.exec
  have hb := B.bytes
  have hr := B.returns
  have hT : ∀ w ∈ TB, w.before _ s = true := fun w h => atoms_spec (ws := hz_w yJ9_max_7cf53 cJ9_max_7cf53 2 (some .int)) B.pre w (List.mem_cons_of_mem _ h)
  have hown : s.vm.findClass RJ9 = some m.cls := findClass_of_methodNamed B.named
  have hlocks := B.notSynchronized
  clear B
  have hS : va_S (fun _ => False) s.heap s.heap [] := va_S.rf
  have hK := hE.1
  have hl := lv_entry ([.int p0, .int p1]) (n := 2) (Nat.le_of_ble_eq_true rfl)
  rw [lg_entry_eq]
  generalize (lg_sl ([.int p0, .int p1]) ++ List.replicate (2 - (lg_sl ([.int p0, .int p1])).length) Slot.unset).toArray = ls at hl ⊢
  have hl : lv_has ls 2 [(0, .int p0), (1, .int p1)] := hl
  obtain ⟨H, eH⟩ : ∃ z, z = s.heap := ⟨_, rfl⟩
  have hP : va_P D classes [] H := by rw [eH]; exact hP
  have hS : va_S (fun _ => False) s.heap H [] := by rw [eH]; exact hS
  rw [← eH]
  clear eH
  obtain ⟨locs, el⟩ : ∃ z : List Loc, z = [] := ⟨_, rfl⟩
  rw [← el] at hS ⊢
  clear el
  refine lv_iload_n hx hb dJ9_max_7cf53_0 rfl (lv_at hl 0 rfl) ?_
  refine lv_iload_n hx hb dJ9_max_7cf53_1 rfl (lv_at hl 1 rfl) ?_
  refine lv_icmp_lt (tgt := 9) hx hb dJ9_max_7cf53_2 (by decide) (fun c1 => ?_) (fun c1 => ?_)
  · have h2 : IV (-2147483648) 2147483646 p0 := iv_lt1 c1 iv_top iv_top (by decide)
    have h3 : IV (-2147483647) 2147483647 p1 := iv_lt2 c1 iv_top iv_top (by decide)
    refine lv_iload_n hx hb dJ9_max_7cf53_9 rfl (lv_at hl 1 rfl) ?_
    exact W.iret (v := p1) hx hb hr (fun t ht hW => ⟨⟨p1, (), rfl, trivial, trivial⟩, hS.F ht⟩) hS.2.2 dJ9_max_7cf53_10
  · refine lv_iload_n hx hb dJ9_max_7cf53_5 rfl (lv_at hl 0 rfl) ?_
    refine lv_goto (tgt := 10) hx hb dJ9_max_7cf53_6 (by decide) ?_
    exact W.iret (v := p0) hx hb hr (fun t ht hW => ⟨⟨p0, (), rfl, trivial, trivial⟩, hS.F ht⟩) hS.2.2 dJ9_max_7cf53_10
set_option maxHeartbeats 4000000 in
set_option maxRecDepth 100000 in
theorem c_J9_max_7cf53_28 (l : Launch) (D : va_G) (cs : Nat → ClassId) (kK kV : Nat → Nat) (p0 : Int32)  : Met l yJ9_max_7cf53 (hz_w yJ9_max_7cf53 cJ9_max_7cf53 2 (some .int)) ({ frames := 0, cells := 0, slots := 0, locals := 0 }) (va_Pc [.int p0, .int 40] (hz_P D cs kK kV [])) (va_Qi (fun (r : Int32) (_ : Unit) => (r = 40 ∧ IV (-2147483648) 39 p0) ∨ (IV 40 2147483647 r ∧ IV 40 2147483647 p0)) (fun _ t => True) (fun _ => False)) 0 0 (fun _ => False) := by
  refine hz_ofW (cc := cJ9_max_7cf53) (maxL := 2) (ret := (some .int)) (by decide +kernel) rfl ?_
  intro p e s m args below meth c s₁ B hml hv
  obtain ⟨rfl, hP, hE⟩ := hv
  have hx := B.exec
  have hb := B.bytes
  have hr := B.returns
  have hT : ∀ w ∈ TB, w.before _ s = true := fun w h => atoms_spec (ws := hz_w yJ9_max_7cf53 cJ9_max_7cf53 2 (some .int)) B.pre w (List.mem_cons_of_mem _ h)
  have hown : s.vm.findClass RJ9 = some m.cls := findClass_of_methodNamed B.named
  have hlocks := B.notSynchronized
  clear B
  have hS : va_S (fun _ => False) s.heap s.heap [] := va_S.rf
  have hK := hE.1
  have hl := lv_entry ([.int p0, .int 40]) (n := 2) (Nat.le_of_ble_eq_true rfl)
  rw [lg_entry_eq]
  generalize (lg_sl ([.int p0, .int 40]) ++ List.replicate (2 - (lg_sl ([.int p0, .int 40])).length) Slot.unset).toArray = ls at hl ⊢
  have hl : lv_has ls 2 [(0, .int p0), (1, .int 40)] := hl
  obtain ⟨H, eH⟩ : ∃ z, z = s.heap := ⟨_, rfl⟩
  have hP : va_P D classes [] H := by rw [eH]; exact hP
  have hS : va_S (fun _ => False) s.heap H [] := by rw [eH]; exact hS
  rw [← eH]
  clear eH
  obtain ⟨locs, el⟩ : ∃ z : List Loc, z = [] := ⟨_, rfl⟩
  rw [← el] at hS ⊢
  clear el
  refine lv_iload_n hx hb dJ9_max_7cf53_0 rfl (lv_at hl 0 rfl) ?_
  refine lv_iload_n hx hb dJ9_max_7cf53_1 rfl (lv_at hl 1 rfl) ?_
  refine lv_icmp_lt (tgt := 9) hx hb dJ9_max_7cf53_2 (by decide) (fun c1 => ?_) (fun c1 => ?_)
  · have h2 : IV (-2147483648) 39 p0 := iv_lt1 c1 iv_top (iv_c (a := 40) (b := 40) (by decide)) (by decide)
    refine lv_iload_n hx hb dJ9_max_7cf53_9 rfl (lv_at hl 1 rfl) ?_
    exact W.iret (v := 40) hx hb hr (fun t ht hW => ⟨⟨40, (), rfl, (Or.inl (⟨rfl, h2⟩)), trivial⟩, hS.F ht⟩) hS.2.2 dJ9_max_7cf53_10
  · have h3 : IV 40 2147483647 p0 := iv_le2 (Int32.not_lt.mp c1) (iv_c (a := 40) (b := 40) (by decide)) iv_top (by decide)
    refine lv_iload_n hx hb dJ9_max_7cf53_5 rfl (lv_at hl 0 rfl) ?_
    refine lv_goto (tgt := 10) hx hb dJ9_max_7cf53_6 (by decide) ?_
    exact W.iret (v := p0) hx hb hr (fun t ht hW => ⟨⟨p0, (), rfl, (Or.inr ((⟨h3, h3⟩))), trivial⟩, hS.F ht⟩) hS.2.2 dJ9_max_7cf53_10
set_option maxHeartbeats 4000000 in
set_option maxRecDepth 100000 in
theorem c_J7_fill_53178_31 (l : Launch) (D : va_G) (cs : Nat → ClassId) (kK kV : Nat → Nat) (b0 : Nat) (b0_c : Nat → Int32)  (sz : Nat) : Met l yJ7_fill_53178 (hz_w yJ7_fill_53178 cJ7_fill_53178 4 none) ({ frames := 0, cells := 0, slots := 0, locals := 0 }) (va_Pc [.ref b0, .int 0] (hz_C D cs kK kV sz [(b0, .inl (cs 0, 2048, .inl b0_c))])) (va_Qv (fun (_ : Unit) => True) (fun _ t => ∃ (o_b0_c : Nat → Int32), va_P D classes [(b0, .inl (cs 0, 2048, .inl o_b0_c))] t.heap ∧ va_D (va_A [(b0, .inl (cs 0, 2048, .inl b0_c))] sz) [(b0, .inl (cs 0, 2048, .inl o_b0_c))]) (va_A [(b0, .inl (cs 0, 2048, .inl b0_c))] sz)) 0 0 (va_A [(b0, .inl (cs 0, 2048, .inl b0_c))] sz) := by
  refine hz_ofW (cc := cJ7_fill_53178) (maxL := 4) (ret := none) (by decide +kernel) rfl ?_
  intro p e s m args below meth c s₁ B hml hv
  obtain ⟨rfl, hsz, hP, hD0, hE⟩ := hv
  have hx := B.exec
  have hb := B.bytes
  have hr := B.returns
  have hT : ∀ w ∈ TB, w.before _ s = true := fun w h => atoms_spec (ws := hz_w yJ7_fill_53178 cJ7_fill_53178 4 none) B.pre w (List.mem_cons_of_mem _ h)
  have hown : s.vm.findClass RJ7 = some m.cls := findClass_of_methodNamed B.named
  have hlocks := B.notSynchronized
  clear B
  subst hsz
  have hD := hD0.self (sz := s.heap.size)
  generalize hAe : va_A [(b0, .inl (cs 0, 2048, .inl b0_c))] s.heap.size = A at hD hE ⊢
  have hA : ∀ q : Nat, s.heap.size ≤ q → A q := fun q h => by rw [← hAe]; exact Or.inr h
  clear hAe hD0
  have hS : va_S A s.heap s.heap [] := va_S.rf
  have hK := hE.1
  have hl := lv_entry ([.ref b0, .int 0]) (n := 4) (Nat.le_of_ble_eq_true rfl)
  rw [lg_entry_eq]
  generalize (lg_sl ([.ref b0, .int 0]) ++ List.replicate (4 - (lg_sl ([.ref b0, .int 0])).length) Slot.unset).toArray = ls at hl ⊢
  have hl : lv_has ls 4 [(0, .ref b0), (1, .int 0)] := hl
  obtain ⟨H, eH⟩ : ∃ z, z = s.heap := ⟨_, rfl⟩
  have hP : va_P D classes [(b0, .inl (cs 0, 2048, .inl b0_c))] H := by rw [eH]; exact hP
  have hS : va_S A s.heap H [] := by rw [eH]; exact hS
  rw [← eH]
  clear eH
  obtain ⟨locs, el⟩ : ∃ z : List Loc, z = [] := ⟨_, rfl⟩
  rw [← el] at hS ⊢
  clear el
  have K5 : ∀ (n : Nat) (k5_L_2 : Int32) (k5_C_b0 : Nat → Int32), (2048 - k5_L_2.toInt + 1).toNat ≤ n → IV 0 2048 k5_L_2 → ∀ (H : Heap) (locs : List Loc), va_P D classes [(b0, .inl (cs 0, 2048, .inl k5_C_b0))] H → va_D A [(b0, .inl (cs 0, 2048, .inl k5_C_b0))] → va_S A s.heap H locs → ∀ ls : Array Slot, lv_has ls 4 [(3, .int 2048), (2, .int k5_L_2), (0, .ref b0), (1, .int 0)] → W p l e (headSpec (hz_w yJ7_fill_53178 cJ7_fill_53178 4 none) ({ frames := 0, cells := 0, slots := 0, locals := 0 })).room s m [.ref b0, .int 0].toArray below meth c H locs 0 0 (MQ below (va_Qv (fun (_ : Unit) => True) (fun _ t => ∃ (o_b0_c : Nat → Int32), va_P D classes [(b0, .inl (cs 0, 2048, .inl o_b0_c))] t.heap ∧ va_D A [(b0, .inl (cs 0, 2048, .inl o_b0_c))]) A) [.ref b0, .int 0].toArray s 0 0 A) (F0 m 5 ls []) := by
    intro n
    induction n with
    | zero =>
      intro k5_L_2 k5_C_b0 hn q5_0 H locs hP hD hS ls hl
      exact absurd hn (by unfold IV at q5_0; omega)
    | succ n ih5 =>
      intro k5_L_2 k5_C_b0 hn q5_0 H locs hP hD hS ls hl
      refine lv_iload_n hx hb dJ7_fill_53178_5 rfl (lv_at hl 1 rfl) ?_
      refine lv_iload_n hx hb dJ7_fill_53178_6 rfl (lv_at hl 0 rfl) ?_
      refine lv_icmp_ge (tgt := 20) hx hb dJ7_fill_53178_7 (by decide) (fun c1 => ?_) (fun c1 => ?_)
      · have h2 : IV 2048 2048 k5_L_2 := iv_le2 c1 (iv_c (a := 2048) (b := 2048) (by decide)) q5_0 (by decide)
        refine W.widen (k := 0) (n := 0) (Nat.le_of_ble_eq_true rfl) (Nat.le_of_ble_eq_true rfl) ?_
        exact W.vret hx hb hr (fun t ht hW => ⟨⟨(), rfl, trivial, k5_C_b0, by rw [ht]; exact hP.sub [0] rfl, hD.sub [0] (by decide) rfl⟩, hS.F ht⟩) hS.2.2 dJ7_fill_53178_20
      · have h3 : IV 0 2047 k5_L_2 := iv_lt1 (Int32.not_le.mp c1) q5_0 (iv_c (a := 2048) (b := 2048) (by decide)) (by decide)
        refine lv_aload_n hx hb dJ7_fill_53178_10 rfl (lv_at hl 2 rfl) ?_
        refine lv_iload_n hx hb dJ7_fill_53178_11 rfl (lv_at hl 1 rfl) ?_
        refine lv_iload_n hx hb dJ7_fill_53178_12 rfl (lv_at hl 3 rfl) ?_
        refine va_iast hx hb hK hP hD hS 0 0 rfl rfl (iv_v h3 (by decide) (by decide)) dJ7_fill_53178_13 (fun H locs hP hD hS => ?_)
        have hP : va_P D classes [(b0, .inl (cs 0, 2048, .inl (upd k5_C_b0 (Int32.toNatClampNeg k5_L_2) (0 : Int32))))] H := hP
        have hD : va_D A [(b0, .inl (cs 0, 2048, .inl (upd k5_C_b0 (Int32.toNatClampNeg k5_L_2) (0 : Int32))))] := hD
        generalize upd k5_C_b0 (Int32.toNatClampNeg k5_L_2) (0 : Int32) = f4 at hP hD
        obtain ⟨v5, ev5⟩ : ∃ z : Int32, z = k5_L_2 + 1 := ⟨_, rfl⟩
        have hv5 : IV 1 2048 v5 := iv_add ev5 h3 (iv_c (a := 1) (b := 1) (by decide)) (by decide) (by decide)
        have dv5 : v5.toInt = k5_L_2.toInt + 1 := iv_addE ev5 h3 (iv_c (a := 1) (b := 1) (by decide)) (by decide) (by decide) (by decide)
        refine lv_iinc (v := v5) (lv' := [(2, .int v5), (3, .int 2048), (0, .ref b0), (1, .int 0)]) hx hb dJ7_fill_53178_14 hl (k := 1) rfl (by rw [ev5]; rfl) (by decide) rfl (fun ls hl => ?_)
        refine lv_goto (tgt := 5) hx hb dJ7_fill_53178_17 (by decide) ?_
        exact ih5 v5 f4 (by have h9 := h3; unfold IV at h9; have := dv5; omega) (iv_w hv5 (by decide) (by decide)) H locs (hP.sub (ws' := [(b0, .inl (cs 0, 2048, .inl f4))]) [0] rfl) (hD.sub (ws' := [(b0, .inl (cs 0, 2048, .inl f4))]) [0] (by decide) rfl) hS ls (lv_sub hl [1, 0, 2, 3] rfl)
  refine lv_iconst (v := 0) hx hb dJ7_fill_53178_0 (by decide) ?_
  refine lv_istore_n (lv' := [(2, .int 0), (0, .ref b0), (1, .int 0)]) hx hb dJ7_fill_53178_1 rfl hl (by decide) rfl (fun ls hl => ?_)
  refine lv_aload_n hx hb dJ7_fill_53178_2 rfl (lv_at hl 1 rfl) ?_
  refine va_alen (v := 2048) hx hb hK hP 0 0 rfl rfl rfl dJ7_fill_53178_3 ?_
  refine lv_istore_n (lv' := [(3, .int 2048), (2, .int 0), (0, .ref b0), (1, .int 0)]) hx hb dJ7_fill_53178_4 rfl hl (by decide) rfl (fun ls hl => ?_)
  exact K5 _ 0 b0_c (Nat.le_refl _) (iv_c (by decide)) H locs (hP.sub (ws' := [(b0, .inl (cs 0, 2048, .inl b0_c))]) [0] rfl) (hD.sub (ws' := [(b0, .inl (cs 0, 2048, .inl b0_c))]) [0] (by decide) rfl) hS ls (lv_sub hl [0, 1, 2, 3] rfl)
set_option maxHeartbeats 4000000 in
set_option maxRecDepth 100000 in
theorem c_J9_min_7cf53_32 (l : Launch) (D : va_G) (cs : Nat → ClassId) (kK kV : Nat → Nat) (p0 : Int32) (p1 : Int32) (h_p1 : IV 0 4095 p1) : Met l yJ9_min_7cf53 (hz_w yJ9_min_7cf53 cJ9_min_7cf53 2 (some .int)) ({ frames := 0, cells := 0, slots := 0, locals := 0 }) (va_Pc [.int p0, .int p1] (hz_P D cs kK kV [])) (va_Qi (fun (r : Int32) (_ : Unit) => IV (-2147483648) 4095 r) (fun _ t => True) (fun _ => False)) 0 0 (fun _ => False) := by
  refine hz_ofW (cc := cJ9_min_7cf53) (maxL := 2) (ret := (some .int)) (by decide +kernel) rfl ?_
  intro p e s m args below meth c s₁ B hml hv
  obtain ⟨rfl, hP, hE⟩ := hv
  have hx := B.exec
  have hb := B.bytes
  have hr := B.returns
  have hT : ∀ w ∈ TB, w.before _ s = true := fun w h => atoms_spec (ws := hz_w yJ9_min_7cf53 cJ9_min_7cf53 2 (some .int)) B.pre w (List.mem_cons_of_mem _ h)
  have hown : s.vm.findClass RJ9 = some m.cls := findClass_of_methodNamed B.named
  have hlocks := B.notSynchronized
  clear B
  have hS : va_S (fun _ => False) s.heap s.heap [] := va_S.rf
  have hK := hE.1
  have hl := lv_entry ([.int p0, .int p1]) (n := 2) (Nat.le_of_ble_eq_true rfl)
  rw [lg_entry_eq]
  generalize (lg_sl ([.int p0, .int p1]) ++ List.replicate (2 - (lg_sl ([.int p0, .int p1])).length) Slot.unset).toArray = ls at hl ⊢
  have hl : lv_has ls 2 [(0, .int p0), (1, .int p1)] := hl
  obtain ⟨H, eH⟩ : ∃ z, z = s.heap := ⟨_, rfl⟩
  have hP : va_P D classes [] H := by rw [eH]; exact hP
  have hS : va_S (fun _ => False) s.heap H [] := by rw [eH]; exact hS
  rw [← eH]
  clear eH
  obtain ⟨locs, el⟩ : ∃ z : List Loc, z = [] := ⟨_, rfl⟩
  rw [← el] at hS ⊢
  clear el
  refine lv_iload_n hx hb dJ9_min_7cf53_0 rfl (lv_at hl 0 rfl) ?_
  refine lv_iload_n hx hb dJ9_min_7cf53_1 rfl (lv_at hl 1 rfl) ?_
  refine lv_icmp_gt (tgt := 9) hx hb dJ9_min_7cf53_2 (by decide) (fun c1 => ?_) (fun c1 => ?_)
  · have h2 : IV 1 2147483647 p0 := iv_lt2 c1 h_p1 iv_top (by decide)
    refine lv_iload_n hx hb dJ9_min_7cf53_9 rfl (lv_at hl 1 rfl) ?_
    exact W.iret (v := p1) hx hb hr (fun t ht hW => ⟨⟨p1, (), rfl, (iv_w h_p1 (by decide) (by decide)), trivial⟩, hS.F ht⟩) hS.2.2 dJ9_min_7cf53_10
  · have h3 : IV (-2147483648) 4095 p0 := iv_le1 (Int32.not_lt.mp c1) iv_top h_p1 (by decide)
    refine lv_iload_n hx hb dJ9_min_7cf53_5 rfl (lv_at hl 0 rfl) ?_
    refine lv_goto (tgt := 10) hx hb dJ9_min_7cf53_6 (by decide) ?_
    exact W.iret (v := p0) hx hb hr (fun t ht hW => ⟨⟨p0, (), rfl, h3, trivial⟩, hS.F ht⟩) hS.2.2 dJ9_min_7cf53_10
set_option maxHeartbeats 4000000 in
set_option maxRecDepth 100000 in
theorem c_J7_fill_53178_33 (l : Launch) (D : va_G) (cs : Nat → ClassId) (kK kV : Nat → Nat) (b0 : Nat) (b0_c : Nat → Int32)  (sz : Nat) : Met l yJ7_fill_53178 (hz_w yJ7_fill_53178 cJ7_fill_53178 4 none) ({ frames := 0, cells := 0, slots := 0, locals := 0 }) (va_Pc [.ref b0, .int 0] (hz_C D cs kK kV sz [(b0, .inl (cs 0, 256, .inl b0_c))])) (va_Qv (fun (_ : Unit) => True) (fun _ t => ∃ (o_b0_c : Nat → Int32), va_P D classes [(b0, .inl (cs 0, 256, .inl o_b0_c))] t.heap ∧ va_D (va_A [(b0, .inl (cs 0, 256, .inl b0_c))] sz) [(b0, .inl (cs 0, 256, .inl o_b0_c))]) (va_A [(b0, .inl (cs 0, 256, .inl b0_c))] sz)) 0 0 (va_A [(b0, .inl (cs 0, 256, .inl b0_c))] sz) := by
  refine hz_ofW (cc := cJ7_fill_53178) (maxL := 4) (ret := none) (by decide +kernel) rfl ?_
  intro p e s m args below meth c s₁ B hml hv
  obtain ⟨rfl, hsz, hP, hD0, hE⟩ := hv
  have hx := B.exec
  have hb := B.bytes
  have hr := B.returns
  have hT : ∀ w ∈ TB, w.before _ s = true := fun w h => atoms_spec (ws := hz_w yJ7_fill_53178 cJ7_fill_53178 4 none) B.pre w (List.mem_cons_of_mem _ h)
  have hown : s.vm.findClass RJ7 = some m.cls := findClass_of_methodNamed B.named
  have hlocks := B.notSynchronized
  clear B
  subst hsz
  have hD := hD0.self (sz := s.heap.size)
  generalize hAe : va_A [(b0, .inl (cs 0, 256, .inl b0_c))] s.heap.size = A at hD hE ⊢
  have hA : ∀ q : Nat, s.heap.size ≤ q → A q := fun q h => by rw [← hAe]; exact Or.inr h
  clear hAe hD0
  have hS : va_S A s.heap s.heap [] := va_S.rf
  have hK := hE.1
  have hl := lv_entry ([.ref b0, .int 0]) (n := 4) (Nat.le_of_ble_eq_true rfl)
  rw [lg_entry_eq]
  generalize (lg_sl ([.ref b0, .int 0]) ++ List.replicate (4 - (lg_sl ([.ref b0, .int 0])).length) Slot.unset).toArray = ls at hl ⊢
  have hl : lv_has ls 4 [(0, .ref b0), (1, .int 0)] := hl
  obtain ⟨H, eH⟩ : ∃ z, z = s.heap := ⟨_, rfl⟩
  have hP : va_P D classes [(b0, .inl (cs 0, 256, .inl b0_c))] H := by rw [eH]; exact hP
  have hS : va_S A s.heap H [] := by rw [eH]; exact hS
  rw [← eH]
  clear eH
  obtain ⟨locs, el⟩ : ∃ z : List Loc, z = [] := ⟨_, rfl⟩
  rw [← el] at hS ⊢
  clear el
  have K5 : ∀ (n : Nat) (k5_L_2 : Int32) (k5_C_b0 : Nat → Int32), (256 - k5_L_2.toInt + 1).toNat ≤ n → IV 0 256 k5_L_2 → ∀ (H : Heap) (locs : List Loc), va_P D classes [(b0, .inl (cs 0, 256, .inl k5_C_b0))] H → va_D A [(b0, .inl (cs 0, 256, .inl k5_C_b0))] → va_S A s.heap H locs → ∀ ls : Array Slot, lv_has ls 4 [(3, .int 256), (2, .int k5_L_2), (0, .ref b0), (1, .int 0)] → W p l e (headSpec (hz_w yJ7_fill_53178 cJ7_fill_53178 4 none) ({ frames := 0, cells := 0, slots := 0, locals := 0 })).room s m [.ref b0, .int 0].toArray below meth c H locs 0 0 (MQ below (va_Qv (fun (_ : Unit) => True) (fun _ t => ∃ (o_b0_c : Nat → Int32), va_P D classes [(b0, .inl (cs 0, 256, .inl o_b0_c))] t.heap ∧ va_D A [(b0, .inl (cs 0, 256, .inl o_b0_c))]) A) [.ref b0, .int 0].toArray s 0 0 A) (F0 m 5 ls []) := by
    intro n
    induction n with
    | zero =>
      intro k5_L_2 k5_C_b0 hn q5_0 H locs hP hD hS ls hl
      exact absurd hn (by unfold IV at q5_0; omega)
    | succ n ih5 =>
      intro k5_L_2 k5_C_b0 hn q5_0 H locs hP hD hS ls hl
      refine lv_iload_n hx hb dJ7_fill_53178_5 rfl (lv_at hl 1 rfl) ?_
      refine lv_iload_n hx hb dJ7_fill_53178_6 rfl (lv_at hl 0 rfl) ?_
      refine lv_icmp_ge (tgt := 20) hx hb dJ7_fill_53178_7 (by decide) (fun c1 => ?_) (fun c1 => ?_)
      · have h2 : IV 256 256 k5_L_2 := iv_le2 c1 (iv_c (a := 256) (b := 256) (by decide)) q5_0 (by decide)
        refine W.widen (k := 0) (n := 0) (Nat.le_of_ble_eq_true rfl) (Nat.le_of_ble_eq_true rfl) ?_
        exact W.vret hx hb hr (fun t ht hW => ⟨⟨(), rfl, trivial, k5_C_b0, by rw [ht]; exact hP.sub [0] rfl, hD.sub [0] (by decide) rfl⟩, hS.F ht⟩) hS.2.2 dJ7_fill_53178_20
      · have h3 : IV 0 255 k5_L_2 := iv_lt1 (Int32.not_le.mp c1) q5_0 (iv_c (a := 256) (b := 256) (by decide)) (by decide)
        refine lv_aload_n hx hb dJ7_fill_53178_10 rfl (lv_at hl 2 rfl) ?_
        refine lv_iload_n hx hb dJ7_fill_53178_11 rfl (lv_at hl 1 rfl) ?_
        refine lv_iload_n hx hb dJ7_fill_53178_12 rfl (lv_at hl 3 rfl) ?_
        refine va_iast hx hb hK hP hD hS 0 0 rfl rfl (iv_v h3 (by decide) (by decide)) dJ7_fill_53178_13 (fun H locs hP hD hS => ?_)
        have hP : va_P D classes [(b0, .inl (cs 0, 256, .inl (upd k5_C_b0 (Int32.toNatClampNeg k5_L_2) (0 : Int32))))] H := hP
        have hD : va_D A [(b0, .inl (cs 0, 256, .inl (upd k5_C_b0 (Int32.toNatClampNeg k5_L_2) (0 : Int32))))] := hD
        generalize upd k5_C_b0 (Int32.toNatClampNeg k5_L_2) (0 : Int32) = f4 at hP hD
        obtain ⟨v5, ev5⟩ : ∃ z : Int32, z = k5_L_2 + 1 := ⟨_, rfl⟩
        have hv5 : IV 1 256 v5 := iv_add ev5 h3 (iv_c (a := 1) (b := 1) (by decide)) (by decide) (by decide)
        have dv5 : v5.toInt = k5_L_2.toInt + 1 := iv_addE ev5 h3 (iv_c (a := 1) (b := 1) (by decide)) (by decide) (by decide) (by decide)
        refine lv_iinc (v := v5) (lv' := [(2, .int v5), (3, .int 256), (0, .ref b0), (1, .int 0)]) hx hb dJ7_fill_53178_14 hl (k := 1) rfl (by rw [ev5]; rfl) (by decide) rfl (fun ls hl => ?_)
        refine lv_goto (tgt := 5) hx hb dJ7_fill_53178_17 (by decide) ?_
        exact ih5 v5 f4 (by have h9 := h3; unfold IV at h9; have := dv5; omega) (iv_w hv5 (by decide) (by decide)) H locs (hP.sub (ws' := [(b0, .inl (cs 0, 256, .inl f4))]) [0] rfl) (hD.sub (ws' := [(b0, .inl (cs 0, 256, .inl f4))]) [0] (by decide) rfl) hS ls (lv_sub hl [1, 0, 2, 3] rfl)
  refine lv_iconst (v := 0) hx hb dJ7_fill_53178_0 (by decide) ?_
  refine lv_istore_n (lv' := [(2, .int 0), (0, .ref b0), (1, .int 0)]) hx hb dJ7_fill_53178_1 rfl hl (by decide) rfl (fun ls hl => ?_)
  refine lv_aload_n hx hb dJ7_fill_53178_2 rfl (lv_at hl 1 rfl) ?_
  refine va_alen (v := 256) hx hb hK hP 0 0 rfl rfl rfl dJ7_fill_53178_3 ?_
  refine lv_istore_n (lv' := [(3, .int 256), (2, .int 0), (0, .ref b0), (1, .int 0)]) hx hb dJ7_fill_53178_4 rfl hl (by decide) rfl (fun ls hl => ?_)
  exact K5 _ 0 b0_c (Nat.le_refl _) (iv_c (by decide)) H locs (hP.sub (ws' := [(b0, .inl (cs 0, 256, .inl b0_c))]) [0] rfl) (hD.sub (ws' := [(b0, .inl (cs 0, 256, .inl b0_c))]) [0] (by decide) rfl) hS ls (lv_sub hl [0, 1, 2, 3] rfl)
theorem dJ0_coder_7d493_0 : decode cJ0_coder_7d493 0 = .ok (.getstatic 38, 3) := by decide +kernel
theorem dJ0_coder_7d493_3 : decode cJ0_coder_7d493 3 = .ok (.ifCond .eq 10, 3) := by decide +kernel
theorem dJ0_coder_7d493_6 : decode cJ0_coder_7d493 6 = .ok (.aload_n 0, 1) := by decide +kernel
theorem dJ0_coder_7d493_7 : decode cJ0_coder_7d493 7 = .ok (.getfield 15, 3) := by decide +kernel
theorem dJ0_coder_7d493_10 : decode cJ0_coder_7d493 10 = .ok (.goto 4, 3) := by decide +kernel
theorem dJ0_coder_7d493_14 : decode cJ0_coder_7d493 14 = .ok (.ireturn, 1) := by decide +kernel
set_option maxHeartbeats 4000000 in
set_option maxRecDepth 100000 in
theorem c_J0_coder_7d493_48 (l : Launch) (D : va_G) (cs : Nat → ClassId) (kK kV : Nat → Nat) (k9 : Nat) (hk9 : k9 < 6) : Met l yJ0_coder_7d493 (hz_w yJ0_coder_7d493 cJ0_coder_7d493 1 (some .byte)) ({ frames := 0, cells := 0, slots := 0, locals := 0 }) (va_Pc [.ref (kK k9)] (hz_P D cs kK kV [])) (va_Qi (fun (r : Int32) (_ : Unit) => (r = 0)) (fun _ t => True) (fun _ => False)) 0 0 (fun _ => False) := by
  refine hz_ofW (cc := cJ0_coder_7d493) (maxL := 1) (ret := (some .byte)) (by decide +kernel) rfl ?_
  intro p e s m args below meth c s₁ B hml hv
  obtain ⟨rfl, hP, hE⟩ := hv
  have hx := B.exec
  have hb := B.bytes
  have hr := B.returns
  have hT : ∀ w ∈ TB, w.before _ s = true := fun w h => atoms_spec (ws := hz_w yJ0_coder_7d493 cJ0_coder_7d493 1 (some .byte)) B.pre w (List.mem_cons_of_mem _ h)
  have hown : s.vm.findClass RJ0 = some m.cls := findClass_of_methodNamed B.named
  have hlocks := B.notSynchronized
  clear B
  have hS : va_S (fun _ => False) s.heap s.heap [] := va_S.rf
  have hK := hE.1
  have hl := lv_entry ([.ref (kK k9)]) (n := 1) (Nat.le_of_ble_eq_true rfl)
  rw [lg_entry_eq]
  generalize (lg_sl ([.ref (kK k9)]) ++ List.replicate (1 - (lg_sl ([.ref (kK k9)])).length) Slot.unset).toArray = ls at hl ⊢
  have hl : lv_has ls 1 [(0, .ref (kK k9))] := hl
  obtain ⟨H, eH⟩ : ∃ z, z = s.heap := ⟨_, rfl⟩
  have hP : va_P D classes [] H := by rw [eH]; exact hP
  have hS : va_S (fun _ => False) s.heap H [] := by rw [eH]; exact hS
  rw [← eH]
  clear eH
  obtain ⟨locs, el⟩ : ∃ z : List Loc, z = [] := ⟨_, rfl⟩
  rw [← el] at hS ⊢
  clear el
  refine va_gets (v := .int 1) hx hb hE.2.2.2.2.1 hS hown (hT _ q_215) (fun _ h9 => h9) dJ0_coder_7d493_0 ?_
  refine lv_if_eq (tgt := 13) hx hb dJ0_coder_7d493_3 (by decide) (fun z => absurd z (by decide)) (fun _ => ?_)
  refine lv_aload_n hx hb dJ0_coder_7d493_6 rfl (lv_at hl 0 rfl) ?_
  refine vk_getf (v := .int 0) hx hb (hE.2.2.2.1.1 k9 hk9).2.1 hS hown (hT _ q_214) (fun _ h9 => h9) dJ0_coder_7d493_7 ?_
  refine lv_goto (tgt := 14) hx hb dJ0_coder_7d493_10 (by decide) ?_
  exact W.zret (v := 0) hx hb hr rfl (fun t ht hW => ⟨⟨0, (), rfl, (rfl), trivial⟩, hS.F ht⟩) hS.2.2 dJ0_coder_7d493_14
theorem dJ0_length_8abf5_0 : decode cJ0_length_8abf5 0 = .ok (.aload_n 0, 1) := by decide +kernel
theorem dJ0_length_8abf5_1 : decode cJ0_length_8abf5 1 = .ok (.getfield 9, 3) := by decide +kernel
theorem dJ0_length_8abf5_4 : decode cJ0_length_8abf5 4 = .ok (.arraylength, 1) := by decide +kernel
theorem dJ0_length_8abf5_5 : decode cJ0_length_8abf5 5 = .ok (.aload_n 0, 1) := by decide +kernel
theorem dJ0_length_8abf5_6 : decode cJ0_length_8abf5 6 = .ok (.invokevirtual 335, 3) := by decide +kernel
theorem dJ0_length_8abf5_9 : decode cJ0_length_8abf5 9 = .ok (.ishr, 1) := by decide +kernel
theorem dJ0_length_8abf5_10 : decode cJ0_length_8abf5 10 = .ok (.ireturn, 1) := by decide +kernel
set_option maxHeartbeats 4000000 in
set_option maxRecDepth 100000 in
theorem c_J0_length_8abf5_47 (l : Launch) (D : va_G) (cs : Nat → ClassId) (kK kV : Nat → Nat) (k9 : Nat) (hk9 : k9 < 6) : Met l yJ0_length_8abf5 (hz_w yJ0_length_8abf5 cJ0_length_8abf5 1 (some .int)) ({ frames := 1, cells := 0, slots := 0, locals := 20 }) (va_Pc [.ref (kK k9)] (hz_P D cs kK kV [])) (va_Qi (fun (r : Int32) (_ : Unit) => r = nI (hz_len.getD k9 0)) (fun _ t => True) (fun _ => False)) 0 0 (fun _ => False) := by
  refine hz_ofW (cc := cJ0_length_8abf5) (maxL := 1) (ret := (some .int)) (by decide +kernel) rfl ?_
  intro p e s m args below meth c s₁ B hml hv
  obtain ⟨rfl, hP, hE⟩ := hv
  have hx := B.exec
  have hb := B.bytes
  have hr := B.returns
  have hT : ∀ w ∈ TB, w.before _ s = true := fun w h => atoms_spec (ws := hz_w yJ0_length_8abf5 cJ0_length_8abf5 1 (some .int)) B.pre w (List.mem_cons_of_mem _ h)
  have hown : s.vm.findClass RJ0 = some m.cls := findClass_of_methodNamed B.named
  have hlocks := B.notSynchronized
  clear B
  have hS : va_S (fun _ => False) s.heap s.heap [] := va_S.rf
  have hK := hE.1
  have hl := lv_entry ([.ref (kK k9)]) (n := 1) (Nat.le_of_ble_eq_true rfl)
  rw [lg_entry_eq]
  generalize (lg_sl ([.ref (kK k9)]) ++ List.replicate (1 - (lg_sl ([.ref (kK k9)])).length) Slot.unset).toArray = ls at hl ⊢
  have hl : lv_has ls 1 [(0, .ref (kK k9))] := hl
  obtain ⟨H, eH⟩ : ∃ z, z = s.heap := ⟨_, rfl⟩
  have hP : va_P D classes [] H := by rw [eH]; exact hP
  have hS : va_S (fun _ => False) s.heap H [] := by rw [eH]; exact hS
  rw [← eH]
  clear eH
  obtain ⟨locs, el⟩ : ∃ z : List Loc, z = [] := ⟨_, rfl⟩
  rw [← el] at hS ⊢
  clear el
  refine lv_aload_n hx hb dJ0_length_8abf5_0 rfl (lv_at hl 0 rfl) ?_
  refine vk_getf (v := .ref (kV k9)) hx hb (hE.2.2.2.1.1 k9 hk9).2.2.1 hS hown (hT _ q_213) (fun _ h9 => h9) dJ0_length_8abf5_1 ?_
  refine va_tlen (v := nI (hz_len.getD k9 0)) hx hb (hE.2.2.2.1.1 k9 hk9).2.2.2 hS rfl dJ0_length_8abf5_4 ?_
  have h1 : IV 0 72 (nI (hz_len.getD k9 0)) := hz_len72 _
  refine lv_aload_n hx hb dJ0_length_8abf5_5 rfl (lv_at hl 0 rfl) ?_
  refine va_calli (va_runV (As := []) (rest := [.int (nI (hz_len.getD k9 0))]) ⟨hx, hb, hml, hown, hT⟩ (c_J0_coder_7d493_48 l D cs kK kV k9 hk9) (cwV 0 hT (hz_gV q_1309 q_1310 q_1311 q_636 q_1312) rfl rfl rfl (by decide +kernel) ⟨(Nat.le_of_ble_eq_true rfl), (Nat.le_of_ble_eq_true rfl)⟩) ⟨hz_P.blind, vk_recv hE.2.2.2.1 (i := k9) hk9 hS, hz_P.mk (hP.sub (ws' := []) [] rfl) hE hS⟩ rfl rfl hl.1 rfl (lv_room (Nat.le_of_ble_eq_true rfl)) dJ0_length_8abf5_6 ⟨(Nat.le_of_ble_eq_true rfl), (Nat.le_of_ble_eq_true rfl)⟩) hS (fun _ _ h => h.elim) (fun _ h => h.elim) (fun r2 u t H1 locs ht hvm hw hB hz1 hk1 hS => ?_)
  have hP := hz_keep hP hk1
  clear hk1 hB hz1
  generalize H1 = H at hP hS ⊢
  rcases hw with rfl
  refine lv_ishr hx hb dJ0_length_8abf5_9 ?_
  refine lv_topi (fun v3 ev3 => ?_)
  have hv3 : IV 0 72 v3 := iv_shr ev3 h1 (by decide)
  exact W.iret (v := v3) hx hb hr (fun t ht hW => ⟨⟨v3, (), rfl, (ev3.trans (hz_sh0 _)), trivial⟩, hS.F ht⟩) hS.2.2 dJ0_length_8abf5_10
theorem dJ0_isLatin1_aae02_0 : decode cJ0_isLatin1_aae02 0 = .ok (.getstatic 38, 3) := by decide +kernel
theorem dJ0_isLatin1_aae02_3 : decode cJ0_isLatin1_aae02 3 = .ok (.ifCond .eq 14, 3) := by decide +kernel
theorem dJ0_isLatin1_aae02_6 : decode cJ0_isLatin1_aae02 6 = .ok (.aload_n 0, 1) := by decide +kernel
theorem dJ0_isLatin1_aae02_7 : decode cJ0_isLatin1_aae02 7 = .ok (.getfield 15, 3) := by decide +kernel
theorem dJ0_isLatin1_aae02_10 : decode cJ0_isLatin1_aae02 10 = .ok (.ifCond .ne 7, 3) := by decide +kernel
theorem dJ0_isLatin1_aae02_13 : decode cJ0_isLatin1_aae02 13 = .ok (.iconst 1, 1) := by decide +kernel
theorem dJ0_isLatin1_aae02_14 : decode cJ0_isLatin1_aae02 14 = .ok (.goto 4, 3) := by decide +kernel
theorem dJ0_isLatin1_aae02_18 : decode cJ0_isLatin1_aae02 18 = .ok (.ireturn, 1) := by decide +kernel
set_option maxHeartbeats 4000000 in
set_option maxRecDepth 100000 in
theorem c_J0_isLatin1_aae02_50 (l : Launch) (D : va_G) (cs : Nat → ClassId) (kK kV : Nat → Nat) (k9 : Nat) (hk9 : k9 < 6) : Met l yJ0_isLatin1_aae02 (hz_w yJ0_isLatin1_aae02 cJ0_isLatin1_aae02 1 (some .boolean)) ({ frames := 0, cells := 0, slots := 0, locals := 0 }) (va_Pc [.ref (kK k9)] (hz_P D cs kK kV [])) (va_Qi (fun (r : Int32) (_ : Unit) => (r = 1)) (fun _ t => True) (fun _ => False)) 0 0 (fun _ => False) := by
  refine hz_ofW (cc := cJ0_isLatin1_aae02) (maxL := 1) (ret := (some .boolean)) (by decide +kernel) rfl ?_
  intro p e s m args below meth c s₁ B hml hv
  obtain ⟨rfl, hP, hE⟩ := hv
  have hx := B.exec
  have hb := B.bytes
  have hr := B.returns
  have hT : ∀ w ∈ TB, w.before _ s = true := fun w h => atoms_spec (ws := hz_w yJ0_isLatin1_aae02 cJ0_isLatin1_aae02 1 (some .boolean)) B.pre w (List.mem_cons_of_mem _ h)
  have hown : s.vm.findClass RJ0 = some m.cls := findClass_of_methodNamed B.named
  have hlocks := B.notSynchronized
  clear B
  have hS : va_S (fun _ => False) s.heap s.heap [] := va_S.rf
  have hK := hE.1
  have hl := lv_entry ([.ref (kK k9)]) (n := 1) (Nat.le_of_ble_eq_true rfl)
  rw [lg_entry_eq]
  generalize (lg_sl ([.ref (kK k9)]) ++ List.replicate (1 - (lg_sl ([.ref (kK k9)])).length) Slot.unset).toArray = ls at hl ⊢
  have hl : lv_has ls 1 [(0, .ref (kK k9))] := hl
  obtain ⟨H, eH⟩ : ∃ z, z = s.heap := ⟨_, rfl⟩
  have hP : va_P D classes [] H := by rw [eH]; exact hP
  have hS : va_S (fun _ => False) s.heap H [] := by rw [eH]; exact hS
  rw [← eH]
  clear eH
  obtain ⟨locs, el⟩ : ∃ z : List Loc, z = [] := ⟨_, rfl⟩
  rw [← el] at hS ⊢
  clear el
  refine va_gets (v := .int 1) hx hb hE.2.2.2.2.1 hS hown (hT _ q_215) (fun _ h9 => h9) dJ0_isLatin1_aae02_0 ?_
  refine lv_if_eq (tgt := 17) hx hb dJ0_isLatin1_aae02_3 (by decide) (fun z => absurd z (by decide)) (fun _ => ?_)
  refine lv_aload_n hx hb dJ0_isLatin1_aae02_6 rfl (lv_at hl 0 rfl) ?_
  refine vk_getf (v := .int 0) hx hb (hE.2.2.2.1.1 k9 hk9).2.1 hS hown (hT _ q_214) (fun _ h9 => h9) dJ0_isLatin1_aae02_7 ?_
  refine lv_if_ne (tgt := 17) hx hb dJ0_isLatin1_aae02_10 (by decide) (fun z => absurd (by decide) z) (fun _ => ?_)
  refine lv_iconst (v := 1) hx hb dJ0_isLatin1_aae02_13 (by decide) ?_
  refine lv_goto (tgt := 18) hx hb dJ0_isLatin1_aae02_14 (by decide) ?_
  exact W.zret (v := 1) hx hb hr rfl (fun t ht hW => ⟨⟨1, (), rfl, (rfl), trivial⟩, hS.F ht⟩) hS.2.2 dJ0_isLatin1_aae02_18
theorem dJ3_checkIndex_8e157_0 : decode cJ3_checkIndex_8e157 0 = .ok (.iload_n 0, 1) := by decide +kernel
theorem dJ3_checkIndex_8e157_1 : decode cJ3_checkIndex_8e157 1 = .ok (.ifCond .lt 8, 3) := by decide +kernel
theorem dJ3_checkIndex_8e157_4 : decode cJ3_checkIndex_8e157 4 = .ok (.iload_n 0, 1) := by decide +kernel
theorem dJ3_checkIndex_8e157_5 : decode cJ3_checkIndex_8e157 5 = .ok (.iload_n 1, 1) := by decide +kernel
theorem dJ3_checkIndex_8e157_6 : decode cJ3_checkIndex_8e157 6 = .ok (.if_icmp .lt 10, 3) := by decide +kernel
theorem dJ3_checkIndex_8e157_16 : decode cJ3_checkIndex_8e157 16 = .ok (.iload_n 0, 1) := by decide +kernel
theorem dJ3_checkIndex_8e157_17 : decode cJ3_checkIndex_8e157 17 = .ok (.ireturn, 1) := by decide +kernel
set_option maxHeartbeats 4000000 in
set_option maxRecDepth 100000 in
theorem c_J3_checkIndex_8e157_53 (l : Launch) (D : va_G) (cs : Nat → ClassId) (kK kV : Nat → Nat) (p0 : Int32) (p1 : Int32) (h_p0 : IV 0 71 p0) (h_lt : p0 < p1) : Met l yJ3_checkIndex_8e157 (hz_w yJ3_checkIndex_8e157 cJ3_checkIndex_8e157 3 (some .int)) ({ frames := 0, cells := 0, slots := 0, locals := 0 }) (va_Pc [.int p0, .int p1, .null] (hz_P D cs kK kV [])) (va_Qi (fun (r : Int32) (_ : Unit) => IV 0 71 r) (fun _ t => True) (fun _ => False)) 0 0 (fun _ => False) := by
  refine hz_ofW (cc := cJ3_checkIndex_8e157) (maxL := 3) (ret := (some .int)) (by decide +kernel) rfl ?_
  intro p e s m args below meth c s₁ B hml hv
  obtain ⟨rfl, hP, hE⟩ := hv
  have hx := B.exec
  have hb := B.bytes
  have hr := B.returns
  have hT : ∀ w ∈ TB, w.before _ s = true := fun w h => atoms_spec (ws := hz_w yJ3_checkIndex_8e157 cJ3_checkIndex_8e157 3 (some .int)) B.pre w (List.mem_cons_of_mem _ h)
  have hown : s.vm.findClass RJ3 = some m.cls := findClass_of_methodNamed B.named
  have hlocks := B.notSynchronized
  clear B
  have hS : va_S (fun _ => False) s.heap s.heap [] := va_S.rf
  have hK := hE.1
  have hl := lv_entry ([.int p0, .int p1, .null]) (n := 3) (Nat.le_of_ble_eq_true rfl)
  rw [lg_entry_eq]
  generalize (lg_sl ([.int p0, .int p1, .null]) ++ List.replicate (3 - (lg_sl ([.int p0, .int p1, .null])).length) Slot.unset).toArray = ls at hl ⊢
  have hl : lv_has ls 3 [(0, .int p0), (1, .int p1), (2, .null)] := hl
  obtain ⟨H, eH⟩ : ∃ z, z = s.heap := ⟨_, rfl⟩
  have hP : va_P D classes [] H := by rw [eH]; exact hP
  have hS : va_S (fun _ => False) s.heap H [] := by rw [eH]; exact hS
  rw [← eH]
  clear eH
  obtain ⟨locs, el⟩ : ∃ z : List Loc, z = [] := ⟨_, rfl⟩
  rw [← el] at hS ⊢
  clear el
  refine lv_iload_n hx hb dJ3_checkIndex_8e157_0 rfl (lv_at hl 0 rfl) ?_
  refine lv_if_lt (tgt := 9) hx hb dJ3_checkIndex_8e157_1 (by decide) (fun z => absurd z (iv_ltF h_p0 (iv_c (a := 0) (b := 0) (by decide)) (by decide))) (fun _ => ?_)
  refine lv_iload_n hx hb dJ3_checkIndex_8e157_4 rfl (lv_at hl 0 rfl) ?_
  refine lv_iload_n hx hb dJ3_checkIndex_8e157_5 rfl (lv_at hl 1 rfl) ?_
  refine lv_icmp_lt (tgt := 16) hx hb dJ3_checkIndex_8e157_6 (by decide) (fun _ => ?_) (fun z => absurd h_lt z)
  refine lv_iload_n hx hb dJ3_checkIndex_8e157_16 rfl (lv_at hl 0 rfl) ?_
  exact W.iret (v := p0) hx hb hr (fun t ht hW => ⟨⟨p0, (), rfl, h_p0, trivial⟩, hS.F ht⟩) hS.2.2 dJ3_checkIndex_8e157_17
set_option maxHeartbeats 4000000 in
set_option maxRecDepth 100000 in
theorem c_J3_checkIndex_8e157_54 (l : Launch) (D : va_G) (cs : Nat → ClassId) (kK kV : Nat → Nat) (b2 : Nat) (p0 : Int32) (p1 : Int32) (h_p0 : IV 0 71 p0) (h_lt : p0 < p1) : Met l yJ3_checkIndex_8e157 (hz_w yJ3_checkIndex_8e157 cJ3_checkIndex_8e157 3 (some .int)) ({ frames := 0, cells := 0, slots := 0, locals := 0 }) (va_Pc [.int p0, .int p1, .ref b2] (hz_P D cs kK kV [])) (va_Qi (fun (r : Int32) (_ : Unit) => IV 0 71 r) (fun _ t => True) (fun _ => False)) 0 0 (fun _ => False) := by
  refine hz_ofW (cc := cJ3_checkIndex_8e157) (maxL := 3) (ret := (some .int)) (by decide +kernel) rfl ?_
  intro p e s m args below meth c s₁ B hml hv
  obtain ⟨rfl, hP, hE⟩ := hv
  have hx := B.exec
  have hb := B.bytes
  have hr := B.returns
  have hT : ∀ w ∈ TB, w.before _ s = true := fun w h => atoms_spec (ws := hz_w yJ3_checkIndex_8e157 cJ3_checkIndex_8e157 3 (some .int)) B.pre w (List.mem_cons_of_mem _ h)
  have hown : s.vm.findClass RJ3 = some m.cls := findClass_of_methodNamed B.named
  have hlocks := B.notSynchronized
  clear B
  have hS : va_S (fun _ => False) s.heap s.heap [] := va_S.rf
  have hK := hE.1
  have hl := lv_entry ([.int p0, .int p1, .ref b2]) (n := 3) (Nat.le_of_ble_eq_true rfl)
  rw [lg_entry_eq]
  generalize (lg_sl ([.int p0, .int p1, .ref b2]) ++ List.replicate (3 - (lg_sl ([.int p0, .int p1, .ref b2])).length) Slot.unset).toArray = ls at hl ⊢
  have hl : lv_has ls 3 [(0, .int p0), (1, .int p1), (2, .ref b2)] := hl
  obtain ⟨H, eH⟩ : ∃ z, z = s.heap := ⟨_, rfl⟩
  have hP : va_P D classes [] H := by rw [eH]; exact hP
  have hS : va_S (fun _ => False) s.heap H [] := by rw [eH]; exact hS
  rw [← eH]
  clear eH
  obtain ⟨locs, el⟩ : ∃ z : List Loc, z = [] := ⟨_, rfl⟩
  rw [← el] at hS ⊢
  clear el
  refine lv_iload_n hx hb dJ3_checkIndex_8e157_0 rfl (lv_at hl 0 rfl) ?_
  refine lv_if_lt (tgt := 9) hx hb dJ3_checkIndex_8e157_1 (by decide) (fun z => absurd z (iv_ltF h_p0 (iv_c (a := 0) (b := 0) (by decide)) (by decide))) (fun _ => ?_)
  refine lv_iload_n hx hb dJ3_checkIndex_8e157_4 rfl (lv_at hl 0 rfl) ?_
  refine lv_iload_n hx hb dJ3_checkIndex_8e157_5 rfl (lv_at hl 1 rfl) ?_
  refine lv_icmp_lt (tgt := 16) hx hb dJ3_checkIndex_8e157_6 (by decide) (fun _ => ?_) (fun z => absurd h_lt z)
  refine lv_iload_n hx hb dJ3_checkIndex_8e157_16 rfl (lv_at hl 0 rfl) ?_
  exact W.iret (v := p0) hx hb hr (fun t ht hW => ⟨⟨p0, (), rfl, h_p0, trivial⟩, hS.F ht⟩) hS.2.2 dJ3_checkIndex_8e157_17
theorem dJ0_checkIndex_df160_0 : decode cJ0_checkIndex_df160 0 = .ok (.iload_n 0, 1) := by decide +kernel
theorem dJ0_checkIndex_df160_1 : decode cJ0_checkIndex_df160 1 = .ok (.iload_n 1, 1) := by decide +kernel
theorem dJ0_checkIndex_df160_2 : decode cJ0_checkIndex_df160 2 = .ok (.getstatic 1053, 3) := by decide +kernel
theorem dJ0_checkIndex_df160_5 : decode cJ0_checkIndex_df160 5 = .ok (.invokestatic 1059, 3) := by decide +kernel
theorem dJ0_checkIndex_df160_8 : decode cJ0_checkIndex_df160 8 = .ok (.pop, 1) := by decide +kernel
theorem dJ0_checkIndex_df160_9 : decode cJ0_checkIndex_df160 9 = .ok (.return_, 1) := by decide +kernel
set_option maxHeartbeats 4000000 in
set_option maxRecDepth 100000 in
theorem c_J0_checkIndex_df160_52 (l : Launch) (D : va_G) (cs : Nat → ClassId) (kK kV : Nat → Nat) (p0 : Int32) (p1 : Int32) (h_p0 : IV 0 71 p0) (h_lt : p0 < p1) : Met l yJ0_checkIndex_df160 (hz_w yJ0_checkIndex_df160 cJ0_checkIndex_df160 2 none) ({ frames := 1, cells := 0, slots := 0, locals := 22 }) (va_Pc [.int p0, .int p1] (hz_P D cs kK kV [])) (va_Qv (fun (_ : Unit) => True) (fun _ t => True) (fun _ => False)) 0 0 (fun _ => False) := by
  refine hz_ofW (cc := cJ0_checkIndex_df160) (maxL := 2) (ret := none) (by decide +kernel) rfl ?_
  intro p e s m args below meth c s₁ B hml hv
  obtain ⟨rfl, hP, hE⟩ := hv
  have hx := B.exec
  have hb := B.bytes
  have hr := B.returns
  have hT : ∀ w ∈ TB, w.before _ s = true := fun w h => atoms_spec (ws := hz_w yJ0_checkIndex_df160 cJ0_checkIndex_df160 2 none) B.pre w (List.mem_cons_of_mem _ h)
  have hown : s.vm.findClass RJ0 = some m.cls := findClass_of_methodNamed B.named
  have hlocks := B.notSynchronized
  clear B
  have hS : va_S (fun _ => False) s.heap s.heap [] := va_S.rf
  have hK := hE.1
  have hl := lv_entry ([.int p0, .int p1]) (n := 2) (Nat.le_of_ble_eq_true rfl)
  rw [lg_entry_eq]
  generalize (lg_sl ([.int p0, .int p1]) ++ List.replicate (2 - (lg_sl ([.int p0, .int p1])).length) Slot.unset).toArray = ls at hl ⊢
  have hl : lv_has ls 2 [(0, .int p0), (1, .int p1)] := hl
  obtain ⟨H, eH⟩ : ∃ z, z = s.heap := ⟨_, rfl⟩
  have hP : va_P D classes [] H := by rw [eH]; exact hP
  have hS : va_S (fun _ => False) s.heap H [] := by rw [eH]; exact hS
  rw [← eH]
  clear eH
  obtain ⟨locs, el⟩ : ∃ z : List Loc, z = [] := ⟨_, rfl⟩
  rw [← el] at hS ⊢
  clear el
  refine lv_iload_n hx hb dJ0_checkIndex_df160_0 rfl (lv_at hl 0 rfl) ?_
  refine lv_iload_n hx hb dJ0_checkIndex_df160_1 rfl (lv_at hl 1 rfl) ?_
  rcases hE.2.2.2.2.2.1 with hz | ⟨tq, hz⟩
  · refine va_gets (v := .null) hx hb hz hS hown (hT _ q_216) (fun _ h9 => h9) dJ0_checkIndex_df160_2 ?_
    refine va_calli (va_runS (As := [.int p0, .int p1, .null]) (rest := []) ⟨hx, hb, hml, hown, hT⟩ (c_J3_checkIndex_8e157_53 l D cs kK kV p0 p1 h_p0 h_lt) (va_cwS 3 hT (hz_gS q_1321 q_1322 q_1323 q_1324) rfl rfl rfl (by decide +kernel) ⟨(Nat.le_of_ble_eq_true rfl), (Nat.le_of_ble_eq_true rfl)⟩) ⟨hz_P.blind, hz_P.mk (hP.sub (ws' := []) [] rfl) hE hS⟩ rfl rfl hl.1 rfl (lv_room (Nat.le_of_ble_eq_true rfl)) dJ0_checkIndex_df160_5 ⟨(Nat.le_of_ble_eq_true rfl), (Nat.le_of_ble_eq_true rfl)⟩) hS (fun _ _ h => h.elim) (fun _ h => h.elim) (fun r1 u t H1 locs ht hvm hw hB hz1 hk1 hS => ?_)
    have hP := hz_keep hP hk1
    clear hk1 hB hz1
    generalize H1 = H at hP hS ⊢
    have hw_r1 := hw
    refine lv_pop hx hb dJ0_checkIndex_df160_8 rfl ?_
    exact W.vret hx hb hr (fun t ht hW => ⟨⟨(), rfl, trivial, trivial⟩, hS.F ht⟩) hS.2.2 dJ0_checkIndex_df160_9
  · refine va_gets (v := .ref tq) hx hb hz hS hown (hT _ q_216) (fun _ h9 => h9) dJ0_checkIndex_df160_2 ?_
    refine va_calli (va_runS (As := [.int p0, .int p1, .ref tq]) (rest := []) ⟨hx, hb, hml, hown, hT⟩ (c_J3_checkIndex_8e157_54 l D cs kK kV tq p0 p1 h_p0 h_lt) (va_cwS 3 hT (hz_gS q_1321 q_1322 q_1323 q_1324) rfl rfl rfl (by decide +kernel) ⟨(Nat.le_of_ble_eq_true rfl), (Nat.le_of_ble_eq_true rfl)⟩) ⟨hz_P.blind, hz_P.mk (hP.sub (ws' := []) [] rfl) hE hS⟩ rfl rfl hl.1 rfl (lv_room (Nat.le_of_ble_eq_true rfl)) dJ0_checkIndex_df160_5 ⟨(Nat.le_of_ble_eq_true rfl), (Nat.le_of_ble_eq_true rfl)⟩) hS (fun _ _ h => h.elim) (fun _ h => h.elim) (fun r2 u t H1 locs ht hvm hw hB hz1 hk1 hS => ?_)
    have hP := hz_keep hP hk1
    clear hk1 hB hz1
    generalize H1 = H at hP hS ⊢
    have hw_r2 := hw
    refine lv_pop hx hb dJ0_checkIndex_df160_8 rfl ?_
    exact W.vret hx hb hr (fun t ht hW => ⟨⟨(), rfl, trivial, trivial⟩, hS.F ht⟩) hS.2.2 dJ0_checkIndex_df160_9
theorem dJ1_charAt_3b067_0 : decode cJ1_charAt_3b067 0 = .ok (.iload_n 1, 1) := by decide +kernel
theorem dJ1_charAt_3b067_1 : decode cJ1_charAt_3b067 1 = .ok (.aload_n 0, 1) := by decide +kernel
theorem dJ1_charAt_3b067_2 : decode cJ1_charAt_3b067 2 = .ok (.arraylength, 1) := by decide +kernel
theorem dJ1_charAt_3b067_3 : decode cJ1_charAt_3b067 3 = .ok (.invokestatic 9, 3) := by decide +kernel
theorem dJ1_charAt_3b067_6 : decode cJ1_charAt_3b067 6 = .ok (.aload_n 0, 1) := by decide +kernel
theorem dJ1_charAt_3b067_7 : decode cJ1_charAt_3b067 7 = .ok (.iload_n 1, 1) := by decide +kernel
theorem dJ1_charAt_3b067_8 : decode cJ1_charAt_3b067 8 = .ok (.baload, 1) := by decide +kernel
theorem dJ1_charAt_3b067_9 : decode cJ1_charAt_3b067 9 = .ok (.sipush 255, 3) := by decide +kernel
theorem dJ1_charAt_3b067_12 : decode cJ1_charAt_3b067 12 = .ok (.iand, 1) := by decide +kernel
theorem dJ1_charAt_3b067_13 : decode cJ1_charAt_3b067 13 = .ok (.i2c, 1) := by decide +kernel
theorem dJ1_charAt_3b067_14 : decode cJ1_charAt_3b067 14 = .ok (.ireturn, 1) := by decide +kernel
set_option maxHeartbeats 4000000 in
set_option maxRecDepth 100000 in
theorem c_J1_charAt_3b067_51 (l : Launch) (D : va_G) (cs : Nat → ClassId) (kK kV : Nat → Nat) (k0 : Nat) (p1 : Int32) (hk0 : k0 < 6) (h_p1 : IV 0 71 p1) (h_lt : p1 < nI (hz_len.getD k0 0)) : Met l yJ1_charAt_3b067 (hz_w yJ1_charAt_3b067 cJ1_charAt_3b067 2 (some .char)) ({ frames := 2, cells := 0, slots := 0, locals := 43 }) (va_Pc [.ref (kV k0), .int p1] (hz_P D cs kK kV [])) (va_Qi (fun (r : Int32) (_ : Unit) => narrow .char (.int r) = .int r) (fun _ t => True) (fun _ => False)) 0 0 (fun _ => False) := by
  refine hz_ofW (cc := cJ1_charAt_3b067) (maxL := 2) (ret := (some .char)) (by decide +kernel) rfl ?_
  intro p e s m args below meth c s₁ B hml hv
  obtain ⟨rfl, hP, hE⟩ := hv
  have hx := B.exec
  have hb := B.bytes
  have hr := B.returns
  have hT : ∀ w ∈ TB, w.before _ s = true := fun w h => atoms_spec (ws := hz_w yJ1_charAt_3b067 cJ1_charAt_3b067 2 (some .char)) B.pre w (List.mem_cons_of_mem _ h)
  have hown : s.vm.findClass RJ1 = some m.cls := findClass_of_methodNamed B.named
  have hlocks := B.notSynchronized
  clear B
  have hS : va_S (fun _ => False) s.heap s.heap [] := va_S.rf
  have hK := hE.1
  have hl := lv_entry ([.ref (kV k0), .int p1]) (n := 2) (Nat.le_of_ble_eq_true rfl)
  rw [lg_entry_eq]
  generalize (lg_sl ([.ref (kV k0), .int p1]) ++ List.replicate (2 - (lg_sl ([.ref (kV k0), .int p1])).length) Slot.unset).toArray = ls at hl ⊢
  have hl : lv_has ls 2 [(0, .ref (kV k0)), (1, .int p1)] := hl
  obtain ⟨H, eH⟩ : ∃ z, z = s.heap := ⟨_, rfl⟩
  have hP : va_P D classes [] H := by rw [eH]; exact hP
  have hS : va_S (fun _ => False) s.heap H [] := by rw [eH]; exact hS
  rw [← eH]
  clear eH
  obtain ⟨locs, el⟩ : ∃ z : List Loc, z = [] := ⟨_, rfl⟩
  rw [← el] at hS ⊢
  clear el
  refine lv_iload_n hx hb dJ1_charAt_3b067_0 rfl (lv_at hl 1 rfl) ?_
  refine lv_aload_n hx hb dJ1_charAt_3b067_1 rfl (lv_at hl 0 rfl) ?_
  refine va_tlen (v := nI (hz_len.getD k0 0)) hx hb (hE.2.2.2.1.1 k0 hk0).2.2.2 hS rfl dJ1_charAt_3b067_2 ?_
  have h1 : IV 0 72 (nI (hz_len.getD k0 0)) := hz_len72 _
  refine va_callv (va_runS (As := [.int p1, .int (nI (hz_len.getD k0 0))]) (rest := []) ⟨hx, hb, hml, hown, hT⟩ (c_J0_checkIndex_df160_52 l D cs kK kV p1 (nI (hz_len.getD k0 0)) h_p1 h_lt) (va_cwS 2 hT (hz_gS q_1325 q_1326 q_636 q_1327) rfl rfl rfl (by decide +kernel) ⟨(Nat.le_of_ble_eq_true rfl), (Nat.le_of_ble_eq_true rfl)⟩) ⟨hz_P.blind, hz_P.mk (hP.sub (ws' := []) [] rfl) hE hS⟩ rfl rfl hl.1 rfl (lv_room (Nat.le_of_ble_eq_true rfl)) dJ1_charAt_3b067_3 ⟨(Nat.le_of_ble_eq_true rfl), (Nat.le_of_ble_eq_true rfl)⟩) hS (fun _ _ h => h.elim) (fun _ h => h.elim) (fun u t H1 locs ht hvm hw hB hz1 hk1 hS => ?_)
  have hP := hz_keep hP hk1
  clear hk1 hB hz1
  generalize H1 = H at hP hS ⊢
  refine lv_aload_n hx hb dJ1_charAt_3b067_6 rfl (lv_at hl 0 rfl) ?_
  refine lv_iload_n hx hb dJ1_charAt_3b067_7 rfl (lv_at hl 1 rfl) ?_
  refine va_tb hx hb (hE.2.2.2.1.1 k0 hk0).2.2.2 hS (iv_vn h_p1 (by decide) h_lt hz_l31) rfl dJ1_charAt_3b067_8 ?_
  refine lv_topi (fun v3 ev3 => ?_)
  refine lv_sipush (v := 255) hx hb dJ1_charAt_3b067_9 (by decide) ?_
  refine lv_iand hx hb dJ1_charAt_3b067_12 ?_
  refine lv_topi (fun v4 ev4 => ?_)
  have hv4 : IV 0 255 v4 := iv_and2 ev4 (iv_c (a := 255) (b := 255) (by decide))
  refine lv_i2c (v := (v4.toUInt32 % 65536).toInt32) hx hb dJ1_charAt_3b067_13 rfl ?_
  refine lv_topi (fun v5 ev5 => ?_)
  exact W.zret (v := v5) hx hb hr (by rw [ev5]; exact pk_nc _) (fun t ht hW => ⟨⟨v5, (), rfl, (by rw [ev5]; exact pk_nc _), trivial⟩, hS.F ht⟩) hS.2.2 dJ1_charAt_3b067_14
theorem dJ0_charAt_5068e_0 : decode cJ0_charAt_5068e 0 = .ok (.aload_n 0, 1) := by decide +kernel
theorem dJ0_charAt_5068e_1 : decode cJ0_charAt_5068e 1 = .ok (.invokevirtual 492, 3) := by decide +kernel
theorem dJ0_charAt_5068e_4 : decode cJ0_charAt_5068e 4 = .ok (.ifCond .eq 12, 3) := by decide +kernel
theorem dJ0_charAt_5068e_7 : decode cJ0_charAt_5068e 7 = .ok (.aload_n 0, 1) := by decide +kernel
theorem dJ0_charAt_5068e_8 : decode cJ0_charAt_5068e 8 = .ok (.getfield 9, 3) := by decide +kernel
theorem dJ0_charAt_5068e_11 : decode cJ0_charAt_5068e 11 = .ok (.iload_n 1, 1) := by decide +kernel
theorem dJ0_charAt_5068e_12 : decode cJ0_charAt_5068e 12 = .ok (.invokestatic 495, 3) := by decide +kernel
theorem dJ0_charAt_5068e_15 : decode cJ0_charAt_5068e 15 = .ok (.ireturn, 1) := by decide +kernel
set_option maxHeartbeats 4000000 in
set_option maxRecDepth 100000 in
theorem c_J0_charAt_5068e_49 (l : Launch) (D : va_G) (cs : Nat → ClassId) (kK kV : Nat → Nat) (k9 : Nat) (p0 : Int32) (hk9 : k9 < 6) (h_p0 : IV 0 71 p0) (h_lt : p0 < nI (hz_len.getD k9 0)) : Met l yJ0_charAt_5068e (hz_w yJ0_charAt_5068e cJ0_charAt_5068e 2 (some .char)) ({ frames := 3, cells := 0, slots := 0, locals := 64 }) (va_Pc [.ref (kK k9), .int p0] (hz_P D cs kK kV [])) (va_Qi (fun (r : Int32) (_ : Unit) => narrow .char (.int r) = .int r) (fun _ t => True) (fun _ => False)) 0 0 (fun _ => False) := by
  refine hz_ofW (cc := cJ0_charAt_5068e) (maxL := 2) (ret := (some .char)) (by decide +kernel) rfl ?_
  intro p e s m args below meth c s₁ B hml hv
  obtain ⟨rfl, hP, hE⟩ := hv
  have hx := B.exec
  have hb := B.bytes
  have hr := B.returns
  have hT : ∀ w ∈ TB, w.before _ s = true := fun w h => atoms_spec (ws := hz_w yJ0_charAt_5068e cJ0_charAt_5068e 2 (some .char)) B.pre w (List.mem_cons_of_mem _ h)
  have hown : s.vm.findClass RJ0 = some m.cls := findClass_of_methodNamed B.named
  have hlocks := B.notSynchronized
  clear B
  have hS : va_S (fun _ => False) s.heap s.heap [] := va_S.rf
  have hK := hE.1
  have hl := lv_entry ([.ref (kK k9), .int p0]) (n := 2) (Nat.le_of_ble_eq_true rfl)
  rw [lg_entry_eq]
  generalize (lg_sl ([.ref (kK k9), .int p0]) ++ List.replicate (2 - (lg_sl ([.ref (kK k9), .int p0])).length) Slot.unset).toArray = ls at hl ⊢
  have hl : lv_has ls 2 [(0, .ref (kK k9)), (1, .int p0)] := hl
  obtain ⟨H, eH⟩ : ∃ z, z = s.heap := ⟨_, rfl⟩
  have hP : va_P D classes [] H := by rw [eH]; exact hP
  have hS : va_S (fun _ => False) s.heap H [] := by rw [eH]; exact hS
  rw [← eH]
  clear eH
  obtain ⟨locs, el⟩ : ∃ z : List Loc, z = [] := ⟨_, rfl⟩
  rw [← el] at hS ⊢
  clear el
  refine lv_aload_n hx hb dJ0_charAt_5068e_0 rfl (lv_at hl 0 rfl) ?_
  refine va_calli (va_runV (As := []) (rest := []) ⟨hx, hb, hml, hown, hT⟩ (c_J0_isLatin1_aae02_50 l D cs kK kV k9 hk9) (cwV 0 hT (hz_gV q_1313 q_1314 q_1315 q_636 q_1316) rfl rfl rfl (by decide +kernel) ⟨(Nat.le_of_ble_eq_true rfl), (Nat.le_of_ble_eq_true rfl)⟩) ⟨hz_P.blind, vk_recv hE.2.2.2.1 (i := k9) hk9 hS, hz_P.mk (hP.sub (ws' := []) [] rfl) hE hS⟩ rfl rfl hl.1 rfl (lv_room (Nat.le_of_ble_eq_true rfl)) dJ0_charAt_5068e_1 ⟨(Nat.le_of_ble_eq_true rfl), (Nat.le_of_ble_eq_true rfl)⟩) hS (fun _ _ h => h.elim) (fun _ h => h.elim) (fun r1 u t H1 locs ht hvm hw hB hz1 hk1 hS => ?_)
  have hP := hz_keep hP hk1
  clear hk1 hB hz1
  generalize H1 = H at hP hS ⊢
  rcases hw with rfl
  refine lv_if_eq (tgt := 16) hx hb dJ0_charAt_5068e_4 (by decide) (fun z => absurd z (by decide)) (fun _ => ?_)
  refine lv_aload_n hx hb dJ0_charAt_5068e_7 rfl (lv_at hl 0 rfl) ?_
  refine vk_getf (v := .ref (kV k9)) hx hb (hE.2.2.2.1.1 k9 hk9).2.2.1 hS hown (hT _ q_213) (fun _ h9 => h9) dJ0_charAt_5068e_8 ?_
  refine lv_iload_n hx hb dJ0_charAt_5068e_11 rfl (lv_at hl 1 rfl) ?_
  refine va_calli (va_runS (As := [.ref (kV k9), .int p0]) (rest := []) ⟨hx, hb, hml, hown, hT⟩ (c_J1_charAt_3b067_51 l D cs kK kV k9 p0 hk9 h_p0 h_lt) (va_cwS 2 hT (hz_gS q_1317 q_1318 q_1319 q_1320) rfl rfl rfl (by decide +kernel) ⟨(Nat.le_of_ble_eq_true rfl), (Nat.le_of_ble_eq_true rfl)⟩) ⟨hz_P.blind, hz_P.mk (hP.sub (ws' := []) [] rfl) hE hS⟩ rfl rfl hl.1 rfl (lv_room (Nat.le_of_ble_eq_true rfl)) dJ0_charAt_5068e_12 ⟨(Nat.le_of_ble_eq_true rfl), (Nat.le_of_ble_eq_true rfl)⟩) hS (fun _ _ h => h.elim) (fun _ h => h.elim) (fun r2 u t H1 locs ht hvm hw hB hz1 hk1 hS => ?_)
  have hP := hz_keep hP hk1
  clear hk1 hB hz1
  generalize H1 = H at hP hS ⊢
  have hw_r2 := hw
  exact W.zret (v := r2) hx hb hr hw_r2 (fun t ht hW => ⟨⟨r2, (), rfl, hw_r2, trivial⟩, hS.F ht⟩) hS.2.2 dJ0_charAt_5068e_15
theorem dX7_isSound_0 : decode cX7_isSound 0 = .ok (.aload_n 0, 1) := by decide +kernel
theorem dX7_isSound_1 : decode cX7_isSound 1 = .ok (.getfield 22, 3) := by decide +kernel
theorem dX7_isSound_4 : decode cX7_isSound 4 = .ok (.ifCond .ne 7, 3) := by decide +kernel
theorem dX7_isSound_7 : decode cX7_isSound 7 = .ok (.iconst 1, 1) := by decide +kernel
theorem dX7_isSound_8 : decode cX7_isSound 8 = .ok (.goto 4, 3) := by decide +kernel
theorem dX7_isSound_11 : decode cX7_isSound 11 = .ok (.iconst 0, 1) := by decide +kernel
theorem dX7_isSound_12 : decode cX7_isSound 12 = .ok (.ireturn, 1) := by decide +kernel
set_option maxHeartbeats 4000000 in
set_option maxRecDepth 100000 in
theorem c_X7_isSound (l : Launch) (D : va_G) (cs : Nat → ClassId) (kK kV : Nat → Nat) (a : Nat) (a_bytes : Nat) (a__length : Int32) (a__place : Int32) (a__fault : Int32) (h_a__fault : IV 0 3205 a__fault) : Met l yX7_isSound (hz_w yX7_isSound cX7_isSound 1 (some .boolean)) ({ frames := 0, cells := 0, slots := 0, locals := 0 }) (va_Pc [.ref a] (hz_P D cs kK kV [(a, .inr (7, [.ref a_bytes, .int a__length, .int a__place, .int a__fault]))])) (va_Qi (fun (r : Int32) (_ : Unit) => (r = 0 ∧ IV 1 3205 a__fault) ∨ (r = 1 ∧ IV 0 0 a__fault)) (fun _ t => True) (fun _ => False)) 0 0 (fun _ => False) := by
  refine Met.ofW (cc := cX7_isSound) (maxL := 1) (ret := (some .boolean)) (by decide) rfl ?_
  intro p e s m args below meth c s₁ B hml hv
  obtain ⟨rfl, hP, hE⟩ := hv
  have hx := B.exec
  have hb := B.bytes
  have hr := B.returns
  have hT : ∀ w ∈ TB, w.before _ s = true := fun w h => atoms_spec (ws := hz_w yX7_isSound cX7_isSound 1 (some .boolean)) B.pre w (List.mem_cons_of_mem _ h)
  have hown : s.vm.findClass RX7 = some m.cls := findClass_of_methodNamed B.named
  have hlocks := B.notSynchronized
  clear B
  have hS : va_S (fun _ => False) s.heap s.heap [] := va_S.rf
  have hK := hE.1
  have hl := lv_entry ([.ref a]) (n := 1) (Nat.le_of_ble_eq_true rfl)
  rw [lg_entry_eq]
  generalize (lg_sl ([.ref a]) ++ List.replicate (1 - (lg_sl ([.ref a])).length) Slot.unset).toArray = ls at hl ⊢
  have hl : lv_has ls 1 [(0, .ref a)] := hl
  obtain ⟨H, eH⟩ : ∃ z, z = s.heap := ⟨_, rfl⟩
  have hP : va_P D classes [(a, .inr (7, [.ref a_bytes, .int a__length, .int a__place, .int a__fault]))] H := by rw [eH]; exact hP
  have hS : va_S (fun _ => False) s.heap H [] := by rw [eH]; exact hS
  rw [← eH]
  clear eH
  obtain ⟨locs, el⟩ : ∃ z : List Loc, z = [] := ⟨_, rfl⟩
  rw [← el] at hS ⊢
  clear el
  refine lv_aload_n hx hb dX7_isSound_0 rfl (lv_at hl 0 rfl) ?_
  refine va_get (D := D) (ci := 7) (v := .int a__fault) (C := RX7) (T := TX7) (N := 4) hx hb hT i_X7 hown hK hP 0 rfl rfl 3 (by decide) (hT _ q_130) (fun _ h9 => h9) rfl dX7_isSound_1 ?_
  refine lv_if_ne (tgt := 11) hx hb dX7_isSound_4 (by decide) (fun c1 => ?_) (fun c1 => ?_)
  · have h2 : IV 1 3205 a__fault := iv_neL c1 h_a__fault (by decide)
    refine lv_iconst (v := 0) hx hb dX7_isSound_11 (by decide) ?_
    exact W.zret (v := 0) hx hb hr rfl (fun t ht hW => ⟨⟨0, (), rfl, (Or.inl (⟨rfl, h2⟩)), trivial⟩, hS.F ht⟩) hS.2.2 dX7_isSound_12
  · have h3 : IV 0 0 a__fault := iv_eq1 c1 h_a__fault (iv_c (a := 0) (b := 0) (by decide)) (by decide) (by decide)
    refine lv_iconst (v := 1) hx hb dX7_isSound_7 (by decide) ?_
    refine lv_goto (tgt := 12) hx hb dX7_isSound_8 (by decide) ?_
    exact W.zret (v := 1) hx hb hr rfl (fun t ht hW => ⟨⟨1, (), rfl, (Or.inr ((⟨rfl, h3⟩))), trivial⟩, hS.F ht⟩) hS.2.2 dX7_isSound_12
theorem dX7_rewind_0 : decode cX7_rewind 0 = .ok (.aload_n 0, 1) := by decide +kernel
theorem dX7_rewind_1 : decode cX7_rewind 1 = .ok (.iconst 0, 1) := by decide +kernel
theorem dX7_rewind_2 : decode cX7_rewind 2 = .ok (.putfield 19, 3) := by decide +kernel
theorem dX7_rewind_5 : decode cX7_rewind 5 = .ok (.aload_n 0, 1) := by decide +kernel
theorem dX7_rewind_6 : decode cX7_rewind 6 = .ok (.iconst 0, 1) := by decide +kernel
theorem dX7_rewind_7 : decode cX7_rewind 7 = .ok (.putfield 22, 3) := by decide +kernel
theorem dX7_rewind_10 : decode cX7_rewind 10 = .ok (.return_, 1) := by decide +kernel
set_option maxHeartbeats 4000000 in
set_option maxRecDepth 100000 in
theorem c_X7_rewind (l : Launch) (D : va_G) (cs : Nat → ClassId) (kK kV : Nat → Nat) (a : Nat) (a_bytes : Nat) (a__length : Int32) (a__place : Int32) (a__fault : Int32)  (sz : Nat) : Met l yX7_rewind (hz_w yX7_rewind cX7_rewind 1 none) ({ frames := 0, cells := 0, slots := 0, locals := 0 }) (va_Pc [.ref a] (hz_C D cs kK kV sz [(a, .inr (7, [.ref a_bytes, .int a__length, .int a__place, .int a__fault]))])) (va_Qv (fun (u : (Nat → Int32) × (Nat → Nat → Int32)) => (IV 0 0 (u.1 0))) (fun u t => va_P D classes [(a, .inr (7, [.ref a_bytes, .int a__length, .int 0, .int (u.1 0)]))] t.heap ∧ va_D (va_A [(a, .inr (7, [.ref a_bytes, .int a__length, .int a__place, .int a__fault]))] sz) [(a, .inr (7, [.ref a_bytes, .int a__length, .int 0, .int (u.1 0)]))]) (va_A [(a, .inr (7, [.ref a_bytes, .int a__length, .int a__place, .int a__fault]))] sz)) 0 0 (va_A [(a, .inr (7, [.ref a_bytes, .int a__length, .int a__place, .int a__fault]))] sz) := by
  refine Met.ofW (cc := cX7_rewind) (maxL := 1) (ret := none) (by decide) rfl ?_
  intro p e s m args below meth c s₁ B hml hv
  obtain ⟨rfl, hsz, hP, hD0, hE⟩ := hv
  have hx := B.exec
  have hb := B.bytes
  have hr := B.returns
  have hT : ∀ w ∈ TB, w.before _ s = true := fun w h => atoms_spec (ws := hz_w yX7_rewind cX7_rewind 1 none) B.pre w (List.mem_cons_of_mem _ h)
  have hown : s.vm.findClass RX7 = some m.cls := findClass_of_methodNamed B.named
  have hlocks := B.notSynchronized
  clear B
  subst hsz
  have hD := hD0.self (sz := s.heap.size)
  generalize hAe : va_A [(a, .inr (7, [.ref a_bytes, .int a__length, .int a__place, .int a__fault]))] s.heap.size = A at hD hE ⊢
  have hA : ∀ q : Nat, s.heap.size ≤ q → A q := fun q h => by rw [← hAe]; exact Or.inr h
  clear hAe hD0
  have hS : va_S A s.heap s.heap [] := va_S.rf
  have hK := hE.1
  have hl := lv_entry ([.ref a]) (n := 1) (Nat.le_of_ble_eq_true rfl)
  rw [lg_entry_eq]
  generalize (lg_sl ([.ref a]) ++ List.replicate (1 - (lg_sl ([.ref a])).length) Slot.unset).toArray = ls at hl ⊢
  have hl : lv_has ls 1 [(0, .ref a)] := hl
  obtain ⟨H, eH⟩ : ∃ z, z = s.heap := ⟨_, rfl⟩
  have hP : va_P D classes [(a, .inr (7, [.ref a_bytes, .int a__length, .int a__place, .int a__fault]))] H := by rw [eH]; exact hP
  have hS : va_S A s.heap H [] := by rw [eH]; exact hS
  rw [← eH]
  clear eH
  obtain ⟨locs, el⟩ : ∃ z : List Loc, z = [] := ⟨_, rfl⟩
  rw [← el] at hS ⊢
  clear el
  refine lv_aload_n hx hb dX7_rewind_0 rfl (lv_at hl 0 rfl) ?_
  refine lv_iconst (v := 0) hx hb dX7_rewind_1 (by decide) ?_
  refine va_put (D := D) (ci := 7) (v := .int 0) (ty := .int) (C := RX7) (T := TX7) (N := 4) hx hb hT i_X7 tyX7 tyX7_ok nmX7 hown hK hP hD hS 0 rfl rfl 2 (by decide) (hT _ q_129) (fun _ h9 => h9) rfl (by decide +kernel) rfl rfl (Nat.le_of_ble_eq_true rfl) dX7_rewind_2 (fun H locs hP hD hS => ?_)
  have hP : va_P D classes [(a, .inr (7, [.ref a_bytes, .int a__length, .int 0, .int a__fault]))] H := hP
  have hD : va_D A [(a, .inr (7, [.ref a_bytes, .int a__length, .int 0, .int a__fault]))] := hD
  refine lv_aload_n hx hb dX7_rewind_5 rfl (lv_at hl 0 rfl) ?_
  refine lv_iconst (v := 0) hx hb dX7_rewind_6 (by decide) ?_
  refine va_put (D := D) (ci := 7) (v := .int 0) (ty := .int) (C := RX7) (T := TX7) (N := 4) hx hb hT i_X7 tyX7 tyX7_ok nmX7 hown hK hP hD hS 0 rfl rfl 3 (by decide) (hT _ q_130) (fun _ h9 => h9) rfl (by decide +kernel) rfl rfl (Nat.le_of_ble_eq_true rfl) dX7_rewind_7 (fun H locs hP hD hS => ?_)
  have hP : va_P D classes [(a, .inr (7, [.ref a_bytes, .int a__length, .int 0, .int 0]))] H := hP
  have hD : va_D A [(a, .inr (7, [.ref a_bytes, .int a__length, .int 0, .int 0]))] := hD
  refine W.widen (k := 0) (n := 0) (Nat.le_of_ble_eq_true rfl) (Nat.le_of_ble_eq_true rfl) ?_
  exact W.vret hx hb hr (fun t ht hW => ⟨⟨(fun k => match k with | 0 => 0 | _ => 0, fun _ _ => 0), rfl, (iv_c (by decide)), by rw [ht]; exact hP.sub [0] rfl, hD.sub [0] (by decide) rfl⟩, hS.F ht⟩) hS.2.2 dX7_rewind_10
theorem dX7_fail_0 : decode cX7_fail 0 = .ok (.aload_n 0, 1) := by decide +kernel
theorem dX7_fail_1 : decode cX7_fail 1 = .ok (.getfield 22, 3) := by decide +kernel
theorem dX7_fail_4 : decode cX7_fail 4 = .ok (.ifCond .ne 15, 3) := by decide +kernel
theorem dX7_fail_7 : decode cX7_fail 7 = .ok (.aload_n 0, 1) := by decide +kernel
theorem dX7_fail_8 : decode cX7_fail 8 = .ok (.iconst 1, 1) := by decide +kernel
theorem dX7_fail_9 : decode cX7_fail 9 = .ok (.bipush 8, 2) := by decide +kernel
theorem dX7_fail_11 : decode cX7_fail 11 = .ok (.iload_n 1, 1) := by decide +kernel
theorem dX7_fail_12 : decode cX7_fail 12 = .ok (.imul, 1) := by decide +kernel
theorem dX7_fail_13 : decode cX7_fail 13 = .ok (.iadd, 1) := by decide +kernel
theorem dX7_fail_14 : decode cX7_fail 14 = .ok (.iload_n 2, 1) := by decide +kernel
theorem dX7_fail_15 : decode cX7_fail 15 = .ok (.iadd, 1) := by decide +kernel
theorem dX7_fail_16 : decode cX7_fail 16 = .ok (.putfield 22, 3) := by decide +kernel
theorem dX7_fail_19 : decode cX7_fail 19 = .ok (.return_, 1) := by decide +kernel
set_option maxHeartbeats 4000000 in
set_option maxRecDepth 100000 in
theorem c_X7_fail (l : Launch) (D : va_G) (cs : Nat → ClassId) (kK kV : Nat → Nat) (a : Nat) (p0 : Int32) (p1 : Int32) (a_bytes : Nat) (a__length : Int32) (a__place : Int32) (a__fault : Int32) (h_p0 : IV 0 400 p0) (h_p1 : IV 0 4 p1) (h_a__fault : IV 0 3205 a__fault) (sz : Nat) : Met l yX7_fail (hz_w yX7_fail cX7_fail 3 none) ({ frames := 0, cells := 0, slots := 0, locals := 0 }) (va_Pc [.ref a, .int p0, .int p1] (hz_C D cs kK kV sz [(a, .inr (7, [.ref a_bytes, .int a__length, .int a__place, .int a__fault]))])) (va_Qv (fun (u : (Nat → Int32) × (Nat → Nat → Int32)) => (IV 1 3205 (u.1 0))) (fun u t => va_P D classes [(a, .inr (7, [.ref a_bytes, .int a__length, .int a__place, .int (u.1 0)]))] t.heap ∧ va_D (va_A [(a, .inr (7, [.ref a_bytes, .int a__length, .int a__place, .int a__fault]))] sz) [(a, .inr (7, [.ref a_bytes, .int a__length, .int a__place, .int (u.1 0)]))]) (va_A [(a, .inr (7, [.ref a_bytes, .int a__length, .int a__place, .int a__fault]))] sz)) 0 0 (va_A [(a, .inr (7, [.ref a_bytes, .int a__length, .int a__place, .int a__fault]))] sz) := by
  refine Met.ofW (cc := cX7_fail) (maxL := 3) (ret := none) (by decide) rfl ?_
  intro p e s m args below meth c s₁ B hml hv
  obtain ⟨rfl, hsz, hP, hD0, hE⟩ := hv
  have hx := B.exec
  have hb := B.bytes
  have hr := B.returns
  have hT : ∀ w ∈ TB, w.before _ s = true := fun w h => atoms_spec (ws := hz_w yX7_fail cX7_fail 3 none) B.pre w (List.mem_cons_of_mem _ h)
  have hown : s.vm.findClass RX7 = some m.cls := findClass_of_methodNamed B.named
  have hlocks := B.notSynchronized
  clear B
  subst hsz
  have hD := hD0.self (sz := s.heap.size)
  generalize hAe : va_A [(a, .inr (7, [.ref a_bytes, .int a__length, .int a__place, .int a__fault]))] s.heap.size = A at hD hE ⊢
  have hA : ∀ q : Nat, s.heap.size ≤ q → A q := fun q h => by rw [← hAe]; exact Or.inr h
  clear hAe hD0
  have hS : va_S A s.heap s.heap [] := va_S.rf
  have hK := hE.1
  have hl := lv_entry ([.ref a, .int p0, .int p1]) (n := 3) (Nat.le_of_ble_eq_true rfl)
  rw [lg_entry_eq]
  generalize (lg_sl ([.ref a, .int p0, .int p1]) ++ List.replicate (3 - (lg_sl ([.ref a, .int p0, .int p1])).length) Slot.unset).toArray = ls at hl ⊢
  have hl : lv_has ls 3 [(0, .ref a), (1, .int p0), (2, .int p1)] := hl
  obtain ⟨H, eH⟩ : ∃ z, z = s.heap := ⟨_, rfl⟩
  have hP : va_P D classes [(a, .inr (7, [.ref a_bytes, .int a__length, .int a__place, .int a__fault]))] H := by rw [eH]; exact hP
  have hS : va_S A s.heap H [] := by rw [eH]; exact hS
  rw [← eH]
  clear eH
  obtain ⟨locs, el⟩ : ∃ z : List Loc, z = [] := ⟨_, rfl⟩
  rw [← el] at hS ⊢
  clear el
  refine lv_aload_n hx hb dX7_fail_0 rfl (lv_at hl 0 rfl) ?_
  refine va_get (D := D) (ci := 7) (v := .int a__fault) (C := RX7) (T := TX7) (N := 4) hx hb hT i_X7 hown hK hP 0 rfl rfl 3 (by decide) (hT _ q_130) (fun _ h9 => h9) rfl dX7_fail_1 ?_
  refine lv_if_ne (tgt := 19) hx hb dX7_fail_4 (by decide) (fun c1 => ?_) (fun c1 => ?_)
  · have h2 : IV 1 3205 a__fault := iv_neL c1 h_a__fault (by decide)
    refine W.widen (k := 0) (n := 0) (Nat.le_of_ble_eq_true rfl) (Nat.le_of_ble_eq_true rfl) ?_
    exact W.vret hx hb hr (fun t ht hW => ⟨⟨(fun k => match k with | 0 => a__fault | _ => 0, fun _ _ => 0), rfl, (h2), by rw [ht]; exact hP.sub [0] rfl, hD.sub [0] (by decide) rfl⟩, hS.F ht⟩) hS.2.2 dX7_fail_19
  · have h3 : IV 0 0 a__fault := iv_eq1 c1 h_a__fault (iv_c (a := 0) (b := 0) (by decide)) (by decide) (by decide)
    refine lv_aload_n hx hb dX7_fail_7 rfl (lv_at hl 0 rfl) ?_
    refine lv_iconst (v := 1) hx hb dX7_fail_8 (by decide) ?_
    refine lv_bipush (v := 8) hx hb dX7_fail_9 (by decide) ?_
    refine lv_iload_n hx hb dX7_fail_11 rfl (lv_at hl 1 rfl) ?_
    refine lv_imul hx hb dX7_fail_12 ?_
    refine lv_topi (fun v4 ev4 => ?_)
    have hv4 : IV 0 3200 v4 := iv_mul ev4 (iv_c (a := 8) (b := 8) (by decide)) h_p0 (by decide) (by decide) (by decide) (by decide)
    refine lv_iadd hx hb dX7_fail_13 ?_
    refine lv_topi (fun v5 ev5 => ?_)
    have hv5 : IV 1 3201 v5 := iv_add ev5 (iv_c (a := 1) (b := 1) (by decide)) hv4 (by decide) (by decide)
    refine lv_iload_n hx hb dX7_fail_14 rfl (lv_at hl 2 rfl) ?_
    refine lv_iadd hx hb dX7_fail_15 ?_
    refine lv_topi (fun v6 ev6 => ?_)
    have hv6 : IV 1 3205 v6 := iv_add ev6 hv5 h_p1 (by decide) (by decide)
    refine va_put (D := D) (ci := 7) (v := .int v6) (ty := .int) (C := RX7) (T := TX7) (N := 4) hx hb hT i_X7 tyX7 tyX7_ok nmX7 hown hK hP hD hS 0 rfl rfl 3 (by decide) (hT _ q_130) (fun _ h9 => h9) rfl (by decide +kernel) rfl rfl (Nat.le_of_ble_eq_true rfl) dX7_fail_16 (fun H locs hP hD hS => ?_)
    have hP : va_P D classes [(a, .inr (7, [.ref a_bytes, .int a__length, .int a__place, .int v6]))] H := hP
    have hD : va_D A [(a, .inr (7, [.ref a_bytes, .int a__length, .int a__place, .int v6]))] := hD
    refine W.widen (k := 0) (n := 0) (Nat.le_of_ble_eq_true rfl) (Nat.le_of_ble_eq_true rfl) ?_
    exact W.vret hx hb hr (fun t ht hW => ⟨⟨(fun k => match k with | 0 => v6 | _ => 0, fun _ _ => 0), rfl, (hv6), by rw [ht]; exact hP.sub [0] rfl, hD.sub [0] (by decide) rfl⟩, hS.F ht⟩) hS.2.2 dX7_fail_19
theorem dX7_skipBlanks_0 : decode cX7_skipBlanks 0 = .ok (.aload_n 0, 1) := by decide +kernel
theorem dX7_skipBlanks_1 : decode cX7_skipBlanks 1 = .ok (.getfield 19, 3) := by decide +kernel
theorem dX7_skipBlanks_4 : decode cX7_skipBlanks 4 = .ok (.aload_n 0, 1) := by decide +kernel
theorem dX7_skipBlanks_5 : decode cX7_skipBlanks 5 = .ok (.getfield 15, 3) := by decide +kernel
theorem dX7_skipBlanks_8 : decode cX7_skipBlanks 8 = .ok (.if_icmp .ge 30, 3) := by decide +kernel
theorem dX7_skipBlanks_11 : decode cX7_skipBlanks 11 = .ok (.aload_n 0, 1) := by decide +kernel
theorem dX7_skipBlanks_12 : decode cX7_skipBlanks 12 = .ok (.getfield 9, 3) := by decide +kernel
theorem dX7_skipBlanks_15 : decode cX7_skipBlanks 15 = .ok (.aload_n 0, 1) := by decide +kernel
theorem dX7_skipBlanks_16 : decode cX7_skipBlanks 16 = .ok (.getfield 19, 3) := by decide +kernel
theorem dX7_skipBlanks_19 : decode cX7_skipBlanks 19 = .ok (.iaload, 1) := by decide +kernel
theorem dX7_skipBlanks_20 : decode cX7_skipBlanks 20 = .ok (.bipush 32, 2) := by decide +kernel
theorem dX7_skipBlanks_22 : decode cX7_skipBlanks 22 = .ok (.if_icmp .ne 16, 3) := by decide +kernel
theorem dX7_skipBlanks_25 : decode cX7_skipBlanks 25 = .ok (.aload_n 0, 1) := by decide +kernel
theorem dX7_skipBlanks_26 : decode cX7_skipBlanks 26 = .ok (.dup, 1) := by decide +kernel
theorem dX7_skipBlanks_27 : decode cX7_skipBlanks 27 = .ok (.getfield 19, 3) := by decide +kernel
theorem dX7_skipBlanks_30 : decode cX7_skipBlanks 30 = .ok (.iconst 1, 1) := by decide +kernel
theorem dX7_skipBlanks_31 : decode cX7_skipBlanks 31 = .ok (.iadd, 1) := by decide +kernel
theorem dX7_skipBlanks_32 : decode cX7_skipBlanks 32 = .ok (.putfield 19, 3) := by decide +kernel
theorem dX7_skipBlanks_35 : decode cX7_skipBlanks 35 = .ok (.goto (-35), 3) := by decide +kernel
theorem dX7_skipBlanks_38 : decode cX7_skipBlanks 38 = .ok (.return_, 1) := by decide +kernel
set_option maxHeartbeats 4000000 in
set_option maxRecDepth 100000 in
theorem c_X7_skipBlanks (l : Launch) (D : va_G) (cs : Nat → ClassId) (kK kV : Nat → Nat) (a : Nat) (a_bytes : Nat) (a__length : Int32) (a__place : Int32) (a__fault : Int32) (a_bytes_c : Nat → Int32) (h_a__length : IV 0 400 a__length) (h_a__place : IV 0 400 a__place) (h_a_bytes_c : CI 400 0 255 a_bytes_c) (sz : Nat) : Met l yX7_skipBlanks (hz_w yX7_skipBlanks cX7_skipBlanks 1 none) ({ frames := 0, cells := 0, slots := 0, locals := 0 }) (va_Pc [.ref a] (hz_C D cs kK kV sz [(a, .inr (7, [.ref a_bytes, .int a__length, .int a__place, .int a__fault])), (a_bytes, .inl (cs 0, 400, .inl a_bytes_c))])) (va_Qv (fun (_ : Unit) => True) (fun _ t => ∃ (o_a_2 : Int32), IV 0 400 o_a_2 ∧ va_P D classes [(a, .inr (7, [.ref a_bytes, .int a__length, .int o_a_2, .int a__fault])), (a_bytes, .inl (cs 0, 400, .inl a_bytes_c))] t.heap ∧ va_D (va_A [(a, .inr (7, [.ref a_bytes, .int a__length, .int a__place, .int a__fault])), (a_bytes, .inl (cs 0, 400, .inl a_bytes_c))] sz) [(a, .inr (7, [.ref a_bytes, .int a__length, .int o_a_2, .int a__fault])), (a_bytes, .inl (cs 0, 400, .inl a_bytes_c))]) (va_A [(a, .inr (7, [.ref a_bytes, .int a__length, .int a__place, .int a__fault])), (a_bytes, .inl (cs 0, 400, .inl a_bytes_c))] sz)) 0 0 (va_A [(a, .inr (7, [.ref a_bytes, .int a__length, .int a__place, .int a__fault])), (a_bytes, .inl (cs 0, 400, .inl a_bytes_c))] sz) := by
  refine Met.ofW (cc := cX7_skipBlanks) (maxL := 1) (ret := none) (by decide) rfl ?_
  intro p e s m args below meth c s₁ B hml hv
  obtain ⟨rfl, hsz, hP, hD0, hE⟩ := hv
  have hx := B.exec
  have hb := B.bytes
  have hr := B.returns
  have hT : ∀ w ∈ TB, w.before _ s = true := fun w h => atoms_spec (ws := hz_w yX7_skipBlanks cX7_skipBlanks 1 none) B.pre w (List.mem_cons_of_mem _ h)
  have hown : s.vm.findClass RX7 = some m.cls := findClass_of_methodNamed B.named
  have hlocks := B.notSynchronized
  clear B
  subst hsz
  have hD := hD0.self (sz := s.heap.size)
  generalize hAe : va_A [(a, .inr (7, [.ref a_bytes, .int a__length, .int a__place, .int a__fault])), (a_bytes, .inl (cs 0, 400, .inl a_bytes_c))] s.heap.size = A at hD hE ⊢
  have hA : ∀ q : Nat, s.heap.size ≤ q → A q := fun q h => by rw [← hAe]; exact Or.inr h
  clear hAe hD0
  have hS : va_S A s.heap s.heap [] := va_S.rf
  have hK := hE.1
  have hl := lv_entry ([.ref a]) (n := 1) (Nat.le_of_ble_eq_true rfl)
  rw [lg_entry_eq]
  generalize (lg_sl ([.ref a]) ++ List.replicate (1 - (lg_sl ([.ref a])).length) Slot.unset).toArray = ls at hl ⊢
  have hl : lv_has ls 1 [(0, .ref a)] := hl
  obtain ⟨H, eH⟩ : ∃ z, z = s.heap := ⟨_, rfl⟩
  have hP : va_P D classes [(a, .inr (7, [.ref a_bytes, .int a__length, .int a__place, .int a__fault])), (a_bytes, .inl (cs 0, 400, .inl a_bytes_c))] H := by rw [eH]; exact hP
  have hS : va_S A s.heap H [] := by rw [eH]; exact hS
  rw [← eH]
  clear eH
  obtain ⟨locs, el⟩ : ∃ z : List Loc, z = [] := ⟨_, rfl⟩
  rw [← el] at hS ⊢
  clear el
  have K0 : ∀ (n : Nat) (k0_F_a_2 : Int32), (400 - k0_F_a_2.toInt + 1).toNat ≤ n → IV 0 400 k0_F_a_2 → ∀ (H : Heap) (locs : List Loc), va_P D classes [(a, .inr (7, [.ref a_bytes, .int a__length, .int k0_F_a_2, .int a__fault])), (a_bytes, .inl (cs 0, 400, .inl a_bytes_c))] H → va_D A [(a, .inr (7, [.ref a_bytes, .int a__length, .int k0_F_a_2, .int a__fault])), (a_bytes, .inl (cs 0, 400, .inl a_bytes_c))] → va_S A s.heap H locs → ∀ ls : Array Slot, lv_has ls 1 [(0, .ref a)] → W p l e (headSpec (hz_w yX7_skipBlanks cX7_skipBlanks 1 none) ({ frames := 0, cells := 0, slots := 0, locals := 0 })).room s m [.ref a].toArray below meth c H locs 0 0 (MQ below (va_Qv (fun (_ : Unit) => True) (fun _ t => ∃ (o_a_2 : Int32), IV 0 400 o_a_2 ∧ va_P D classes [(a, .inr (7, [.ref a_bytes, .int a__length, .int o_a_2, .int a__fault])), (a_bytes, .inl (cs 0, 400, .inl a_bytes_c))] t.heap ∧ va_D A [(a, .inr (7, [.ref a_bytes, .int a__length, .int o_a_2, .int a__fault])), (a_bytes, .inl (cs 0, 400, .inl a_bytes_c))]) A) [.ref a].toArray s 0 0 A) (F0 m 0 ls []) := by
    intro n
    induction n with
    | zero =>
      intro k0_F_a_2 hn q0_2 H locs hP hD hS ls hl
      exact absurd hn (by unfold IV at q0_2; omega)
    | succ n ih0 =>
      intro k0_F_a_2 hn q0_2 H locs hP hD hS ls hl
      refine lv_aload_n hx hb dX7_skipBlanks_0 rfl (lv_at hl 0 rfl) ?_
      refine va_get (D := D) (ci := 7) (v := .int k0_F_a_2) (C := RX7) (T := TX7) (N := 4) hx hb hT i_X7 hown hK hP 0 rfl rfl 2 (by decide) (hT _ q_129) (fun _ h9 => h9) rfl dX7_skipBlanks_1 ?_
      refine lv_aload_n hx hb dX7_skipBlanks_4 rfl (lv_at hl 0 rfl) ?_
      refine va_get (D := D) (ci := 7) (v := .int a__length) (C := RX7) (T := TX7) (N := 4) hx hb hT i_X7 hown hK hP 0 rfl rfl 1 (by decide) (hT _ q_128) (fun _ h9 => h9) rfl dX7_skipBlanks_5 ?_
      refine lv_icmp_ge (tgt := 38) hx hb dX7_skipBlanks_8 (by decide) (fun c1 => ?_) (fun c1 => ?_)
      · refine W.widen (k := 0) (n := 0) (Nat.le_of_ble_eq_true rfl) (Nat.le_of_ble_eq_true rfl) ?_
        exact W.vret hx hb hr (fun t ht hW => ⟨⟨(), rfl, trivial, k0_F_a_2, q0_2, by rw [ht]; exact hP.sub [0, 1] rfl, hD.sub [0, 1] (by decide) rfl⟩, hS.F ht⟩) hS.2.2 dX7_skipBlanks_38
      · have h2 : IV 0 399 k0_F_a_2 := iv_lt1 (Int32.not_le.mp c1) q0_2 h_a__length (by decide)
        have h3 : IV 1 400 a__length := iv_lt2 (Int32.not_le.mp c1) q0_2 h_a__length (by decide)
        refine lv_aload_n hx hb dX7_skipBlanks_11 rfl (lv_at hl 0 rfl) ?_
        refine va_get (D := D) (ci := 7) (v := .ref a_bytes) (C := RX7) (T := TX7) (N := 4) hx hb hT i_X7 hown hK hP 0 rfl rfl 0 (by decide) (hT _ q_127) (fun _ h9 => h9) rfl dX7_skipBlanks_12 ?_
        refine lv_aload_n hx hb dX7_skipBlanks_15 rfl (lv_at hl 0 rfl) ?_
        refine va_get (D := D) (ci := 7) (v := .int k0_F_a_2) (C := RX7) (T := TX7) (N := 4) hx hb hT i_X7 hown hK hP 0 rfl rfl 2 (by decide) (hT _ q_129) (fun _ h9 => h9) rfl dX7_skipBlanks_16 ?_
        refine va_iald hx hb hK hP 1 0 rfl rfl (iv_v h2 (by decide) (by decide)) dX7_skipBlanks_19 ?_
        refine lv_topi (fun v4 ev4 => ?_)
        have hv4 : IV 0 255 v4 := iv_ci ev4 h_a_bytes_c (iv_v h2 (by decide) (by decide))
        refine lv_bipush (v := 32) hx hb dX7_skipBlanks_20 (by decide) ?_
        refine lv_icmp_ne (tgt := 38) hx hb dX7_skipBlanks_22 (by decide) (fun c5 => ?_) (fun c5 => ?_)
        · refine W.widen (k := 0) (n := 0) (Nat.le_of_ble_eq_true rfl) (Nat.le_of_ble_eq_true rfl) ?_
          exact W.vret hx hb hr (fun t ht hW => ⟨⟨(), rfl, trivial, k0_F_a_2, (iv_w h2 (by decide) (by decide)), by rw [ht]; exact hP.sub [0, 1] rfl, hD.sub [0, 1] (by decide) rfl⟩, hS.F ht⟩) hS.2.2 dX7_skipBlanks_38
        · have h6 : IV 32 32 v4 := iv_eq1 c5 hv4 (iv_c (a := 32) (b := 32) (by decide)) (by decide) (by decide)
          refine lv_aload_n hx hb dX7_skipBlanks_25 rfl (lv_at hl 0 rfl) ?_
          refine lv_dup hx hb dX7_skipBlanks_26 rfl ?_
          refine va_get (D := D) (ci := 7) (v := .int k0_F_a_2) (C := RX7) (T := TX7) (N := 4) hx hb hT i_X7 hown hK hP 0 rfl rfl 2 (by decide) (hT _ q_129) (fun _ h9 => h9) rfl dX7_skipBlanks_27 ?_
          refine lv_iconst (v := 1) hx hb dX7_skipBlanks_30 (by decide) ?_
          refine lv_iadd hx hb dX7_skipBlanks_31 ?_
          refine lv_topi (fun v7 ev7 => ?_)
          have hv7 : IV 1 400 v7 := iv_add ev7 h2 (iv_c (a := 1) (b := 1) (by decide)) (by decide) (by decide)
          have dv7 : v7.toInt = k0_F_a_2.toInt + 1 := iv_addE ev7 h2 (iv_c (a := 1) (b := 1) (by decide)) (by decide) (by decide) (by decide)
          refine va_put (D := D) (ci := 7) (v := .int v7) (ty := .int) (C := RX7) (T := TX7) (N := 4) hx hb hT i_X7 tyX7 tyX7_ok nmX7 hown hK hP hD hS 0 rfl rfl 2 (by decide) (hT _ q_129) (fun _ h9 => h9) rfl (by decide +kernel) rfl rfl (Nat.le_of_ble_eq_true rfl) dX7_skipBlanks_32 (fun H locs hP hD hS => ?_)
          have hP : va_P D classes [(a, .inr (7, [.ref a_bytes, .int a__length, .int v7, .int a__fault])), (a_bytes, .inl (cs 0, 400, .inl a_bytes_c))] H := hP
          have hD : va_D A [(a, .inr (7, [.ref a_bytes, .int a__length, .int v7, .int a__fault])), (a_bytes, .inl (cs 0, 400, .inl a_bytes_c))] := hD
          refine lv_goto (tgt := 0) hx hb dX7_skipBlanks_35 (by decide) ?_
          exact ih0 v7 (by have h9 := h2; unfold IV at h9; have := dv7; omega) (iv_w hv7 (by decide) (by decide)) H locs (hP.sub (ws' := [(a, .inr (7, [.ref a_bytes, .int a__length, .int v7, .int a__fault])), (a_bytes, .inl (cs 0, 400, .inl a_bytes_c))]) [0, 1] rfl) (hD.sub (ws' := [(a, .inr (7, [.ref a_bytes, .int a__length, .int v7, .int a__fault])), (a_bytes, .inl (cs 0, 400, .inl a_bytes_c))]) [0, 1] (by decide) rfl) hS ls (lv_sub hl [0] rfl)
  exact K0 _ a__place (Nat.le_refl _) h_a__place H locs (hP.sub (ws' := [(a, .inr (7, [.ref a_bytes, .int a__length, .int a__place, .int a__fault])), (a_bytes, .inl (cs 0, 400, .inl a_bytes_c))]) [0, 1] rfl) (hD.sub (ws' := [(a, .inr (7, [.ref a_bytes, .int a__length, .int a__place, .int a__fault])), (a_bytes, .inl (cs 0, 400, .inl a_bytes_c))]) [0, 1] (by decide) rfl) hS ls (lv_sub hl [0] rfl)
theorem dX7_peek_0 : decode cX7_peek 0 = .ok (.aload_n 0, 1) := by decide +kernel
theorem dX7_peek_1 : decode cX7_peek 1 = .ok (.getfield 19, 3) := by decide +kernel
theorem dX7_peek_4 : decode cX7_peek 4 = .ok (.ifCond .lt 26, 3) := by decide +kernel
theorem dX7_peek_7 : decode cX7_peek 7 = .ok (.aload_n 0, 1) := by decide +kernel
theorem dX7_peek_8 : decode cX7_peek 8 = .ok (.getfield 19, 3) := by decide +kernel
theorem dX7_peek_11 : decode cX7_peek 11 = .ok (.aload_n 0, 1) := by decide +kernel
theorem dX7_peek_12 : decode cX7_peek 12 = .ok (.getfield 15, 3) := by decide +kernel
theorem dX7_peek_15 : decode cX7_peek 15 = .ok (.if_icmp .ge 15, 3) := by decide +kernel
theorem dX7_peek_18 : decode cX7_peek 18 = .ok (.aload_n 0, 1) := by decide +kernel
theorem dX7_peek_19 : decode cX7_peek 19 = .ok (.getfield 9, 3) := by decide +kernel
theorem dX7_peek_22 : decode cX7_peek 22 = .ok (.aload_n 0, 1) := by decide +kernel
theorem dX7_peek_23 : decode cX7_peek 23 = .ok (.getfield 19, 3) := by decide +kernel
theorem dX7_peek_26 : decode cX7_peek 26 = .ok (.iaload, 1) := by decide +kernel
theorem dX7_peek_27 : decode cX7_peek 27 = .ok (.goto 4, 3) := by decide +kernel
theorem dX7_peek_30 : decode cX7_peek 30 = .ok (.iconst (-1), 1) := by decide +kernel
theorem dX7_peek_31 : decode cX7_peek 31 = .ok (.ireturn, 1) := by decide +kernel
set_option maxHeartbeats 4000000 in
set_option maxRecDepth 100000 in
theorem c_X7_peek (l : Launch) (D : va_G) (cs : Nat → ClassId) (kK kV : Nat → Nat) (a : Nat) (a_bytes : Nat) (a__length : Int32) (a__place : Int32) (a__fault : Int32) (a_bytes_c : Nat → Int32) (h_a__length : IV 0 400 a__length) (h_a__place : IV 0 400 a__place) (h_a_bytes_c : CI 400 0 255 a_bytes_c) : Met l yX7_peek (hz_w yX7_peek cX7_peek 1 (some .int)) ({ frames := 0, cells := 0, slots := 0, locals := 0 }) (va_Pc [.ref a] (hz_P D cs kK kV [(a, .inr (7, [.ref a_bytes, .int a__length, .int a__place, .int a__fault])), (a_bytes, .inl (cs 0, 400, .inl a_bytes_c))])) (va_Qi (fun (r : Int32) (_ : Unit) => (r = (-1)) ∨ (IV 0 255 r ∧ IV 1 400 a__length ∧ IV 0 399 a__place)) (fun _ t => True) (fun _ => False)) 0 0 (fun _ => False) := by
  refine Met.ofW (cc := cX7_peek) (maxL := 1) (ret := (some .int)) (by decide) rfl ?_
  intro p e s m args below meth c s₁ B hml hv
  obtain ⟨rfl, hP, hE⟩ := hv
  have hx := B.exec
  have hb := B.bytes
  have hr := B.returns
  have hT : ∀ w ∈ TB, w.before _ s = true := fun w h => atoms_spec (ws := hz_w yX7_peek cX7_peek 1 (some .int)) B.pre w (List.mem_cons_of_mem _ h)
  have hown : s.vm.findClass RX7 = some m.cls := findClass_of_methodNamed B.named
  have hlocks := B.notSynchronized
  clear B
  have hS : va_S (fun _ => False) s.heap s.heap [] := va_S.rf
  have hK := hE.1
  have hl := lv_entry ([.ref a]) (n := 1) (Nat.le_of_ble_eq_true rfl)
  rw [lg_entry_eq]
  generalize (lg_sl ([.ref a]) ++ List.replicate (1 - (lg_sl ([.ref a])).length) Slot.unset).toArray = ls at hl ⊢
  have hl : lv_has ls 1 [(0, .ref a)] := hl
  obtain ⟨H, eH⟩ : ∃ z, z = s.heap := ⟨_, rfl⟩
  have hP : va_P D classes [(a, .inr (7, [.ref a_bytes, .int a__length, .int a__place, .int a__fault])), (a_bytes, .inl (cs 0, 400, .inl a_bytes_c))] H := by rw [eH]; exact hP
  have hS : va_S (fun _ => False) s.heap H [] := by rw [eH]; exact hS
  rw [← eH]
  clear eH
  obtain ⟨locs, el⟩ : ∃ z : List Loc, z = [] := ⟨_, rfl⟩
  rw [← el] at hS ⊢
  clear el
  refine lv_aload_n hx hb dX7_peek_0 rfl (lv_at hl 0 rfl) ?_
  refine va_get (D := D) (ci := 7) (v := .int a__place) (C := RX7) (T := TX7) (N := 4) hx hb hT i_X7 hown hK hP 0 rfl rfl 2 (by decide) (hT _ q_129) (fun _ h9 => h9) rfl dX7_peek_1 ?_
  refine lv_if_lt (tgt := 30) hx hb dX7_peek_4 (by decide) (fun z => absurd z (iv_ltF h_a__place (iv_c (a := 0) (b := 0) (by decide)) (by decide))) (fun _ => ?_)
  refine lv_aload_n hx hb dX7_peek_7 rfl (lv_at hl 0 rfl) ?_
  refine va_get (D := D) (ci := 7) (v := .int a__place) (C := RX7) (T := TX7) (N := 4) hx hb hT i_X7 hown hK hP 0 rfl rfl 2 (by decide) (hT _ q_129) (fun _ h9 => h9) rfl dX7_peek_8 ?_
  refine lv_aload_n hx hb dX7_peek_11 rfl (lv_at hl 0 rfl) ?_
  refine va_get (D := D) (ci := 7) (v := .int a__length) (C := RX7) (T := TX7) (N := 4) hx hb hT i_X7 hown hK hP 0 rfl rfl 1 (by decide) (hT _ q_128) (fun _ h9 => h9) rfl dX7_peek_12 ?_
  refine lv_icmp_ge (tgt := 30) hx hb dX7_peek_15 (by decide) (fun c1 => ?_) (fun c1 => ?_)
  · refine lv_iconst (v := (-1)) hx hb dX7_peek_30 (by decide) ?_
    exact W.iret (v := (-1)) hx hb hr (fun t ht hW => ⟨⟨(-1), (), rfl, (Or.inl (rfl)), trivial⟩, hS.F ht⟩) hS.2.2 dX7_peek_31
  · have h2 : IV 0 399 a__place := iv_lt1 (Int32.not_le.mp c1) h_a__place h_a__length (by decide)
    have h3 : IV 1 400 a__length := iv_lt2 (Int32.not_le.mp c1) h_a__place h_a__length (by decide)
    refine lv_aload_n hx hb dX7_peek_18 rfl (lv_at hl 0 rfl) ?_
    refine va_get (D := D) (ci := 7) (v := .ref a_bytes) (C := RX7) (T := TX7) (N := 4) hx hb hT i_X7 hown hK hP 0 rfl rfl 0 (by decide) (hT _ q_127) (fun _ h9 => h9) rfl dX7_peek_19 ?_
    refine lv_aload_n hx hb dX7_peek_22 rfl (lv_at hl 0 rfl) ?_
    refine va_get (D := D) (ci := 7) (v := .int a__place) (C := RX7) (T := TX7) (N := 4) hx hb hT i_X7 hown hK hP 0 rfl rfl 2 (by decide) (hT _ q_129) (fun _ h9 => h9) rfl dX7_peek_23 ?_
    refine va_iald hx hb hK hP 1 0 rfl rfl (iv_v h2 (by decide) (by decide)) dX7_peek_26 ?_
    refine lv_topi (fun v4 ev4 => ?_)
    have hv4 : IV 0 255 v4 := iv_ci ev4 h_a_bytes_c (iv_v h2 (by decide) (by decide))
    refine lv_goto (tgt := 31) hx hb dX7_peek_27 (by decide) ?_
    exact W.iret (v := v4) hx hb hr (fun t ht hW => ⟨⟨v4, (), rfl, (Or.inr ((⟨hv4, h3, h2⟩))), trivial⟩, hS.F ht⟩) hS.2.2 dX7_peek_31
theorem dX7_take_0 : decode cX7_take 0 = .ok (.aload_n 0, 1) := by decide +kernel
theorem dX7_take_1 : decode cX7_take 1 = .ok (.invokevirtual 25, 3) := by decide +kernel
theorem dX7_take_4 : decode cX7_take 4 = .ok (.iload_n 1, 1) := by decide +kernel
theorem dX7_take_5 : decode cX7_take 5 = .ok (.if_icmp .eq 5, 3) := by decide +kernel
theorem dX7_take_8 : decode cX7_take 8 = .ok (.iconst 0, 1) := by decide +kernel
theorem dX7_take_9 : decode cX7_take 9 = .ok (.ireturn, 1) := by decide +kernel
theorem dX7_take_10 : decode cX7_take 10 = .ok (.aload_n 0, 1) := by decide +kernel
theorem dX7_take_11 : decode cX7_take 11 = .ok (.dup, 1) := by decide +kernel
theorem dX7_take_12 : decode cX7_take 12 = .ok (.getfield 19, 3) := by decide +kernel
theorem dX7_take_15 : decode cX7_take 15 = .ok (.iconst 1, 1) := by decide +kernel
theorem dX7_take_16 : decode cX7_take 16 = .ok (.iadd, 1) := by decide +kernel
theorem dX7_take_17 : decode cX7_take 17 = .ok (.putfield 19, 3) := by decide +kernel
theorem dX7_take_20 : decode cX7_take 20 = .ok (.iconst 1, 1) := by decide +kernel
theorem dX7_take_21 : decode cX7_take 21 = .ok (.ireturn, 1) := by decide +kernel
set_option maxHeartbeats 4000000 in
set_option maxRecDepth 100000 in
theorem c_X7_take (l : Launch) (D : va_G) (cs : Nat → ClassId) (kK kV : Nat → Nat) (a : Nat) (p0 : Int32) (a_bytes : Nat) (a__length : Int32) (a__place : Int32) (a__fault : Int32) (a_bytes_c : Nat → Int32) (h_p0 : IV 0 65535 p0) (h_a__length : IV 0 400 a__length) (h_a__place : IV 0 400 a__place) (h_a_bytes_c : CI 400 0 255 a_bytes_c) (sz : Nat) : Met l yX7_take (hz_w yX7_take cX7_take 2 (some .boolean)) ({ frames := 1, cells := 0, slots := 0, locals := 20 }) (va_Pc [.ref a, .int p0] (hz_C D cs kK kV sz [(a, .inr (7, [.ref a_bytes, .int a__length, .int a__place, .int a__fault])), (a_bytes, .inl (cs 0, 400, .inl a_bytes_c))])) (va_Qi (fun (r : Int32) (_ : Unit) => (r = 0) ∨ (r = 1 ∧ IV 1 400 a__length ∧ IV 0 399 a__place ∧ IV 0 255 p0)) (fun _ t => ∃ (o_a_2 : Int32), IV 0 400 o_a_2 ∧ va_P D classes [(a, .inr (7, [.ref a_bytes, .int a__length, .int o_a_2, .int a__fault])), (a_bytes, .inl (cs 0, 400, .inl a_bytes_c))] t.heap ∧ va_D (va_A [(a, .inr (7, [.ref a_bytes, .int a__length, .int a__place, .int a__fault])), (a_bytes, .inl (cs 0, 400, .inl a_bytes_c))] sz) [(a, .inr (7, [.ref a_bytes, .int a__length, .int o_a_2, .int a__fault])), (a_bytes, .inl (cs 0, 400, .inl a_bytes_c))]) (va_A [(a, .inr (7, [.ref a_bytes, .int a__length, .int a__place, .int a__fault])), (a_bytes, .inl (cs 0, 400, .inl a_bytes_c))] sz)) 0 0 (va_A [(a, .inr (7, [.ref a_bytes, .int a__length, .int a__place, .int a__fault])), (a_bytes, .inl (cs 0, 400, .inl a_bytes_c))] sz) := by
  refine Met.ofW (cc := cX7_take) (maxL := 2) (ret := (some .boolean)) (by decide) rfl ?_
  intro p e s m args below meth c s₁ B hml hv
  obtain ⟨rfl, hsz, hP, hD0, hE⟩ := hv
  have hx := B.exec
  have hb := B.bytes
  have hr := B.returns
  have hT : ∀ w ∈ TB, w.before _ s = true := fun w h => atoms_spec (ws := hz_w yX7_take cX7_take 2 (some .boolean)) B.pre w (List.mem_cons_of_mem _ h)
  have hown : s.vm.findClass RX7 = some m.cls := findClass_of_methodNamed B.named
  have hlocks := B.notSynchronized
  clear B
  subst hsz
  have hD := hD0.self (sz := s.heap.size)
  generalize hAe : va_A [(a, .inr (7, [.ref a_bytes, .int a__length, .int a__place, .int a__fault])), (a_bytes, .inl (cs 0, 400, .inl a_bytes_c))] s.heap.size = A at hD hE ⊢
  have hA : ∀ q : Nat, s.heap.size ≤ q → A q := fun q h => by rw [← hAe]; exact Or.inr h
  clear hAe hD0
  have hS : va_S A s.heap s.heap [] := va_S.rf
  have hK := hE.1
  have hl := lv_entry ([.ref a, .int p0]) (n := 2) (Nat.le_of_ble_eq_true rfl)
  rw [lg_entry_eq]
  generalize (lg_sl ([.ref a, .int p0]) ++ List.replicate (2 - (lg_sl ([.ref a, .int p0])).length) Slot.unset).toArray = ls at hl ⊢
  have hl : lv_has ls 2 [(0, .ref a), (1, .int p0)] := hl
  obtain ⟨H, eH⟩ : ∃ z, z = s.heap := ⟨_, rfl⟩
  have hP : va_P D classes [(a, .inr (7, [.ref a_bytes, .int a__length, .int a__place, .int a__fault])), (a_bytes, .inl (cs 0, 400, .inl a_bytes_c))] H := by rw [eH]; exact hP
  have hS : va_S A s.heap H [] := by rw [eH]; exact hS
  rw [← eH]
  clear eH
  obtain ⟨locs, el⟩ : ∃ z : List Loc, z = [] := ⟨_, rfl⟩
  rw [← el] at hS ⊢
  clear el
  refine lv_aload_n hx hb dX7_take_0 rfl (lv_at hl 0 rfl) ?_
  refine va_calli (va_runV (As := []) (rest := []) ⟨hx, hb, hml, hown, hT⟩ (c_X7_peek l D cs kK kV a a_bytes a__length a__place a__fault a_bytes_c h_a__length h_a__place h_a_bytes_c) (cwV 0 hT (hz_gV q_627 q_628 q_629 q_221 q_630) rfl rfl rfl (by decide +kernel) ⟨(Nat.le_of_ble_eq_true rfl), (Nat.le_of_ble_eq_true rfl)⟩) ⟨hz_P.blind, va_recv hK hP (ci := 7) (q0 := 0) rfl rfl, hz_P.mk (hP.sub (ws' := [(a, .inr (7, [.ref a_bytes, .int a__length, .int a__place, .int a__fault])), (a_bytes, .inl (cs 0, 400, .inl a_bytes_c))]) [0,1] rfl) hE hS⟩ rfl rfl hl.1 rfl (lv_room (Nat.le_of_ble_eq_true rfl)) dX7_take_1 ⟨(Nat.le_of_ble_eq_true rfl), (Nat.le_of_ble_eq_true rfl)⟩) hS (fun _ _ h => h.elim) (fun _ h => h.elim) (fun r1 u t H1 locs ht hvm hw hB hz1 hk1 hS => ?_)
  have hP := hz_keep hP hk1
  clear hk1 hB hz1
  generalize H1 = H at hP hS ⊢
  rcases hw with rfl | ⟨h2, h3, h4⟩
  · refine lv_iload_n hx hb dX7_take_4 rfl (lv_at hl 1 rfl) ?_
    refine lv_icmp_eq (tgt := 10) hx hb dX7_take_5 (by decide) (fun z => absurd z (iv_eqF (iv_c (a := (-1)) (b := (-1)) (by decide)) h_p0 (by decide))) (fun _ => ?_)
    refine lv_iconst (v := 0) hx hb dX7_take_8 (by decide) ?_
    refine W.widen (k := 0) (n := 0) (Nat.le_of_ble_eq_true rfl) (Nat.le_of_ble_eq_true rfl) ?_
    exact W.zret (v := 0) hx hb hr rfl (fun t ht hW => ⟨⟨0, (), rfl, (Or.inl (rfl)), a__place, h_a__place, by rw [ht]; exact hP.sub [0, 1] rfl, hD.sub [0, 1] (by decide) rfl⟩, hS.F ht⟩) hS.2.2 dX7_take_9
  · refine lv_iload_n hx hb dX7_take_4 rfl (lv_at hl 1 rfl) ?_
    refine lv_icmp_eq (tgt := 10) hx hb dX7_take_5 (by decide) (fun c5 => ?_) (fun c5 => ?_)
    · have h6 : IV 0 255 p0 := iv_eq2 c5 h2 h_p0 (by decide) (by decide)
      refine lv_aload_n hx hb dX7_take_10 rfl (lv_at hl 0 rfl) ?_
      refine lv_dup hx hb dX7_take_11 rfl ?_
      refine va_get (D := D) (ci := 7) (v := .int a__place) (C := RX7) (T := TX7) (N := 4) hx hb hT i_X7 hown hK hP 0 rfl rfl 2 (by decide) (hT _ q_129) (fun _ h9 => h9) rfl dX7_take_12 ?_
      refine lv_iconst (v := 1) hx hb dX7_take_15 (by decide) ?_
      refine lv_iadd hx hb dX7_take_16 ?_
      refine lv_topi (fun v7 ev7 => ?_)
      have hv7 : IV 1 400 v7 := iv_add ev7 h4 (iv_c (a := 1) (b := 1) (by decide)) (by decide) (by decide)
      have dv7 : v7.toInt = a__place.toInt + 1 := iv_addE ev7 h4 (iv_c (a := 1) (b := 1) (by decide)) (by decide) (by decide) (by decide)
      refine va_put (D := D) (ci := 7) (v := .int v7) (ty := .int) (C := RX7) (T := TX7) (N := 4) hx hb hT i_X7 tyX7 tyX7_ok nmX7 hown hK hP hD hS 0 rfl rfl 2 (by decide) (hT _ q_129) (fun _ h9 => h9) rfl (by decide +kernel) rfl rfl (Nat.le_of_ble_eq_true rfl) dX7_take_17 (fun H locs hP hD hS => ?_)
      have hP : va_P D classes [(a, .inr (7, [.ref a_bytes, .int a__length, .int v7, .int a__fault])), (a_bytes, .inl (cs 0, 400, .inl a_bytes_c))] H := hP
      have hD : va_D A [(a, .inr (7, [.ref a_bytes, .int a__length, .int v7, .int a__fault])), (a_bytes, .inl (cs 0, 400, .inl a_bytes_c))] := hD
      refine lv_iconst (v := 1) hx hb dX7_take_20 (by decide) ?_
      refine W.widen (k := 0) (n := 0) (Nat.le_of_ble_eq_true rfl) (Nat.le_of_ble_eq_true rfl) ?_
      exact W.zret (v := 1) hx hb hr rfl (fun t ht hW => ⟨⟨1, (), rfl, (Or.inr ((⟨rfl, h3, h4, h6⟩))), v7, (iv_w hv7 (by decide) (by decide)), by rw [ht]; exact hP.sub [0, 1] rfl, hD.sub [0, 1] (by decide) rfl⟩, hS.F ht⟩) hS.2.2 dX7_take_21
    · refine lv_iconst (v := 0) hx hb dX7_take_8 (by decide) ?_
      refine W.widen (k := 0) (n := 0) (Nat.le_of_ble_eq_true rfl) (Nat.le_of_ble_eq_true rfl) ?_
      exact W.zret (v := 0) hx hb hr rfl (fun t ht hW => ⟨⟨0, (), rfl, (Or.inl (rfl)), a__place, (iv_w h4 (by decide) (by decide)), by rw [ht]; exact hP.sub [0, 1] rfl, hD.sub [0, 1] (by decide) rfl⟩, hS.F ht⟩) hS.2.2 dX7_take_9
theorem dX7_takeNextClause_0 : decode cX7_takeNextClause 0 = .ok (.aload_n 0, 1) := by decide +kernel
theorem dX7_takeNextClause_1 : decode cX7_takeNextClause 1 = .ok (.invokevirtual 29, 3) := by decide +kernel
theorem dX7_takeNextClause_4 : decode cX7_takeNextClause 4 = .ok (.aload_n 0, 1) := by decide +kernel
theorem dX7_takeNextClause_5 : decode cX7_takeNextClause 5 = .ok (.bipush 59, 2) := by decide +kernel
theorem dX7_takeNextClause_7 : decode cX7_takeNextClause 7 = .ok (.invokevirtual 32, 3) := by decide +kernel
theorem dX7_takeNextClause_10 : decode cX7_takeNextClause 10 = .ok (.ifCond .eq 5, 3) := by decide +kernel
theorem dX7_takeNextClause_13 : decode cX7_takeNextClause 13 = .ok (.iconst 1, 1) := by decide +kernel
theorem dX7_takeNextClause_14 : decode cX7_takeNextClause 14 = .ok (.ireturn, 1) := by decide +kernel
theorem dX7_takeNextClause_15 : decode cX7_takeNextClause 15 = .ok (.aload_n 0, 1) := by decide +kernel
theorem dX7_takeNextClause_16 : decode cX7_takeNextClause 16 = .ok (.getfield 19, 3) := by decide +kernel
theorem dX7_takeNextClause_19 : decode cX7_takeNextClause 19 = .ok (.aload_n 0, 1) := by decide +kernel
theorem dX7_takeNextClause_20 : decode cX7_takeNextClause 20 = .ok (.getfield 15, 3) := by decide +kernel
theorem dX7_takeNextClause_23 : decode cX7_takeNextClause 23 = .ok (.if_icmp .ge 12, 3) := by decide +kernel
theorem dX7_takeNextClause_26 : decode cX7_takeNextClause 26 = .ok (.aload_n 0, 1) := by decide +kernel
theorem dX7_takeNextClause_27 : decode cX7_takeNextClause 27 = .ok (.aload_n 0, 1) := by decide +kernel
theorem dX7_takeNextClause_28 : decode cX7_takeNextClause 28 = .ok (.getfield 19, 3) := by decide +kernel
theorem dX7_takeNextClause_31 : decode cX7_takeNextClause 31 = .ok (.iconst 0, 1) := by decide +kernel
theorem dX7_takeNextClause_32 : decode cX7_takeNextClause 32 = .ok (.invokevirtual 36, 3) := by decide +kernel
theorem dX7_takeNextClause_35 : decode cX7_takeNextClause 35 = .ok (.iconst 0, 1) := by decide +kernel
theorem dX7_takeNextClause_36 : decode cX7_takeNextClause 36 = .ok (.ireturn, 1) := by decide +kernel
set_option maxHeartbeats 4000000 in
set_option maxRecDepth 100000 in
theorem c_X7_takeNextClause (l : Launch) (D : va_G) (cs : Nat → ClassId) (kK kV : Nat → Nat) (a : Nat) (a_bytes : Nat) (a__length : Int32) (a__place : Int32) (a__fault : Int32) (a_bytes_c : Nat → Int32) (h_a__length : IV 0 400 a__length) (h_a__place : IV 0 400 a__place) (h_a__fault : IV 0 3205 a__fault) (h_a_bytes_c : CI 400 0 255 a_bytes_c) (sz : Nat) : Met l yX7_takeNextClause (hz_w yX7_takeNextClause cX7_takeNextClause 1 (some .boolean)) ({ frames := 2, cells := 0, slots := 0, locals := 41 }) (va_Pc [.ref a] (hz_C D cs kK kV sz [(a, .inr (7, [.ref a_bytes, .int a__length, .int a__place, .int a__fault])), (a_bytes, .inl (cs 0, 400, .inl a_bytes_c))])) (va_Qi (fun (r : Int32) (u : (Nat → Int32) × (Nat → Nat → Int32)) => (r = 0 ∧ IV 0 3205 (u.1 0) ∧ IV 0 400 (u.1 1)) ∨ (r = 0 ∧ IV 1 3205 (u.1 0) ∧ IV 1 400 a__length ∧ IV 0 399 (u.1 1)) ∨ (r = 1 ∧ IV 0 3205 (u.1 0) ∧ IV 1 400 a__length ∧ IV 0 400 (u.1 1))) (fun u t => va_P D classes [(a, .inr (7, [.ref a_bytes, .int a__length, .int (u.1 1), .int (u.1 0)])), (a_bytes, .inl (cs 0, 400, .inl a_bytes_c))] t.heap ∧ va_D (va_A [(a, .inr (7, [.ref a_bytes, .int a__length, .int a__place, .int a__fault])), (a_bytes, .inl (cs 0, 400, .inl a_bytes_c))] sz) [(a, .inr (7, [.ref a_bytes, .int a__length, .int (u.1 1), .int (u.1 0)])), (a_bytes, .inl (cs 0, 400, .inl a_bytes_c))]) (va_A [(a, .inr (7, [.ref a_bytes, .int a__length, .int a__place, .int a__fault])), (a_bytes, .inl (cs 0, 400, .inl a_bytes_c))] sz)) 0 0 (va_A [(a, .inr (7, [.ref a_bytes, .int a__length, .int a__place, .int a__fault])), (a_bytes, .inl (cs 0, 400, .inl a_bytes_c))] sz) := by
  refine Met.ofW (cc := cX7_takeNextClause) (maxL := 1) (ret := (some .boolean)) (by decide) rfl ?_
  intro p e s m args below meth c s₁ B hml hv
  obtain ⟨rfl, hsz, hP, hD0, hE⟩ := hv
  have hx := B.exec
  have hb := B.bytes
  have hr := B.returns
  have hT : ∀ w ∈ TB, w.before _ s = true := fun w h => atoms_spec (ws := hz_w yX7_takeNextClause cX7_takeNextClause 1 (some .boolean)) B.pre w (List.mem_cons_of_mem _ h)
  have hown : s.vm.findClass RX7 = some m.cls := findClass_of_methodNamed B.named
  have hlocks := B.notSynchronized
  clear B
  subst hsz
  have hD := hD0.self (sz := s.heap.size)
  generalize hAe : va_A [(a, .inr (7, [.ref a_bytes, .int a__length, .int a__place, .int a__fault])), (a_bytes, .inl (cs 0, 400, .inl a_bytes_c))] s.heap.size = A at hD hE ⊢
  have hA : ∀ q : Nat, s.heap.size ≤ q → A q := fun q h => by rw [← hAe]; exact Or.inr h
  clear hAe hD0
  have hS : va_S A s.heap s.heap [] := va_S.rf
  have hK := hE.1
  have hl := lv_entry ([.ref a]) (n := 1) (Nat.le_of_ble_eq_true rfl)
  rw [lg_entry_eq]
  generalize (lg_sl ([.ref a]) ++ List.replicate (1 - (lg_sl ([.ref a])).length) Slot.unset).toArray = ls at hl ⊢
  have hl : lv_has ls 1 [(0, .ref a)] := hl
  obtain ⟨H, eH⟩ : ∃ z, z = s.heap := ⟨_, rfl⟩
  have hP : va_P D classes [(a, .inr (7, [.ref a_bytes, .int a__length, .int a__place, .int a__fault])), (a_bytes, .inl (cs 0, 400, .inl a_bytes_c))] H := by rw [eH]; exact hP
  have hS : va_S A s.heap H [] := by rw [eH]; exact hS
  rw [← eH]
  clear eH
  obtain ⟨locs, el⟩ : ∃ z : List Loc, z = [] := ⟨_, rfl⟩
  rw [← el] at hS ⊢
  clear el
  refine lv_aload_n hx hb dX7_takeNextClause_0 rfl (lv_at hl 0 rfl) ?_
  have hFc := va_free (wc := [(a, .inr (7, [.ref a_bytes, .int a__length, .int a__place, .int a__fault])), (a_bytes, .inl (cs 0, 400, .inl a_bytes_c))]) hD hS hA [0,1] rfl
  refine va_callv (va_runV (As := []) (rest := []) ⟨hx, hb, hml, hown, hT⟩ (c_X7_skipBlanks l D cs kK kV a a_bytes a__length a__place a__fault a_bytes_c h_a__length h_a__place h_a_bytes_c H.size) (cwV 0 hT (hz_gV q_631 q_437 q_438 q_221 q_439) rfl rfl rfl (by decide +kernel) ⟨(Nat.le_of_ble_eq_true rfl), (Nat.le_of_ble_eq_true rfl)⟩) ⟨hz_C.blind, va_recv hK hP (ci := 7) (q0 := 0) rfl rfl, hz_C.mk (hP.sub (ws' := [(a, .inr (7, [.ref a_bytes, .int a__length, .int a__place, .int a__fault])), (a_bytes, .inl (cs 0, 400, .inl a_bytes_c))]) [0,1] rfl) (hD.sub (ws' := [(a, .inr (7, [.ref a_bytes, .int a__length, .int a__place, .int a__fault])), (a_bytes, .inl (cs 0, 400, .inl a_bytes_c))]) [0,1] (by decide) rfl) hE hS hFc⟩ rfl rfl hl.1 rfl (lv_room (Nat.le_of_ble_eq_true rfl)) dX7_takeNextClause_1 ⟨(Nat.le_of_ble_eq_true rfl), (Nat.le_of_ble_eq_true rfl)⟩) hS (fun q _ h => hFc q h) hFc (fun u t H1 locs ht hvm hw hB hz1 hk1 hS => ?_)
  obtain ⟨o2, h3, hP1, hD1⟩ := hB
  rw [ht] at hP1
  obtain ⟨hP, hD⟩ := va_join (wr := []) (w1 := [(a, .inr (7, [.ref a_bytes, .int a__length, .int o2, .int a__fault])), (a_bytes, .inl (cs 0, 400, .inl a_bytes_c))]) hP hD [0, 1] [] rfl rfl (by decide) (by decide) hk1 hFc hP1 hD1
  generalize H1 = H at hP hS ⊢
  have hP : va_P D classes [(a, .inr (7, [.ref a_bytes, .int a__length, .int o2, .int a__fault])), (a_bytes, .inl (cs 0, 400, .inl a_bytes_c))] H := hP
  have hD : va_D A [(a, .inr (7, [.ref a_bytes, .int a__length, .int o2, .int a__fault])), (a_bytes, .inl (cs 0, 400, .inl a_bytes_c))] := hD
  clear hk1 hFc hP1 hD1 hz1
  refine lv_aload_n hx hb dX7_takeNextClause_4 rfl (lv_at hl 0 rfl) ?_
  refine lv_bipush (v := 59) hx hb dX7_takeNextClause_5 (by decide) ?_
  have hFc := va_free (wc := [(a, .inr (7, [.ref a_bytes, .int a__length, .int o2, .int a__fault])), (a_bytes, .inl (cs 0, 400, .inl a_bytes_c))]) hD hS hA [0,1] rfl
  refine va_calli (va_runV (As := [.int 59]) (rest := []) ⟨hx, hb, hml, hown, hT⟩ (c_X7_take l D cs kK kV a 59 a_bytes a__length o2 a__fault a_bytes_c ((iv_c (by decide))) h_a__length h3 h_a_bytes_c H.size) (cwV 1 hT (hz_gV q_632 q_586 q_587 q_221 q_588) rfl rfl rfl (by decide +kernel) ⟨(Nat.le_of_ble_eq_true rfl), (Nat.le_of_ble_eq_true rfl)⟩) ⟨hz_C.blind, va_recv hK hP (ci := 7) (q0 := 0) rfl rfl, hz_C.mk (hP.sub (ws' := [(a, .inr (7, [.ref a_bytes, .int a__length, .int o2, .int a__fault])), (a_bytes, .inl (cs 0, 400, .inl a_bytes_c))]) [0,1] rfl) (hD.sub (ws' := [(a, .inr (7, [.ref a_bytes, .int a__length, .int o2, .int a__fault])), (a_bytes, .inl (cs 0, 400, .inl a_bytes_c))]) [0,1] (by decide) rfl) hE hS hFc⟩ rfl rfl hl.1 rfl (lv_room (Nat.le_of_ble_eq_true rfl)) dX7_takeNextClause_7 ⟨(Nat.le_of_ble_eq_true rfl), (Nat.le_of_ble_eq_true rfl)⟩) hS (fun q _ h => hFc q h) hFc (fun r4 u t H1 locs ht hvm hw hB hz1 hk1 hS => ?_)
  obtain ⟨o5, h6, hP1, hD1⟩ := hB
  rw [ht] at hP1
  obtain ⟨hP, hD⟩ := va_join (wr := []) (w1 := [(a, .inr (7, [.ref a_bytes, .int a__length, .int o5, .int a__fault])), (a_bytes, .inl (cs 0, 400, .inl a_bytes_c))]) hP hD [0, 1] [] rfl rfl (by decide) (by decide) hk1 hFc hP1 hD1
  generalize H1 = H at hP hS ⊢
  have hP : va_P D classes [(a, .inr (7, [.ref a_bytes, .int a__length, .int o5, .int a__fault])), (a_bytes, .inl (cs 0, 400, .inl a_bytes_c))] H := hP
  have hD : va_D A [(a, .inr (7, [.ref a_bytes, .int a__length, .int o5, .int a__fault])), (a_bytes, .inl (cs 0, 400, .inl a_bytes_c))] := hD
  clear hk1 hFc hP1 hD1 hz1
  rcases hw with rfl | ⟨rfl, h7, h8, h9⟩
  · refine lv_if_eq (tgt := 15) hx hb dX7_takeNextClause_10 (by decide) (fun _ => ?_) (fun z => absurd (by decide) z)
    refine lv_aload_n hx hb dX7_takeNextClause_15 rfl (lv_at hl 0 rfl) ?_
    refine va_get (D := D) (ci := 7) (v := .int o5) (C := RX7) (T := TX7) (N := 4) hx hb hT i_X7 hown hK hP 0 rfl rfl 2 (by decide) (hT _ q_129) (fun _ h9 => h9) rfl dX7_takeNextClause_16 ?_
    refine lv_aload_n hx hb dX7_takeNextClause_19 rfl (lv_at hl 0 rfl) ?_
    refine va_get (D := D) (ci := 7) (v := .int a__length) (C := RX7) (T := TX7) (N := 4) hx hb hT i_X7 hown hK hP 0 rfl rfl 1 (by decide) (hT _ q_128) (fun _ h9 => h9) rfl dX7_takeNextClause_20 ?_
    refine lv_icmp_ge (tgt := 35) hx hb dX7_takeNextClause_23 (by decide) (fun c10 => ?_) (fun c10 => ?_)
    · refine lv_iconst (v := 0) hx hb dX7_takeNextClause_35 (by decide) ?_
      refine W.widen (k := 0) (n := 0) (Nat.le_of_ble_eq_true rfl) (Nat.le_of_ble_eq_true rfl) ?_
      exact W.zret (v := 0) hx hb hr rfl (fun t ht hW => ⟨⟨0, (fun k => match k with | 0 => a__fault | 1 => o5 | _ => 0, fun _ _ => 0), rfl, (Or.inl (⟨rfl, h_a__fault, h6⟩)), by rw [ht]; exact hP.sub [0, 1] rfl, hD.sub [0, 1] (by decide) rfl⟩, hS.F ht⟩) hS.2.2 dX7_takeNextClause_36
    · have h11 : IV 0 399 o5 := iv_lt1 (Int32.not_le.mp c10) h6 h_a__length (by decide)
      have h12 : IV 1 400 a__length := iv_lt2 (Int32.not_le.mp c10) h6 h_a__length (by decide)
      refine lv_aload_n hx hb dX7_takeNextClause_26 rfl (lv_at hl 0 rfl) ?_
      refine lv_aload_n hx hb dX7_takeNextClause_27 rfl (lv_at hl 0 rfl) ?_
      refine va_get (D := D) (ci := 7) (v := .int o5) (C := RX7) (T := TX7) (N := 4) hx hb hT i_X7 hown hK hP 0 rfl rfl 2 (by decide) (hT _ q_129) (fun _ h9 => h9) rfl dX7_takeNextClause_28 ?_
      refine lv_iconst (v := 0) hx hb dX7_takeNextClause_31 (by decide) ?_
      have hFc := va_free (wc := [(a, .inr (7, [.ref a_bytes, .int a__length, .int o5, .int a__fault]))]) hD hS hA [0] rfl
      refine va_callv (va_runV (As := [.int o5, .int 0]) (rest := []) ⟨hx, hb, hml, hown, hT⟩ (c_X7_fail l D cs kK kV a o5 0 a_bytes a__length o5 a__fault ((iv_w h11 (by decide) (by decide))) ((iv_c (by decide))) h_a__fault H.size) (cwV 2 hT (hz_gV q_633 q_445 q_446 q_221 q_447) rfl rfl rfl (by decide +kernel) ⟨(Nat.le_of_ble_eq_true rfl), (Nat.le_of_ble_eq_true rfl)⟩) ⟨hz_C.blind, va_recv hK hP (ci := 7) (q0 := 0) rfl rfl, hz_C.mk (hP.sub (ws' := [(a, .inr (7, [.ref a_bytes, .int a__length, .int o5, .int a__fault]))]) [0] rfl) (hD.sub (ws' := [(a, .inr (7, [.ref a_bytes, .int a__length, .int o5, .int a__fault]))]) [0] (by decide) rfl) hE hS hFc⟩ rfl rfl hl.1 rfl (lv_room (Nat.le_of_ble_eq_true rfl)) dX7_takeNextClause_32 ⟨(Nat.le_of_ble_eq_true rfl), (Nat.le_of_ble_eq_true rfl)⟩) hS (fun q _ h => hFc q h) hFc (fun o14 t H1 locs ht hvm hw hB hz1 hk1 hS => ?_)
      obtain ⟨hP1, hD1⟩ := hB
      rw [ht] at hP1
      obtain ⟨hP, hD⟩ := va_join (wr := [(a_bytes, .inl (cs 0, 400, .inl a_bytes_c))]) (w1 := [(a, .inr (7, [.ref a_bytes, .int a__length, .int o5, .int (o14.1 0)]))]) hP hD [0] [1] rfl rfl (by decide) (by decide) hk1 hFc hP1 hD1
      generalize H1 = H at hP hS ⊢
      have hP : va_P D classes [(a_bytes, .inl (cs 0, 400, .inl a_bytes_c)), (a, .inr (7, [.ref a_bytes, .int a__length, .int o5, .int (o14.1 0)]))] H := hP
      have hD : va_D A [(a_bytes, .inl (cs 0, 400, .inl a_bytes_c)), (a, .inr (7, [.ref a_bytes, .int a__length, .int o5, .int (o14.1 0)]))] := hD
      clear hk1 hFc hP1 hD1 hz1
      have h15 := hw
      refine lv_iconst (v := 0) hx hb dX7_takeNextClause_35 (by decide) ?_
      refine W.widen (k := 0) (n := 0) (Nat.le_of_ble_eq_true rfl) (Nat.le_of_ble_eq_true rfl) ?_
      exact W.zret (v := 0) hx hb hr rfl (fun t ht hW => ⟨⟨0, (fun k => match k with | 0 => o14.1 0 | 1 => o5 | _ => 0, fun _ _ => 0), rfl, (Or.inr (Or.inl (⟨rfl, h15, h12, h11⟩))), by rw [ht]; exact hP.sub [1, 0] rfl, hD.sub [1, 0] (by decide) rfl⟩, hS.F ht⟩) hS.2.2 dX7_takeNextClause_36
  · refine lv_if_eq (tgt := 15) hx hb dX7_takeNextClause_10 (by decide) (fun z => absurd z (by decide)) (fun _ => ?_)
    refine lv_iconst (v := 1) hx hb dX7_takeNextClause_13 (by decide) ?_
    refine W.widen (k := 0) (n := 0) (Nat.le_of_ble_eq_true rfl) (Nat.le_of_ble_eq_true rfl) ?_
    exact W.zret (v := 1) hx hb hr rfl (fun t ht hW => ⟨⟨1, (fun k => match k with | 0 => a__fault | 1 => o5 | _ => 0, fun _ _ => 0), rfl, (Or.inr (Or.inr ((⟨rfl, h_a__fault, h7, h6⟩)))), by rw [ht]; exact hP.sub [0, 1] rfl, hD.sub [0, 1] (by decide) rfl⟩, hS.F ht⟩) hS.2.2 dX7_takeNextClause_14
theorem dX7_append_0 : decode cX7_append 0 = .ok (.bipush 24, 2) := by decide +kernel
theorem dX7_append_2 : decode cX7_append 2 = .ok (.istore_n 2, 1) := by decide +kernel
theorem dX7_append_3 : decode cX7_append 3 = .ok (.iload_n 2, 1) := by decide +kernel
theorem dX7_append_4 : decode cX7_append 4 = .ok (.ifCond .lt 45, 3) := by decide +kernel
theorem dX7_append_7 : decode cX7_append 7 = .ok (.aload_n 0, 1) := by decide +kernel
theorem dX7_append_8 : decode cX7_append 8 = .ok (.getfield 15, 3) := by decide +kernel
theorem dX7_append_11 : decode cX7_append 11 = .ok (.sipush 400, 3) := by decide +kernel
theorem dX7_append_14 : decode cX7_append 14 = .ok (.if_icmp .ge 35, 3) := by decide +kernel
theorem dX7_append_17 : decode cX7_append 17 = .ok (.aload_n 0, 1) := by decide +kernel
theorem dX7_append_18 : decode cX7_append 18 = .ok (.getfield 9, 3) := by decide +kernel
theorem dX7_append_21 : decode cX7_append 21 = .ok (.aload_n 0, 1) := by decide +kernel
theorem dX7_append_22 : decode cX7_append 22 = .ok (.getfield 15, 3) := by decide +kernel
theorem dX7_append_25 : decode cX7_append 25 = .ok (.iload_n 1, 1) := by decide +kernel
theorem dX7_append_26 : decode cX7_append 26 = .ok (.iload_n 2, 1) := by decide +kernel
theorem dX7_append_27 : decode cX7_append 27 = .ok (.ishr, 1) := by decide +kernel
theorem dX7_append_28 : decode cX7_append 28 = .ok (.sipush 255, 3) := by decide +kernel
theorem dX7_append_31 : decode cX7_append 31 = .ok (.iand, 1) := by decide +kernel
theorem dX7_append_32 : decode cX7_append 32 = .ok (.iastore, 1) := by decide +kernel
theorem dX7_append_33 : decode cX7_append 33 = .ok (.aload_n 0, 1) := by decide +kernel
theorem dX7_append_34 : decode cX7_append 34 = .ok (.dup, 1) := by decide +kernel
theorem dX7_append_35 : decode cX7_append 35 = .ok (.getfield 15, 3) := by decide +kernel
theorem dX7_append_38 : decode cX7_append 38 = .ok (.iconst 1, 1) := by decide +kernel
theorem dX7_append_39 : decode cX7_append 39 = .ok (.iadd, 1) := by decide +kernel
theorem dX7_append_40 : decode cX7_append 40 = .ok (.putfield 15, 3) := by decide +kernel
theorem dX7_append_43 : decode cX7_append 43 = .ok (.iinc 2 (-8), 3) := by decide +kernel
theorem dX7_append_46 : decode cX7_append 46 = .ok (.goto (-43), 3) := by decide +kernel
theorem dX7_append_49 : decode cX7_append 49 = .ok (.return_, 1) := by decide +kernel
set_option maxHeartbeats 4000000 in
set_option maxRecDepth 100000 in
theorem c_X7_append (l : Launch) (D : va_G) (cs : Nat → ClassId) (kK kV : Nat → Nat) (a : Nat) (p0 : Int32) (a_bytes : Nat) (a__length : Int32) (a__place : Int32) (a__fault : Int32) (a_bytes_c : Nat → Int32) (h_a__length : IV 0 400 a__length) (h_a_bytes_c : CI 400 0 255 a_bytes_c) (sz : Nat) : Met l yX7_append (hz_w yX7_append cX7_append 3 none) ({ frames := 0, cells := 0, slots := 0, locals := 0 }) (va_Pc [.ref a, .int p0] (hz_C D cs kK kV sz [(a, .inr (7, [.ref a_bytes, .int a__length, .int a__place, .int a__fault])), (a_bytes, .inl (cs 0, 400, .inl a_bytes_c))])) (va_Qv (fun (_ : Unit) => True) (fun _ t => ∃ (o_a_1 : Int32), ∃ (o_a_bytes_c : Nat → Int32), IV 0 400 o_a_1 ∧ CI 400 0 255 o_a_bytes_c ∧ va_P D classes [(a, .inr (7, [.ref a_bytes, .int o_a_1, .int a__place, .int a__fault])), (a_bytes, .inl (cs 0, 400, .inl o_a_bytes_c))] t.heap ∧ va_D (va_A [(a, .inr (7, [.ref a_bytes, .int a__length, .int a__place, .int a__fault])), (a_bytes, .inl (cs 0, 400, .inl a_bytes_c))] sz) [(a, .inr (7, [.ref a_bytes, .int o_a_1, .int a__place, .int a__fault])), (a_bytes, .inl (cs 0, 400, .inl o_a_bytes_c))]) (va_A [(a, .inr (7, [.ref a_bytes, .int a__length, .int a__place, .int a__fault])), (a_bytes, .inl (cs 0, 400, .inl a_bytes_c))] sz)) 0 0 (va_A [(a, .inr (7, [.ref a_bytes, .int a__length, .int a__place, .int a__fault])), (a_bytes, .inl (cs 0, 400, .inl a_bytes_c))] sz) := by
  refine Met.ofW (cc := cX7_append) (maxL := 3) (ret := none) (by decide) rfl ?_
  intro p e s m args below meth c s₁ B hml hv
  obtain ⟨rfl, hsz, hP, hD0, hE⟩ := hv
  have hx := B.exec
  have hb := B.bytes
  have hr := B.returns
  have hT : ∀ w ∈ TB, w.before _ s = true := fun w h => atoms_spec (ws := hz_w yX7_append cX7_append 3 none) B.pre w (List.mem_cons_of_mem _ h)
  have hown : s.vm.findClass RX7 = some m.cls := findClass_of_methodNamed B.named
  have hlocks := B.notSynchronized
  clear B
  subst hsz
  have hD := hD0.self (sz := s.heap.size)
  generalize hAe : va_A [(a, .inr (7, [.ref a_bytes, .int a__length, .int a__place, .int a__fault])), (a_bytes, .inl (cs 0, 400, .inl a_bytes_c))] s.heap.size = A at hD hE ⊢
  have hA : ∀ q : Nat, s.heap.size ≤ q → A q := fun q h => by rw [← hAe]; exact Or.inr h
  clear hAe hD0
  have hS : va_S A s.heap s.heap [] := va_S.rf
  have hK := hE.1
  have hl := lv_entry ([.ref a, .int p0]) (n := 3) (Nat.le_of_ble_eq_true rfl)
  rw [lg_entry_eq]
  generalize (lg_sl ([.ref a, .int p0]) ++ List.replicate (3 - (lg_sl ([.ref a, .int p0])).length) Slot.unset).toArray = ls at hl ⊢
  have hl : lv_has ls 3 [(0, .ref a), (1, .int p0)] := hl
  obtain ⟨H, eH⟩ : ∃ z, z = s.heap := ⟨_, rfl⟩
  have hP : va_P D classes [(a, .inr (7, [.ref a_bytes, .int a__length, .int a__place, .int a__fault])), (a_bytes, .inl (cs 0, 400, .inl a_bytes_c))] H := by rw [eH]; exact hP
  have hS : va_S A s.heap H [] := by rw [eH]; exact hS
  rw [← eH]
  clear eH
  obtain ⟨locs, el⟩ : ∃ z : List Loc, z = [] := ⟨_, rfl⟩
  rw [← el] at hS ⊢
  clear el
  have K3 : ∀ (n : Nat) (k3_L_2 : Int32) (k3_F_a_1 : Int32) (k3_C_a_bytes : Nat → Int32), (k3_L_2.toInt - (-2147483648) + 1).toNat ≤ n → IV 0 400 k3_F_a_1 → IV (-2147483648) 24 k3_L_2 → CI 400 0 255 k3_C_a_bytes → ∀ (H : Heap) (locs : List Loc), va_P D classes [(a, .inr (7, [.ref a_bytes, .int k3_F_a_1, .int a__place, .int a__fault])), (a_bytes, .inl (cs 0, 400, .inl k3_C_a_bytes))] H → va_D A [(a, .inr (7, [.ref a_bytes, .int k3_F_a_1, .int a__place, .int a__fault])), (a_bytes, .inl (cs 0, 400, .inl k3_C_a_bytes))] → va_S A s.heap H locs → ∀ ls : Array Slot, lv_has ls 3 [(2, .int k3_L_2), (0, .ref a), (1, .int p0)] → W p l e (headSpec (hz_w yX7_append cX7_append 3 none) ({ frames := 0, cells := 0, slots := 0, locals := 0 })).room s m [.ref a, .int p0].toArray below meth c H locs 0 0 (MQ below (va_Qv (fun (_ : Unit) => True) (fun _ t => ∃ (o_a_1 : Int32), ∃ (o_a_bytes_c : Nat → Int32), IV 0 400 o_a_1 ∧ CI 400 0 255 o_a_bytes_c ∧ va_P D classes [(a, .inr (7, [.ref a_bytes, .int o_a_1, .int a__place, .int a__fault])), (a_bytes, .inl (cs 0, 400, .inl o_a_bytes_c))] t.heap ∧ va_D A [(a, .inr (7, [.ref a_bytes, .int o_a_1, .int a__place, .int a__fault])), (a_bytes, .inl (cs 0, 400, .inl o_a_bytes_c))]) A) [.ref a, .int p0].toArray s 0 0 A) (F0 m 3 ls []) := by
    intro n
    induction n with
    | zero =>
      intro k3_L_2 k3_F_a_1 k3_C_a_bytes hn q3_2 q3_3 z3_0 H locs hP hD hS ls hl
      exact absurd hn (by unfold IV at q3_3; omega)
    | succ n ih3 =>
      intro k3_L_2 k3_F_a_1 k3_C_a_bytes hn q3_2 q3_3 z3_0 H locs hP hD hS ls hl
      refine lv_iload_n hx hb dX7_append_3 rfl (lv_at hl 0 rfl) ?_
      refine lv_if_lt (tgt := 49) hx hb dX7_append_4 (by decide) (fun c1 => ?_) (fun c1 => ?_)
      · have h2 : IV (-2147483648) (-1) k3_L_2 := iv_lt1 c1 q3_3 (iv_c (a := 0) (b := 0) (by decide)) (by decide)
        refine W.widen (k := 0) (n := 0) (Nat.le_of_ble_eq_true rfl) (Nat.le_of_ble_eq_true rfl) ?_
        exact W.vret hx hb hr (fun t ht hW => ⟨⟨(), rfl, trivial, k3_F_a_1, k3_C_a_bytes, q3_2, z3_0, by rw [ht]; exact hP.sub [0, 1] rfl, hD.sub [0, 1] (by decide) rfl⟩, hS.F ht⟩) hS.2.2 dX7_append_49
      · have h3 : IV 0 24 k3_L_2 := iv_le2 (Int32.not_lt.mp c1) (iv_c (a := 0) (b := 0) (by decide)) q3_3 (by decide)
        refine lv_aload_n hx hb dX7_append_7 rfl (lv_at hl 1 rfl) ?_
        refine va_get (D := D) (ci := 7) (v := .int k3_F_a_1) (C := RX7) (T := TX7) (N := 4) hx hb hT i_X7 hown hK hP 0 rfl rfl 1 (by decide) (hT _ q_128) (fun _ h9 => h9) rfl dX7_append_8 ?_
        refine lv_sipush (v := 400) hx hb dX7_append_11 (by decide) ?_
        refine lv_icmp_ge (tgt := 49) hx hb dX7_append_14 (by decide) (fun c4 => ?_) (fun c4 => ?_)
        · have h5 : IV 400 400 k3_F_a_1 := iv_le2 c4 (iv_c (a := 400) (b := 400) (by decide)) q3_2 (by decide)
          refine W.widen (k := 0) (n := 0) (Nat.le_of_ble_eq_true rfl) (Nat.le_of_ble_eq_true rfl) ?_
          exact W.vret hx hb hr (fun t ht hW => ⟨⟨(), rfl, trivial, k3_F_a_1, k3_C_a_bytes, (iv_w h5 (by decide) (by decide)), z3_0, by rw [ht]; exact hP.sub [0, 1] rfl, hD.sub [0, 1] (by decide) rfl⟩, hS.F ht⟩) hS.2.2 dX7_append_49
        · have h6 : IV 0 399 k3_F_a_1 := iv_lt1 (Int32.not_le.mp c4) q3_2 (iv_c (a := 400) (b := 400) (by decide)) (by decide)
          refine lv_aload_n hx hb dX7_append_17 rfl (lv_at hl 1 rfl) ?_
          refine va_get (D := D) (ci := 7) (v := .ref a_bytes) (C := RX7) (T := TX7) (N := 4) hx hb hT i_X7 hown hK hP 0 rfl rfl 0 (by decide) (hT _ q_127) (fun _ h9 => h9) rfl dX7_append_18 ?_
          refine lv_aload_n hx hb dX7_append_21 rfl (lv_at hl 1 rfl) ?_
          refine va_get (D := D) (ci := 7) (v := .int k3_F_a_1) (C := RX7) (T := TX7) (N := 4) hx hb hT i_X7 hown hK hP 0 rfl rfl 1 (by decide) (hT _ q_128) (fun _ h9 => h9) rfl dX7_append_22 ?_
          refine lv_iload_n hx hb dX7_append_25 rfl (lv_at hl 2 rfl) ?_
          refine lv_iload_n hx hb dX7_append_26 rfl (lv_at hl 0 rfl) ?_
          refine lv_ishr hx hb dX7_append_27 ?_
          refine lv_topi (fun v7 ev7 => ?_)
          refine lv_sipush (v := 255) hx hb dX7_append_28 (by decide) ?_
          refine lv_iand hx hb dX7_append_31 ?_
          refine lv_topi (fun v8 ev8 => ?_)
          have hv8 : IV 0 255 v8 := iv_and2 ev8 (iv_c (a := 255) (b := 255) (by decide))
          refine va_iast hx hb hK hP hD hS 1 0 rfl rfl (iv_v h6 (by decide) (by decide)) dX7_append_32 (fun H locs hP hD hS => ?_)
          have hf9 := ci_upd (i := k3_F_a_1) z3_0 hv8
          have hP : va_P D classes [(a, .inr (7, [.ref a_bytes, .int k3_F_a_1, .int a__place, .int a__fault])), (a_bytes, .inl (cs 0, 400, .inl (upd k3_C_a_bytes (Int32.toNatClampNeg k3_F_a_1) v8)))] H := hP
          have hD : va_D A [(a, .inr (7, [.ref a_bytes, .int k3_F_a_1, .int a__place, .int a__fault])), (a_bytes, .inl (cs 0, 400, .inl (upd k3_C_a_bytes (Int32.toNatClampNeg k3_F_a_1) v8)))] := hD
          generalize upd k3_C_a_bytes (Int32.toNatClampNeg k3_F_a_1) v8 = f9 at hP hD hf9
          refine lv_aload_n hx hb dX7_append_33 rfl (lv_at hl 1 rfl) ?_
          refine lv_dup hx hb dX7_append_34 rfl ?_
          refine va_get (D := D) (ci := 7) (v := .int k3_F_a_1) (C := RX7) (T := TX7) (N := 4) hx hb hT i_X7 hown hK hP 0 rfl rfl 1 (by decide) (hT _ q_128) (fun _ h9 => h9) rfl dX7_append_35 ?_
          refine lv_iconst (v := 1) hx hb dX7_append_38 (by decide) ?_
          refine lv_iadd hx hb dX7_append_39 ?_
          refine lv_topi (fun v10 ev10 => ?_)
          have hv10 : IV 1 400 v10 := iv_add ev10 h6 (iv_c (a := 1) (b := 1) (by decide)) (by decide) (by decide)
          have dv10 : v10.toInt = k3_F_a_1.toInt + 1 := iv_addE ev10 h6 (iv_c (a := 1) (b := 1) (by decide)) (by decide) (by decide) (by decide)
          refine va_put (D := D) (ci := 7) (v := .int v10) (ty := .int) (C := RX7) (T := TX7) (N := 4) hx hb hT i_X7 tyX7 tyX7_ok nmX7 hown hK hP hD hS 0 rfl rfl 1 (by decide) (hT _ q_128) (fun _ h9 => h9) rfl (by decide +kernel) rfl rfl (Nat.le_of_ble_eq_true rfl) dX7_append_40 (fun H locs hP hD hS => ?_)
          have hP : va_P D classes [(a, .inr (7, [.ref a_bytes, .int v10, .int a__place, .int a__fault])), (a_bytes, .inl (cs 0, 400, .inl f9))] H := hP
          have hD : va_D A [(a, .inr (7, [.ref a_bytes, .int v10, .int a__place, .int a__fault])), (a_bytes, .inl (cs 0, 400, .inl f9))] := hD
          obtain ⟨v11, ev11⟩ : ∃ z : Int32, z = k3_L_2 + (-8) := ⟨_, rfl⟩
          have hv11 : IV (-8) 16 v11 := iv_add ev11 h3 (iv_c (a := (-8)) (b := (-8)) (by decide)) (by decide) (by decide)
          have dv11 : v11.toInt = k3_L_2.toInt + (-8) := iv_addE ev11 h3 (iv_c (a := (-8)) (b := (-8)) (by decide)) (by decide) (by decide) (by decide)
          refine lv_iinc (v := v11) (lv' := [(2, .int v11), (0, .ref a), (1, .int p0)]) hx hb dX7_append_43 hl (k := 0) rfl (by rw [ev11]; rfl) (by decide) rfl (fun ls hl => ?_)
          refine lv_goto (tgt := 3) hx hb dX7_append_46 (by decide) ?_
          exact ih3 v11 v10 f9 (by have h9 := h3; unfold IV at h9; have := dv11; omega) (iv_w hv10 (by decide) (by decide)) (iv_w hv11 (by decide) (by decide)) hf9 H locs (hP.sub (ws' := [(a, .inr (7, [.ref a_bytes, .int v10, .int a__place, .int a__fault])), (a_bytes, .inl (cs 0, 400, .inl f9))]) [0, 1] rfl) (hD.sub (ws' := [(a, .inr (7, [.ref a_bytes, .int v10, .int a__place, .int a__fault])), (a_bytes, .inl (cs 0, 400, .inl f9))]) [0, 1] (by decide) rfl) hS ls (lv_sub hl [0, 1, 2] rfl)
  refine lv_bipush (v := 24) hx hb dX7_append_0 (by decide) ?_
  refine lv_istore_n (lv' := [(2, .int 24), (0, .ref a), (1, .int p0)]) hx hb dX7_append_2 rfl hl (by decide) rfl (fun ls hl => ?_)
  exact K3 _ 24 a__length a_bytes_c (Nat.le_refl _) h_a__length (iv_c (by decide)) h_a_bytes_c H locs (hP.sub (ws' := [(a, .inr (7, [.ref a_bytes, .int a__length, .int a__place, .int a__fault])), (a_bytes, .inl (cs 0, 400, .inl a_bytes_c))]) [0, 1] rfl) (hD.sub (ws' := [(a, .inr (7, [.ref a_bytes, .int a__length, .int a__place, .int a__fault])), (a_bytes, .inl (cs 0, 400, .inl a_bytes_c))]) [0, 1] (by decide) rfl) hS ls (lv_sub hl [0, 1, 2] rfl)
theorem dX8_isHalf_0 : decode cX8_isHalf 0 = .ok (.iload_n 1, 1) := by decide +kernel
theorem dX8_isHalf_1 : decode cX8_isHalf 1 = .ok (.ifCond .lt 15, 3) := by decide +kernel
theorem dX8_isHalf_4 : decode cX8_isHalf 4 = .ok (.iload_n 1, 1) := by decide +kernel
theorem dX8_isHalf_5 : decode cX8_isHalf 5 = .ok (.aload_n 0, 1) := by decide +kernel
theorem dX8_isHalf_6 : decode cX8_isHalf 6 = .ok (.getfield 49, 3) := by decide +kernel
theorem dX8_isHalf_9 : decode cX8_isHalf 9 = .ok (.if_icmp .ge 7, 3) := by decide +kernel
theorem dX8_isHalf_12 : decode cX8_isHalf 12 = .ok (.iconst 1, 1) := by decide +kernel
theorem dX8_isHalf_13 : decode cX8_isHalf 13 = .ok (.goto 4, 3) := by decide +kernel
theorem dX8_isHalf_16 : decode cX8_isHalf 16 = .ok (.iconst 0, 1) := by decide +kernel
theorem dX8_isHalf_17 : decode cX8_isHalf 17 = .ok (.ireturn, 1) := by decide +kernel
set_option maxHeartbeats 4000000 in
set_option maxRecDepth 100000 in
theorem c_X8_isHalf (l : Launch) (D : va_G) (cs : Nat → ClassId) (kK kV : Nat → Nat) (a : Nat) (p0 : Int32) (a__stalls : Int32) (a__shift : Int32) (a__halves : Int32) (a__buyers : Int32) (a__near : Int32) (a__dusk : Int32) (a__duskPrice : Int32) (a__hear : Int32) (a__forged : Int32) (a_stall : Nat) (a_shape : Nat) (a_side : Nat) (a_price : Nat) (a_purse : Nat) (a_spot : Nat) (a_club : Nat) (a_fitting : Nat) (a_nearly : Nat) (h_a__halves : IV 0 12 a__halves) : Met l yX8_isHalf (hz_w yX8_isHalf cX8_isHalf 2 (some .boolean)) ({ frames := 0, cells := 0, slots := 0, locals := 0 }) (va_Pc [.ref a, .int p0] (hz_P D cs kK kV [(a, .inr (8, [.int a__stalls, .int a__shift, .int a__halves, .int a__buyers, .int a__near, .int a__dusk, .int a__duskPrice, .int a__hear, .int a__forged, .ref a_stall, .ref a_shape, .ref a_side, .ref a_price, .ref a_purse, .ref a_spot, .ref a_club, .ref a_fitting, .ref a_nearly]))])) (va_Qi (fun (r : Int32) (_ : Unit) => (r = 0 ∧ IV (-2147483648) 2147483647 p0) ∨ (r = 1 ∧ IV 1 12 a__halves ∧ IV 0 11 p0)) (fun _ t => True) (fun _ => False)) 0 0 (fun _ => False) := by
  refine Met.ofW (cc := cX8_isHalf) (maxL := 2) (ret := (some .boolean)) (by decide) rfl ?_
  intro p e s m args below meth c s₁ B hml hv
  obtain ⟨rfl, hP, hE⟩ := hv
  have hx := B.exec
  have hb := B.bytes
  have hr := B.returns
  have hT : ∀ w ∈ TB, w.before _ s = true := fun w h => atoms_spec (ws := hz_w yX8_isHalf cX8_isHalf 2 (some .boolean)) B.pre w (List.mem_cons_of_mem _ h)
  have hown : s.vm.findClass RX8 = some m.cls := findClass_of_methodNamed B.named
  have hlocks := B.notSynchronized
  clear B
  have hS : va_S (fun _ => False) s.heap s.heap [] := va_S.rf
  have hK := hE.1
  have hl := lv_entry ([.ref a, .int p0]) (n := 2) (Nat.le_of_ble_eq_true rfl)
  rw [lg_entry_eq]
  generalize (lg_sl ([.ref a, .int p0]) ++ List.replicate (2 - (lg_sl ([.ref a, .int p0])).length) Slot.unset).toArray = ls at hl ⊢
  have hl : lv_has ls 2 [(0, .ref a), (1, .int p0)] := hl
  obtain ⟨H, eH⟩ : ∃ z, z = s.heap := ⟨_, rfl⟩
  have hP : va_P D classes [(a, .inr (8, [.int a__stalls, .int a__shift, .int a__halves, .int a__buyers, .int a__near, .int a__dusk, .int a__duskPrice, .int a__hear, .int a__forged, .ref a_stall, .ref a_shape, .ref a_side, .ref a_price, .ref a_purse, .ref a_spot, .ref a_club, .ref a_fitting, .ref a_nearly]))] H := by rw [eH]; exact hP
  have hS : va_S (fun _ => False) s.heap H [] := by rw [eH]; exact hS
  rw [← eH]
  clear eH
  obtain ⟨locs, el⟩ : ∃ z : List Loc, z = [] := ⟨_, rfl⟩
  rw [← el] at hS ⊢
  clear el
  refine lv_iload_n hx hb dX8_isHalf_0 rfl (lv_at hl 1 rfl) ?_
  refine lv_if_lt (tgt := 16) hx hb dX8_isHalf_1 (by decide) (fun c1 => ?_) (fun c1 => ?_)
  · have h2 : IV (-2147483648) (-1) p0 := iv_lt1 c1 iv_top (iv_c (a := 0) (b := 0) (by decide)) (by decide)
    refine lv_iconst (v := 0) hx hb dX8_isHalf_16 (by decide) ?_
    exact W.zret (v := 0) hx hb hr rfl (fun t ht hW => ⟨⟨0, (), rfl, (Or.inl (⟨rfl, (iv_w h2 (by decide) (by decide))⟩)), trivial⟩, hS.F ht⟩) hS.2.2 dX8_isHalf_17
  · have h3 : IV 0 2147483647 p0 := iv_le2 (Int32.not_lt.mp c1) (iv_c (a := 0) (b := 0) (by decide)) iv_top (by decide)
    refine lv_iload_n hx hb dX8_isHalf_4 rfl (lv_at hl 1 rfl) ?_
    refine lv_aload_n hx hb dX8_isHalf_5 rfl (lv_at hl 0 rfl) ?_
    refine va_get (D := D) (ci := 8) (v := .int a__halves) (C := RX8) (T := TX8) (N := 18) hx hb hT i_X8 hown hK hP 0 rfl rfl 2 (by decide) (hT _ q_143) (fun _ h9 => h9) rfl dX8_isHalf_6 ?_
    refine lv_icmp_ge (tgt := 16) hx hb dX8_isHalf_9 (by decide) (fun c4 => ?_) (fun c4 => ?_)
    · refine lv_iconst (v := 0) hx hb dX8_isHalf_16 (by decide) ?_
      exact W.zret (v := 0) hx hb hr rfl (fun t ht hW => ⟨⟨0, (), rfl, (Or.inl (⟨rfl, (iv_w h3 (by decide) (by decide))⟩)), trivial⟩, hS.F ht⟩) hS.2.2 dX8_isHalf_17
    · have h5 : IV 0 11 p0 := iv_lt1 (Int32.not_le.mp c4) h3 h_a__halves (by decide)
      have h6 : IV 1 12 a__halves := iv_lt2 (Int32.not_le.mp c4) h3 h_a__halves (by decide)
      refine lv_iconst (v := 1) hx hb dX8_isHalf_12 (by decide) ?_
      refine lv_goto (tgt := 17) hx hb dX8_isHalf_13 (by decide) ?_
      exact W.zret (v := 1) hx hb hr rfl (fun t ht hW => ⟨⟨1, (), rfl, (Or.inr ((⟨rfl, h6, h5⟩))), trivial⟩, hS.F ht⟩) hS.2.2 dX8_isHalf_17
theorem dX8_isBuyer_0 : decode cX8_isBuyer 0 = .ok (.iload_n 1, 1) := by decide +kernel
theorem dX8_isBuyer_1 : decode cX8_isBuyer 1 = .ok (.ifCond .lt 15, 3) := by decide +kernel
theorem dX8_isBuyer_4 : decode cX8_isBuyer 4 = .ok (.iload_n 1, 1) := by decide +kernel
theorem dX8_isBuyer_5 : decode cX8_isBuyer 5 = .ok (.aload_n 0, 1) := by decide +kernel
theorem dX8_isBuyer_6 : decode cX8_isBuyer 6 = .ok (.getfield 52, 3) := by decide +kernel
theorem dX8_isBuyer_9 : decode cX8_isBuyer 9 = .ok (.if_icmp .ge 7, 3) := by decide +kernel
theorem dX8_isBuyer_12 : decode cX8_isBuyer 12 = .ok (.iconst 1, 1) := by decide +kernel
theorem dX8_isBuyer_13 : decode cX8_isBuyer 13 = .ok (.goto 4, 3) := by decide +kernel
theorem dX8_isBuyer_16 : decode cX8_isBuyer 16 = .ok (.iconst 0, 1) := by decide +kernel
theorem dX8_isBuyer_17 : decode cX8_isBuyer 17 = .ok (.ireturn, 1) := by decide +kernel
set_option maxHeartbeats 4000000 in
set_option maxRecDepth 100000 in
theorem c_X8_isBuyer (l : Launch) (D : va_G) (cs : Nat → ClassId) (kK kV : Nat → Nat) (a : Nat) (p0 : Int32) (a__stalls : Int32) (a__shift : Int32) (a__halves : Int32) (a__buyers : Int32) (a__near : Int32) (a__dusk : Int32) (a__duskPrice : Int32) (a__hear : Int32) (a__forged : Int32) (a_stall : Nat) (a_shape : Nat) (a_side : Nat) (a_price : Nat) (a_purse : Nat) (a_spot : Nat) (a_club : Nat) (a_fitting : Nat) (a_nearly : Nat) (h_a__buyers : IV 0 4 a__buyers) : Met l yX8_isBuyer (hz_w yX8_isBuyer cX8_isBuyer 2 (some .boolean)) ({ frames := 0, cells := 0, slots := 0, locals := 0 }) (va_Pc [.ref a, .int p0] (hz_P D cs kK kV [(a, .inr (8, [.int a__stalls, .int a__shift, .int a__halves, .int a__buyers, .int a__near, .int a__dusk, .int a__duskPrice, .int a__hear, .int a__forged, .ref a_stall, .ref a_shape, .ref a_side, .ref a_price, .ref a_purse, .ref a_spot, .ref a_club, .ref a_fitting, .ref a_nearly]))])) (va_Qi (fun (r : Int32) (_ : Unit) => (r = 0 ∧ IV (-2147483648) 2147483647 p0) ∨ (r = 1 ∧ IV 1 4 a__buyers ∧ IV 0 3 p0)) (fun _ t => True) (fun _ => False)) 0 0 (fun _ => False) := by
  refine Met.ofW (cc := cX8_isBuyer) (maxL := 2) (ret := (some .boolean)) (by decide) rfl ?_
  intro p e s m args below meth c s₁ B hml hv
  obtain ⟨rfl, hP, hE⟩ := hv
  have hx := B.exec
  have hb := B.bytes
  have hr := B.returns
  have hT : ∀ w ∈ TB, w.before _ s = true := fun w h => atoms_spec (ws := hz_w yX8_isBuyer cX8_isBuyer 2 (some .boolean)) B.pre w (List.mem_cons_of_mem _ h)
  have hown : s.vm.findClass RX8 = some m.cls := findClass_of_methodNamed B.named
  have hlocks := B.notSynchronized
  clear B
  have hS : va_S (fun _ => False) s.heap s.heap [] := va_S.rf
  have hK := hE.1
  have hl := lv_entry ([.ref a, .int p0]) (n := 2) (Nat.le_of_ble_eq_true rfl)
  rw [lg_entry_eq]
  generalize (lg_sl ([.ref a, .int p0]) ++ List.replicate (2 - (lg_sl ([.ref a, .int p0])).length) Slot.unset).toArray = ls at hl ⊢
  have hl : lv_has ls 2 [(0, .ref a), (1, .int p0)] := hl
  obtain ⟨H, eH⟩ : ∃ z, z = s.heap := ⟨_, rfl⟩
  have hP : va_P D classes [(a, .inr (8, [.int a__stalls, .int a__shift, .int a__halves, .int a__buyers, .int a__near, .int a__dusk, .int a__duskPrice, .int a__hear, .int a__forged, .ref a_stall, .ref a_shape, .ref a_side, .ref a_price, .ref a_purse, .ref a_spot, .ref a_club, .ref a_fitting, .ref a_nearly]))] H := by rw [eH]; exact hP
  have hS : va_S (fun _ => False) s.heap H [] := by rw [eH]; exact hS
  rw [← eH]
  clear eH
  obtain ⟨locs, el⟩ : ∃ z : List Loc, z = [] := ⟨_, rfl⟩
  rw [← el] at hS ⊢
  clear el
  refine lv_iload_n hx hb dX8_isBuyer_0 rfl (lv_at hl 1 rfl) ?_
  refine lv_if_lt (tgt := 16) hx hb dX8_isBuyer_1 (by decide) (fun c1 => ?_) (fun c1 => ?_)
  · have h2 : IV (-2147483648) (-1) p0 := iv_lt1 c1 iv_top (iv_c (a := 0) (b := 0) (by decide)) (by decide)
    refine lv_iconst (v := 0) hx hb dX8_isBuyer_16 (by decide) ?_
    exact W.zret (v := 0) hx hb hr rfl (fun t ht hW => ⟨⟨0, (), rfl, (Or.inl (⟨rfl, (iv_w h2 (by decide) (by decide))⟩)), trivial⟩, hS.F ht⟩) hS.2.2 dX8_isBuyer_17
  · have h3 : IV 0 2147483647 p0 := iv_le2 (Int32.not_lt.mp c1) (iv_c (a := 0) (b := 0) (by decide)) iv_top (by decide)
    refine lv_iload_n hx hb dX8_isBuyer_4 rfl (lv_at hl 1 rfl) ?_
    refine lv_aload_n hx hb dX8_isBuyer_5 rfl (lv_at hl 0 rfl) ?_
    refine va_get (D := D) (ci := 8) (v := .int a__buyers) (C := RX8) (T := TX8) (N := 18) hx hb hT i_X8 hown hK hP 0 rfl rfl 3 (by decide) (hT _ q_144) (fun _ h9 => h9) rfl dX8_isBuyer_6 ?_
    refine lv_icmp_ge (tgt := 16) hx hb dX8_isBuyer_9 (by decide) (fun c4 => ?_) (fun c4 => ?_)
    · refine lv_iconst (v := 0) hx hb dX8_isBuyer_16 (by decide) ?_
      exact W.zret (v := 0) hx hb hr rfl (fun t ht hW => ⟨⟨0, (), rfl, (Or.inl (⟨rfl, (iv_w h3 (by decide) (by decide))⟩)), trivial⟩, hS.F ht⟩) hS.2.2 dX8_isBuyer_17
    · have h5 : IV 0 3 p0 := iv_lt1 (Int32.not_le.mp c4) h3 h_a__buyers (by decide)
      have h6 : IV 1 4 a__buyers := iv_lt2 (Int32.not_le.mp c4) h3 h_a__buyers (by decide)
      refine lv_iconst (v := 1) hx hb dX8_isBuyer_12 (by decide) ?_
      refine lv_goto (tgt := 17) hx hb dX8_isBuyer_13 (by decide) ?_
      exact W.zret (v := 1) hx hb hr rfl (fun t ht hW => ⟨⟨1, (), rfl, (Or.inr ((⟨rfl, h6, h5⟩))), trivial⟩, hS.F ht⟩) hS.2.2 dX8_isBuyer_17
theorem dX8_spotOf_0 : decode cX8_spotOf 0 = .ok (.aload_n 0, 1) := by decide +kernel
theorem dX8_spotOf_1 : decode cX8_spotOf 1 = .ok (.getfield 55, 3) := by decide +kernel
theorem dX8_spotOf_4 : decode cX8_spotOf 4 = .ok (.ifCond .gt 7, 3) := by decide +kernel
theorem dX8_spotOf_7 : decode cX8_spotOf 7 = .ok (.iconst 0, 1) := by decide +kernel
theorem dX8_spotOf_8 : decode cX8_spotOf 8 = .ok (.goto 16, 3) := by decide +kernel
theorem dX8_spotOf_11 : decode cX8_spotOf 11 = .ok (.iload_n 1, 1) := by decide +kernel
theorem dX8_spotOf_12 : decode cX8_spotOf 12 = .ok (.iload_n 2, 1) := by decide +kernel
theorem dX8_spotOf_13 : decode cX8_spotOf 13 = .ok (.aload_n 0, 1) := by decide +kernel
theorem dX8_spotOf_14 : decode cX8_spotOf 14 = .ok (.getfield 58, 3) := by decide +kernel
theorem dX8_spotOf_17 : decode cX8_spotOf 17 = .ok (.imul, 1) := by decide +kernel
theorem dX8_spotOf_18 : decode cX8_spotOf 18 = .ok (.iadd, 1) := by decide +kernel
theorem dX8_spotOf_19 : decode cX8_spotOf 19 = .ok (.aload_n 0, 1) := by decide +kernel
theorem dX8_spotOf_20 : decode cX8_spotOf 20 = .ok (.getfield 55, 3) := by decide +kernel
theorem dX8_spotOf_23 : decode cX8_spotOf 23 = .ok (.irem, 1) := by decide +kernel
theorem dX8_spotOf_24 : decode cX8_spotOf 24 = .ok (.ireturn, 1) := by decide +kernel
set_option maxHeartbeats 4000000 in
set_option maxRecDepth 100000 in
theorem c_X8_spotOf (l : Launch) (D : va_G) (cs : Nat → ClassId) (kK kV : Nat → Nat) (a : Nat) (p0 : Int32) (p1 : Int32) (a__stalls : Int32) (a__shift : Int32) (a__halves : Int32) (a__buyers : Int32) (a__near : Int32) (a__dusk : Int32) (a__duskPrice : Int32) (a__hear : Int32) (a__forged : Int32) (a_stall : Nat) (a_shape : Nat) (a_side : Nat) (a_price : Nat) (a_purse : Nat) (a_spot : Nat) (a_club : Nat) (a_fitting : Nat) (a_nearly : Nat) (h_a__stalls : IV 0 8 a__stalls) : Met l yX8_spotOf (hz_w yX8_spotOf cX8_spotOf 3 (some .int)) ({ frames := 0, cells := 0, slots := 0, locals := 0 }) (va_Pc [.ref a, .int p0, .int p1] (hz_P D cs kK kV [(a, .inr (8, [.int a__stalls, .int a__shift, .int a__halves, .int a__buyers, .int a__near, .int a__dusk, .int a__duskPrice, .int a__hear, .int a__forged, .ref a_stall, .ref a_shape, .ref a_side, .ref a_price, .ref a_purse, .ref a_spot, .ref a_club, .ref a_fitting, .ref a_nearly]))])) (va_Qi (fun (r : Int32) (_ : Unit) => (r = 0 ∧ IV 0 0 a__stalls) ∨ (IV (-7) 7 r ∧ IV 1 8 a__stalls)) (fun _ t => True) (fun _ => False)) 0 0 (fun _ => False) := by
  refine Met.ofW (cc := cX8_spotOf) (maxL := 3) (ret := (some .int)) (by decide) rfl ?_
  intro p e s m args below meth c s₁ B hml hv
  obtain ⟨rfl, hP, hE⟩ := hv
  have hx := B.exec
  have hb := B.bytes
  have hr := B.returns
  have hT : ∀ w ∈ TB, w.before _ s = true := fun w h => atoms_spec (ws := hz_w yX8_spotOf cX8_spotOf 3 (some .int)) B.pre w (List.mem_cons_of_mem _ h)
  have hown : s.vm.findClass RX8 = some m.cls := findClass_of_methodNamed B.named
  have hlocks := B.notSynchronized
  clear B
  have hS : va_S (fun _ => False) s.heap s.heap [] := va_S.rf
  have hK := hE.1
  have hl := lv_entry ([.ref a, .int p0, .int p1]) (n := 3) (Nat.le_of_ble_eq_true rfl)
  rw [lg_entry_eq]
  generalize (lg_sl ([.ref a, .int p0, .int p1]) ++ List.replicate (3 - (lg_sl ([.ref a, .int p0, .int p1])).length) Slot.unset).toArray = ls at hl ⊢
  have hl : lv_has ls 3 [(0, .ref a), (1, .int p0), (2, .int p1)] := hl
  obtain ⟨H, eH⟩ : ∃ z, z = s.heap := ⟨_, rfl⟩
  have hP : va_P D classes [(a, .inr (8, [.int a__stalls, .int a__shift, .int a__halves, .int a__buyers, .int a__near, .int a__dusk, .int a__duskPrice, .int a__hear, .int a__forged, .ref a_stall, .ref a_shape, .ref a_side, .ref a_price, .ref a_purse, .ref a_spot, .ref a_club, .ref a_fitting, .ref a_nearly]))] H := by rw [eH]; exact hP
  have hS : va_S (fun _ => False) s.heap H [] := by rw [eH]; exact hS
  rw [← eH]
  clear eH
  obtain ⟨locs, el⟩ : ∃ z : List Loc, z = [] := ⟨_, rfl⟩
  rw [← el] at hS ⊢
  clear el
  refine lv_aload_n hx hb dX8_spotOf_0 rfl (lv_at hl 0 rfl) ?_
  refine va_get (D := D) (ci := 8) (v := .int a__stalls) (C := RX8) (T := TX8) (N := 18) hx hb hT i_X8 hown hK hP 0 rfl rfl 0 (by decide) (hT _ q_145) (fun _ h9 => h9) rfl dX8_spotOf_1 ?_
  refine lv_if_gt (tgt := 11) hx hb dX8_spotOf_4 (by decide) (fun c1 => ?_) (fun c1 => ?_)
  · have h2 : IV 1 8 a__stalls := iv_lt2 c1 (iv_c (a := 0) (b := 0) (by decide)) h_a__stalls (by decide)
    refine lv_iload_n hx hb dX8_spotOf_11 rfl (lv_at hl 1 rfl) ?_
    refine lv_iload_n hx hb dX8_spotOf_12 rfl (lv_at hl 2 rfl) ?_
    refine lv_aload_n hx hb dX8_spotOf_13 rfl (lv_at hl 0 rfl) ?_
    refine va_get (D := D) (ci := 8) (v := .int a__shift) (C := RX8) (T := TX8) (N := 18) hx hb hT i_X8 hown hK hP 0 rfl rfl 1 (by decide) (hT _ q_146) (fun _ h9 => h9) rfl dX8_spotOf_14 ?_
    refine lv_imul hx hb dX8_spotOf_17 ?_
    refine lv_topi (fun v3 ev3 => ?_)
    refine lv_iadd hx hb dX8_spotOf_18 ?_
    refine lv_topi (fun v4 ev4 => ?_)
    refine lv_aload_n hx hb dX8_spotOf_19 rfl (lv_at hl 0 rfl) ?_
    refine va_get (D := D) (ci := 8) (v := .int a__stalls) (C := RX8) (T := TX8) (N := 18) hx hb hT i_X8 hown hK hP 0 rfl rfl 0 (by decide) (hT _ q_145) (fun _ h9 => h9) rfl dX8_spotOf_20 ?_
    refine lv_irem hx hb dX8_spotOf_23 (iv_ne0 h2 (by decide)) ?_
    refine lv_topi (fun v5 ev5 => ?_)
    have hv5 : IV (-7) 7 v5 := iv_remA ev5 h2 (by decide) (by decide)
    exact W.iret (v := v5) hx hb hr (fun t ht hW => ⟨⟨v5, (), rfl, (Or.inr ((⟨hv5, h2⟩))), trivial⟩, hS.F ht⟩) hS.2.2 dX8_spotOf_24
  · have h6 : IV 0 0 a__stalls := iv_le1 (Int32.not_lt.mp c1) h_a__stalls (iv_c (a := 0) (b := 0) (by decide)) (by decide)
    refine lv_iconst (v := 0) hx hb dX8_spotOf_7 (by decide) ?_
    refine lv_goto (tgt := 24) hx hb dX8_spotOf_8 (by decide) ?_
    exact W.iret (v := 0) hx hb hr (fun t ht hW => ⟨⟨0, (), rfl, (Or.inl (⟨rfl, h6⟩)), trivial⟩, hS.F ht⟩) hS.2.2 dX8_spotOf_24
theorem dX8_stallAt_0 : decode cX8_stallAt 0 = .ok (.aload_n 0, 1) := by decide +kernel
theorem dX8_stallAt_1 : decode cX8_stallAt 1 = .ok (.getfield 55, 3) := by decide +kernel
theorem dX8_stallAt_4 : decode cX8_stallAt 4 = .ok (.ifCond .gt 7, 3) := by decide +kernel
theorem dX8_stallAt_7 : decode cX8_stallAt 7 = .ok (.iconst 0, 1) := by decide +kernel
theorem dX8_stallAt_8 : decode cX8_stallAt 8 = .ok (.goto 18, 3) := by decide +kernel
theorem dX8_stallAt_11 : decode cX8_stallAt 11 = .ok (.iload_n 1, 1) := by decide +kernel
theorem dX8_stallAt_12 : decode cX8_stallAt 12 = .ok (.iload_n 2, 1) := by decide +kernel
theorem dX8_stallAt_13 : decode cX8_stallAt 13 = .ok (.aload_n 0, 1) := by decide +kernel
theorem dX8_stallAt_14 : decode cX8_stallAt 14 = .ok (.getfield 58, 3) := by decide +kernel
theorem dX8_stallAt_17 : decode cX8_stallAt 17 = .ok (.imul, 1) := by decide +kernel
theorem dX8_stallAt_18 : decode cX8_stallAt 18 = .ok (.isub, 1) := by decide +kernel
theorem dX8_stallAt_19 : decode cX8_stallAt 19 = .ok (.aload_n 0, 1) := by decide +kernel
theorem dX8_stallAt_20 : decode cX8_stallAt 20 = .ok (.getfield 55, 3) := by decide +kernel
theorem dX8_stallAt_23 : decode cX8_stallAt 23 = .ok (.invokestatic 61, 3) := by decide +kernel
theorem dX8_stallAt_26 : decode cX8_stallAt 26 = .ok (.ireturn, 1) := by decide +kernel
set_option maxHeartbeats 4000000 in
set_option maxRecDepth 100000 in
theorem c_X8_stallAt (l : Launch) (D : va_G) (cs : Nat → ClassId) (kK kV : Nat → Nat) (a : Nat) (p0 : Int32) (p1 : Int32) (a__stalls : Int32) (a__shift : Int32) (a__halves : Int32) (a__buyers : Int32) (a__near : Int32) (a__dusk : Int32) (a__duskPrice : Int32) (a__hear : Int32) (a__forged : Int32) (a_stall : Nat) (a_shape : Nat) (a_side : Nat) (a_price : Nat) (a_purse : Nat) (a_spot : Nat) (a_club : Nat) (a_fitting : Nat) (a_nearly : Nat) (h_a__stalls : IV 0 8 a__stalls) : Met l yX8_stallAt (hz_w yX8_stallAt cX8_stallAt 3 (some .int)) ({ frames := 1, cells := 0, slots := 0, locals := 22 }) (va_Pc [.ref a, .int p0, .int p1] (hz_P D cs kK kV [(a, .inr (8, [.int a__stalls, .int a__shift, .int a__halves, .int a__buyers, .int a__near, .int a__dusk, .int a__duskPrice, .int a__hear, .int a__forged, .ref a_stall, .ref a_shape, .ref a_side, .ref a_price, .ref a_purse, .ref a_spot, .ref a_club, .ref a_fitting, .ref a_nearly]))])) (va_Qi (fun (r : Int32) (_ : Unit) => (r = 0 ∧ IV 0 0 a__stalls) ∨ (IV 0 7 r ∧ IV 1 8 a__stalls)) (fun _ t => True) (fun _ => False)) 0 0 (fun _ => False) := by
  refine Met.ofW (cc := cX8_stallAt) (maxL := 3) (ret := (some .int)) (by decide) rfl ?_
  intro p e s m args below meth c s₁ B hml hv
  obtain ⟨rfl, hP, hE⟩ := hv
  have hx := B.exec
  have hb := B.bytes
  have hr := B.returns
  have hT : ∀ w ∈ TB, w.before _ s = true := fun w h => atoms_spec (ws := hz_w yX8_stallAt cX8_stallAt 3 (some .int)) B.pre w (List.mem_cons_of_mem _ h)
  have hown : s.vm.findClass RX8 = some m.cls := findClass_of_methodNamed B.named
  have hlocks := B.notSynchronized
  clear B
  have hS : va_S (fun _ => False) s.heap s.heap [] := va_S.rf
  have hK := hE.1
  have hl := lv_entry ([.ref a, .int p0, .int p1]) (n := 3) (Nat.le_of_ble_eq_true rfl)
  rw [lg_entry_eq]
  generalize (lg_sl ([.ref a, .int p0, .int p1]) ++ List.replicate (3 - (lg_sl ([.ref a, .int p0, .int p1])).length) Slot.unset).toArray = ls at hl ⊢
  have hl : lv_has ls 3 [(0, .ref a), (1, .int p0), (2, .int p1)] := hl
  obtain ⟨H, eH⟩ : ∃ z, z = s.heap := ⟨_, rfl⟩
  have hP : va_P D classes [(a, .inr (8, [.int a__stalls, .int a__shift, .int a__halves, .int a__buyers, .int a__near, .int a__dusk, .int a__duskPrice, .int a__hear, .int a__forged, .ref a_stall, .ref a_shape, .ref a_side, .ref a_price, .ref a_purse, .ref a_spot, .ref a_club, .ref a_fitting, .ref a_nearly]))] H := by rw [eH]; exact hP
  have hS : va_S (fun _ => False) s.heap H [] := by rw [eH]; exact hS
  rw [← eH]
  clear eH
  obtain ⟨locs, el⟩ : ∃ z : List Loc, z = [] := ⟨_, rfl⟩
  rw [← el] at hS ⊢
  clear el
  refine lv_aload_n hx hb dX8_stallAt_0 rfl (lv_at hl 0 rfl) ?_
  refine va_get (D := D) (ci := 8) (v := .int a__stalls) (C := RX8) (T := TX8) (N := 18) hx hb hT i_X8 hown hK hP 0 rfl rfl 0 (by decide) (hT _ q_145) (fun _ h9 => h9) rfl dX8_stallAt_1 ?_
  refine lv_if_gt (tgt := 11) hx hb dX8_stallAt_4 (by decide) (fun c1 => ?_) (fun c1 => ?_)
  · have h2 : IV 1 8 a__stalls := iv_lt2 c1 (iv_c (a := 0) (b := 0) (by decide)) h_a__stalls (by decide)
    refine lv_iload_n hx hb dX8_stallAt_11 rfl (lv_at hl 1 rfl) ?_
    refine lv_iload_n hx hb dX8_stallAt_12 rfl (lv_at hl 2 rfl) ?_
    refine lv_aload_n hx hb dX8_stallAt_13 rfl (lv_at hl 0 rfl) ?_
    refine va_get (D := D) (ci := 8) (v := .int a__shift) (C := RX8) (T := TX8) (N := 18) hx hb hT i_X8 hown hK hP 0 rfl rfl 1 (by decide) (hT _ q_146) (fun _ h9 => h9) rfl dX8_stallAt_14 ?_
    refine lv_imul hx hb dX8_stallAt_17 ?_
    refine lv_topi (fun v3 ev3 => ?_)
    refine lv_isub hx hb dX8_stallAt_18 ?_
    refine lv_topi (fun v4 ev4 => ?_)
    refine lv_aload_n hx hb dX8_stallAt_19 rfl (lv_at hl 0 rfl) ?_
    refine va_get (D := D) (ci := 8) (v := .int a__stalls) (C := RX8) (T := TX8) (N := 18) hx hb hT i_X8 hown hK hP 0 rfl rfl 0 (by decide) (hT _ q_145) (fun _ h9 => h9) rfl dX8_stallAt_20 ?_
    refine va_calli (va_runS (As := [.int v4, .int a__stalls]) (rest := []) ⟨hx, hb, hml, hown, hT⟩ (c_J9_floorMod_7cf53_1 l D cs kK kV v4 a__stalls h2) (va_cwS 2 hT (hz_gS q_644 q_645 q_369 q_646) rfl rfl rfl (by decide +kernel) ⟨(Nat.le_of_ble_eq_true rfl), (Nat.le_of_ble_eq_true rfl)⟩) ⟨hz_P.blind, hz_P.mk (hP.sub (ws' := []) [] rfl) hE hS⟩ rfl rfl hl.1 rfl (lv_room (Nat.le_of_ble_eq_true rfl)) dX8_stallAt_23 ⟨(Nat.le_of_ble_eq_true rfl), (Nat.le_of_ble_eq_true rfl)⟩) hS (fun _ _ h => h.elim) (fun _ h => h.elim) (fun r5 u t H1 locs ht hvm hw hB hz1 hk1 hS => ?_)
    have hP := hz_keep hP hk1
    clear hk1 hB hz1
    generalize H1 = H at hP hS ⊢
    have hw_r5 := hw
    exact W.iret (v := r5) hx hb hr (fun t ht hW => ⟨⟨r5, (), rfl, (Or.inr ((⟨hw_r5, h2⟩))), trivial⟩, hS.F ht⟩) hS.2.2 dX8_stallAt_26
  · have h6 : IV 0 0 a__stalls := iv_le1 (Int32.not_lt.mp c1) h_a__stalls (iv_c (a := 0) (b := 0) (by decide)) (by decide)
    refine lv_iconst (v := 0) hx hb dX8_stallAt_7 (by decide) ?_
    refine lv_goto (tgt := 26) hx hb dX8_stallAt_8 (by decide) ?_
    exact W.iret (v := 0) hx hb hr (fun t ht hW => ⟨⟨0, (), rfl, (Or.inl (⟨rfl, h6⟩)), trivial⟩, hS.F ht⟩) hS.2.2 dX8_stallAt_26
theorem dX8_beside_0 : decode cX8_beside 0 = .ok (.aload_n 0, 1) := by decide +kernel
theorem dX8_beside_1 : decode cX8_beside 1 = .ok (.getfield 55, 3) := by decide +kernel
theorem dX8_beside_4 : decode cX8_beside 4 = .ok (.ifCond .gt 7, 3) := by decide +kernel
theorem dX8_beside_7 : decode cX8_beside 7 = .ok (.iconst 0, 1) := by decide +kernel
theorem dX8_beside_8 : decode cX8_beside 8 = .ok (.goto 13, 3) := by decide +kernel
theorem dX8_beside_11 : decode cX8_beside 11 = .ok (.iload_n 1, 1) := by decide +kernel
theorem dX8_beside_12 : decode cX8_beside 12 = .ok (.iload_n 2, 1) := by decide +kernel
theorem dX8_beside_13 : decode cX8_beside 13 = .ok (.iadd, 1) := by decide +kernel
theorem dX8_beside_14 : decode cX8_beside 14 = .ok (.aload_n 0, 1) := by decide +kernel
theorem dX8_beside_15 : decode cX8_beside 15 = .ok (.getfield 55, 3) := by decide +kernel
theorem dX8_beside_18 : decode cX8_beside 18 = .ok (.invokestatic 61, 3) := by decide +kernel
theorem dX8_beside_21 : decode cX8_beside 21 = .ok (.ireturn, 1) := by decide +kernel
set_option maxHeartbeats 4000000 in
set_option maxRecDepth 100000 in
theorem c_X8_beside (l : Launch) (D : va_G) (cs : Nat → ClassId) (kK kV : Nat → Nat) (a : Nat) (p0 : Int32) (p1 : Int32) (a__stalls : Int32) (a__shift : Int32) (a__halves : Int32) (a__buyers : Int32) (a__near : Int32) (a__dusk : Int32) (a__duskPrice : Int32) (a__hear : Int32) (a__forged : Int32) (a_stall : Nat) (a_shape : Nat) (a_side : Nat) (a_price : Nat) (a_purse : Nat) (a_spot : Nat) (a_club : Nat) (a_fitting : Nat) (a_nearly : Nat) (h_a__stalls : IV 0 8 a__stalls) : Met l yX8_beside (hz_w yX8_beside cX8_beside 3 (some .int)) ({ frames := 1, cells := 0, slots := 0, locals := 22 }) (va_Pc [.ref a, .int p0, .int p1] (hz_P D cs kK kV [(a, .inr (8, [.int a__stalls, .int a__shift, .int a__halves, .int a__buyers, .int a__near, .int a__dusk, .int a__duskPrice, .int a__hear, .int a__forged, .ref a_stall, .ref a_shape, .ref a_side, .ref a_price, .ref a_purse, .ref a_spot, .ref a_club, .ref a_fitting, .ref a_nearly]))])) (va_Qi (fun (r : Int32) (_ : Unit) => (r = 0 ∧ IV 0 0 a__stalls) ∨ (IV 0 7 r ∧ IV 1 8 a__stalls)) (fun _ t => True) (fun _ => False)) 0 0 (fun _ => False) := by
  refine Met.ofW (cc := cX8_beside) (maxL := 3) (ret := (some .int)) (by decide) rfl ?_
  intro p e s m args below meth c s₁ B hml hv
  obtain ⟨rfl, hP, hE⟩ := hv
  have hx := B.exec
  have hb := B.bytes
  have hr := B.returns
  have hT : ∀ w ∈ TB, w.before _ s = true := fun w h => atoms_spec (ws := hz_w yX8_beside cX8_beside 3 (some .int)) B.pre w (List.mem_cons_of_mem _ h)
  have hown : s.vm.findClass RX8 = some m.cls := findClass_of_methodNamed B.named
  have hlocks := B.notSynchronized
  clear B
  have hS : va_S (fun _ => False) s.heap s.heap [] := va_S.rf
  have hK := hE.1
  have hl := lv_entry ([.ref a, .int p0, .int p1]) (n := 3) (Nat.le_of_ble_eq_true rfl)
  rw [lg_entry_eq]
  generalize (lg_sl ([.ref a, .int p0, .int p1]) ++ List.replicate (3 - (lg_sl ([.ref a, .int p0, .int p1])).length) Slot.unset).toArray = ls at hl ⊢
  have hl : lv_has ls 3 [(0, .ref a), (1, .int p0), (2, .int p1)] := hl
  obtain ⟨H, eH⟩ : ∃ z, z = s.heap := ⟨_, rfl⟩
  have hP : va_P D classes [(a, .inr (8, [.int a__stalls, .int a__shift, .int a__halves, .int a__buyers, .int a__near, .int a__dusk, .int a__duskPrice, .int a__hear, .int a__forged, .ref a_stall, .ref a_shape, .ref a_side, .ref a_price, .ref a_purse, .ref a_spot, .ref a_club, .ref a_fitting, .ref a_nearly]))] H := by rw [eH]; exact hP
  have hS : va_S (fun _ => False) s.heap H [] := by rw [eH]; exact hS
  rw [← eH]
  clear eH
  obtain ⟨locs, el⟩ : ∃ z : List Loc, z = [] := ⟨_, rfl⟩
  rw [← el] at hS ⊢
  clear el
  refine lv_aload_n hx hb dX8_beside_0 rfl (lv_at hl 0 rfl) ?_
  refine va_get (D := D) (ci := 8) (v := .int a__stalls) (C := RX8) (T := TX8) (N := 18) hx hb hT i_X8 hown hK hP 0 rfl rfl 0 (by decide) (hT _ q_145) (fun _ h9 => h9) rfl dX8_beside_1 ?_
  refine lv_if_gt (tgt := 11) hx hb dX8_beside_4 (by decide) (fun c1 => ?_) (fun c1 => ?_)
  · have h2 : IV 1 8 a__stalls := iv_lt2 c1 (iv_c (a := 0) (b := 0) (by decide)) h_a__stalls (by decide)
    refine lv_iload_n hx hb dX8_beside_11 rfl (lv_at hl 1 rfl) ?_
    refine lv_iload_n hx hb dX8_beside_12 rfl (lv_at hl 2 rfl) ?_
    refine lv_iadd hx hb dX8_beside_13 ?_
    refine lv_topi (fun v3 ev3 => ?_)
    refine lv_aload_n hx hb dX8_beside_14 rfl (lv_at hl 0 rfl) ?_
    refine va_get (D := D) (ci := 8) (v := .int a__stalls) (C := RX8) (T := TX8) (N := 18) hx hb hT i_X8 hown hK hP 0 rfl rfl 0 (by decide) (hT _ q_145) (fun _ h9 => h9) rfl dX8_beside_15 ?_
    refine va_calli (va_runS (As := [.int v3, .int a__stalls]) (rest := []) ⟨hx, hb, hml, hown, hT⟩ (c_J9_floorMod_7cf53_1 l D cs kK kV v3 a__stalls h2) (va_cwS 2 hT (hz_gS q_644 q_645 q_369 q_646) rfl rfl rfl (by decide +kernel) ⟨(Nat.le_of_ble_eq_true rfl), (Nat.le_of_ble_eq_true rfl)⟩) ⟨hz_P.blind, hz_P.mk (hP.sub (ws' := []) [] rfl) hE hS⟩ rfl rfl hl.1 rfl (lv_room (Nat.le_of_ble_eq_true rfl)) dX8_beside_18 ⟨(Nat.le_of_ble_eq_true rfl), (Nat.le_of_ble_eq_true rfl)⟩) hS (fun _ _ h => h.elim) (fun _ h => h.elim) (fun r4 u t H1 locs ht hvm hw hB hz1 hk1 hS => ?_)
    have hP := hz_keep hP hk1
    clear hk1 hB hz1
    generalize H1 = H at hP hS ⊢
    have hw_r4 := hw
    exact W.iret (v := r4) hx hb hr (fun t ht hW => ⟨⟨r4, (), rfl, (Or.inr ((⟨hw_r4, h2⟩))), trivial⟩, hS.F ht⟩) hS.2.2 dX8_beside_21
  · have h5 : IV 0 0 a__stalls := iv_le1 (Int32.not_lt.mp c1) h_a__stalls (iv_c (a := 0) (b := 0) (by decide)) (by decide)
    refine lv_iconst (v := 0) hx hb dX8_beside_7 (by decide) ?_
    refine lv_goto (tgt := 21) hx hb dX8_beside_8 (by decide) ?_
    exact W.iret (v := 0) hx hb hr (fun t ht hW => ⟨⟨0, (), rfl, (Or.inl (⟨rfl, h5⟩)), trivial⟩, hS.F ht⟩) hS.2.2 dX8_beside_21
theorem dX8_far_0 : decode cX8_far 0 = .ok (.iload_n 1, 1) := by decide +kernel
theorem dX8_far_1 : decode cX8_far 1 = .ok (.iload_n 2, 1) := by decide +kernel
theorem dX8_far_2 : decode cX8_far 2 = .ok (.isub, 1) := by decide +kernel
theorem dX8_far_3 : decode cX8_far 3 = .ok (.invokestatic 67, 3) := by decide +kernel
theorem dX8_far_6 : decode cX8_far 6 = .ok (.istore_n 3, 1) := by decide +kernel
theorem dX8_far_7 : decode cX8_far 7 = .ok (.iload_n 3, 1) := by decide +kernel
theorem dX8_far_8 : decode cX8_far 8 = .ok (.aload_n 0, 1) := by decide +kernel
theorem dX8_far_9 : decode cX8_far 9 = .ok (.getfield 55, 3) := by decide +kernel
theorem dX8_far_12 : decode cX8_far 12 = .ok (.iload_n 3, 1) := by decide +kernel
theorem dX8_far_13 : decode cX8_far 13 = .ok (.isub, 1) := by decide +kernel
theorem dX8_far_14 : decode cX8_far 14 = .ok (.invokestatic 71, 3) := by decide +kernel
theorem dX8_far_17 : decode cX8_far 17 = .ok (.ireturn, 1) := by decide +kernel
set_option maxHeartbeats 4000000 in
set_option maxRecDepth 100000 in
theorem c_X8_far (l : Launch) (D : va_G) (cs : Nat → ClassId) (kK kV : Nat → Nat) (a : Nat) (p0 : Int32) (p1 : Int32) (a__stalls : Int32) (a__shift : Int32) (a__halves : Int32) (a__buyers : Int32) (a__near : Int32) (a__dusk : Int32) (a__duskPrice : Int32) (a__hear : Int32) (a__forged : Int32) (a_stall : Nat) (a_shape : Nat) (a_side : Nat) (a_price : Nat) (a_purse : Nat) (a_spot : Nat) (a_club : Nat) (a_fitting : Nat) (a_nearly : Nat)  : Met l yX8_far (hz_w yX8_far cX8_far 4 (some .int)) ({ frames := 1, cells := 0, slots := 0, locals := 21 }) (va_Pc [.ref a, .int p0, .int p1] (hz_P D cs kK kV [(a, .inr (8, [.int a__stalls, .int a__shift, .int a__halves, .int a__buyers, .int a__near, .int a__dusk, .int a__duskPrice, .int a__hear, .int a__forged, .ref a_stall, .ref a_shape, .ref a_side, .ref a_price, .ref a_purse, .ref a_spot, .ref a_club, .ref a_fitting, .ref a_nearly]))])) (va_Qi (fun (r : Int32) (_ : Unit) => True) (fun _ t => True) (fun _ => False)) 0 0 (fun _ => False) := by
  refine Met.ofW (cc := cX8_far) (maxL := 4) (ret := (some .int)) (by decide) rfl ?_
  intro p e s m args below meth c s₁ B hml hv
  obtain ⟨rfl, hP, hE⟩ := hv
  have hx := B.exec
  have hb := B.bytes
  have hr := B.returns
  have hT : ∀ w ∈ TB, w.before _ s = true := fun w h => atoms_spec (ws := hz_w yX8_far cX8_far 4 (some .int)) B.pre w (List.mem_cons_of_mem _ h)
  have hown : s.vm.findClass RX8 = some m.cls := findClass_of_methodNamed B.named
  have hlocks := B.notSynchronized
  clear B
  have hS : va_S (fun _ => False) s.heap s.heap [] := va_S.rf
  have hK := hE.1
  have hl := lv_entry ([.ref a, .int p0, .int p1]) (n := 4) (Nat.le_of_ble_eq_true rfl)
  rw [lg_entry_eq]
  generalize (lg_sl ([.ref a, .int p0, .int p1]) ++ List.replicate (4 - (lg_sl ([.ref a, .int p0, .int p1])).length) Slot.unset).toArray = ls at hl ⊢
  have hl : lv_has ls 4 [(0, .ref a), (1, .int p0), (2, .int p1)] := hl
  obtain ⟨H, eH⟩ : ∃ z, z = s.heap := ⟨_, rfl⟩
  have hP : va_P D classes [(a, .inr (8, [.int a__stalls, .int a__shift, .int a__halves, .int a__buyers, .int a__near, .int a__dusk, .int a__duskPrice, .int a__hear, .int a__forged, .ref a_stall, .ref a_shape, .ref a_side, .ref a_price, .ref a_purse, .ref a_spot, .ref a_club, .ref a_fitting, .ref a_nearly]))] H := by rw [eH]; exact hP
  have hS : va_S (fun _ => False) s.heap H [] := by rw [eH]; exact hS
  rw [← eH]
  clear eH
  obtain ⟨locs, el⟩ : ∃ z : List Loc, z = [] := ⟨_, rfl⟩
  rw [← el] at hS ⊢
  clear el
  refine lv_iload_n hx hb dX8_far_0 rfl (lv_at hl 1 rfl) ?_
  refine lv_iload_n hx hb dX8_far_1 rfl (lv_at hl 2 rfl) ?_
  refine lv_isub hx hb dX8_far_2 ?_
  refine lv_topi (fun v1 ev1 => ?_)
  refine va_calli (va_runS (As := [.int v1]) (rest := []) ⟨hx, hb, hml, hown, hT⟩ (c_J9_abs_0f7a4_2 l D cs kK kV v1) (va_cwS 1 hT (hz_gS q_647 q_648 q_369 q_649) rfl rfl rfl (by decide +kernel) ⟨(Nat.le_of_ble_eq_true rfl), (Nat.le_of_ble_eq_true rfl)⟩) ⟨hz_P.blind, hz_P.mk (hP.sub (ws' := []) [] rfl) hE hS⟩ rfl rfl hl.1 rfl (lv_room (Nat.le_of_ble_eq_true rfl)) dX8_far_3 ⟨(Nat.le_of_ble_eq_true rfl), (Nat.le_of_ble_eq_true rfl)⟩) hS (fun _ _ h => h.elim) (fun _ h => h.elim) (fun r2 u t H1 locs ht hvm hw hB hz1 hk1 hS => ?_)
  have hP := hz_keep hP hk1
  clear hk1 hB hz1
  generalize H1 = H at hP hS ⊢
  refine lv_istore_n (lv' := [(3, .int r2), (0, .ref a), (1, .int p0), (2, .int p1)]) hx hb dX8_far_6 rfl hl (by decide) rfl (fun ls hl => ?_)
  refine lv_iload_n hx hb dX8_far_7 rfl (lv_at hl 0 rfl) ?_
  refine lv_aload_n hx hb dX8_far_8 rfl (lv_at hl 1 rfl) ?_
  refine va_get (D := D) (ci := 8) (v := .int a__stalls) (C := RX8) (T := TX8) (N := 18) hx hb hT i_X8 hown hK hP 0 rfl rfl 0 (by decide) (hT _ q_145) (fun _ h9 => h9) rfl dX8_far_9 ?_
  refine lv_iload_n hx hb dX8_far_12 rfl (lv_at hl 0 rfl) ?_
  refine lv_isub hx hb dX8_far_13 ?_
  refine lv_topi (fun v3 ev3 => ?_)
  refine va_calli (va_runS (As := [.int r2, .int v3]) (rest := []) ⟨hx, hb, hml, hown, hT⟩ (c_J9_min_7cf53_3 l D cs kK kV r2 v3) (va_cwS 2 hT (hz_gS q_650 q_376 q_369 q_377) rfl rfl rfl (by decide +kernel) ⟨(Nat.le_of_ble_eq_true rfl), (Nat.le_of_ble_eq_true rfl)⟩) ⟨hz_P.blind, hz_P.mk (hP.sub (ws' := []) [] rfl) hE hS⟩ rfl rfl hl.1 rfl (lv_room (Nat.le_of_ble_eq_true rfl)) dX8_far_14 ⟨(Nat.le_of_ble_eq_true rfl), (Nat.le_of_ble_eq_true rfl)⟩) hS (fun _ _ h => h.elim) (fun _ h => h.elim) (fun r4 u t H1 locs ht hvm hw hB hz1 hk1 hS => ?_)
  have hP := hz_keep hP hk1
  clear hk1 hB hz1
  generalize H1 = H at hP hS ⊢
  exact W.iret (v := r4) hx hb hr (fun t ht hW => ⟨⟨r4, (), rfl, trivial, trivial⟩, hS.F ht⟩) hS.2.2 dX8_far_17
theorem dX8_left_0 : decode cX8_left 0 = .ok (.aload_n 0, 1) := by decide +kernel
theorem dX8_left_1 : decode cX8_left 1 = .ok (.getfield 9, 3) := by decide +kernel
theorem dX8_left_4 : decode cX8_left 4 = .ok (.iload_n 1, 1) := by decide +kernel
theorem dX8_left_5 : decode cX8_left 5 = .ok (.isub, 1) := by decide +kernel
theorem dX8_left_6 : decode cX8_left 6 = .ok (.iconst 0, 1) := by decide +kernel
theorem dX8_left_7 : decode cX8_left 7 = .ok (.invokestatic 74, 3) := by decide +kernel
theorem dX8_left_10 : decode cX8_left 10 = .ok (.ireturn, 1) := by decide +kernel
set_option maxHeartbeats 4000000 in
set_option maxRecDepth 100000 in
theorem c_X8_left (l : Launch) (D : va_G) (cs : Nat → ClassId) (kK kV : Nat → Nat) (a : Nat) (p0 : Int32) (a__stalls : Int32) (a__shift : Int32) (a__halves : Int32) (a__buyers : Int32) (a__near : Int32) (a__dusk : Int32) (a__duskPrice : Int32) (a__hear : Int32) (a__forged : Int32) (a_stall : Nat) (a_shape : Nat) (a_side : Nat) (a_price : Nat) (a_purse : Nat) (a_spot : Nat) (a_club : Nat) (a_fitting : Nat) (a_nearly : Nat)  : Met l yX8_left (hz_w yX8_left cX8_left 2 (some .int)) ({ frames := 1, cells := 0, slots := 0, locals := 21 }) (va_Pc [.ref a, .int p0] (hz_P D cs kK kV [(a, .inr (8, [.int a__stalls, .int a__shift, .int a__halves, .int a__buyers, .int a__near, .int a__dusk, .int a__duskPrice, .int a__hear, .int a__forged, .ref a_stall, .ref a_shape, .ref a_side, .ref a_price, .ref a_purse, .ref a_spot, .ref a_club, .ref a_fitting, .ref a_nearly]))])) (va_Qi (fun (r : Int32) (_ : Unit) => IV 0 2147483647 r) (fun _ t => True) (fun _ => False)) 0 0 (fun _ => False) := by
  refine Met.ofW (cc := cX8_left) (maxL := 2) (ret := (some .int)) (by decide) rfl ?_
  intro p e s m args below meth c s₁ B hml hv
  obtain ⟨rfl, hP, hE⟩ := hv
  have hx := B.exec
  have hb := B.bytes
  have hr := B.returns
  have hT : ∀ w ∈ TB, w.before _ s = true := fun w h => atoms_spec (ws := hz_w yX8_left cX8_left 2 (some .int)) B.pre w (List.mem_cons_of_mem _ h)
  have hown : s.vm.findClass RX8 = some m.cls := findClass_of_methodNamed B.named
  have hlocks := B.notSynchronized
  clear B
  have hS : va_S (fun _ => False) s.heap s.heap [] := va_S.rf
  have hK := hE.1
  have hl := lv_entry ([.ref a, .int p0]) (n := 2) (Nat.le_of_ble_eq_true rfl)
  rw [lg_entry_eq]
  generalize (lg_sl ([.ref a, .int p0]) ++ List.replicate (2 - (lg_sl ([.ref a, .int p0])).length) Slot.unset).toArray = ls at hl ⊢
  have hl : lv_has ls 2 [(0, .ref a), (1, .int p0)] := hl
  obtain ⟨H, eH⟩ : ∃ z, z = s.heap := ⟨_, rfl⟩
  have hP : va_P D classes [(a, .inr (8, [.int a__stalls, .int a__shift, .int a__halves, .int a__buyers, .int a__near, .int a__dusk, .int a__duskPrice, .int a__hear, .int a__forged, .ref a_stall, .ref a_shape, .ref a_side, .ref a_price, .ref a_purse, .ref a_spot, .ref a_club, .ref a_fitting, .ref a_nearly]))] H := by rw [eH]; exact hP
  have hS : va_S (fun _ => False) s.heap H [] := by rw [eH]; exact hS
  rw [← eH]
  clear eH
  obtain ⟨locs, el⟩ : ∃ z : List Loc, z = [] := ⟨_, rfl⟩
  rw [← el] at hS ⊢
  clear el
  refine lv_aload_n hx hb dX8_left_0 rfl (lv_at hl 0 rfl) ?_
  refine va_get (D := D) (ci := 8) (v := .int a__dusk) (C := RX8) (T := TX8) (N := 18) hx hb hT i_X8 hown hK hP 0 rfl rfl 5 (by decide) (hT _ q_131) (fun _ h9 => h9) rfl dX8_left_1 ?_
  refine lv_iload_n hx hb dX8_left_4 rfl (lv_at hl 1 rfl) ?_
  refine lv_isub hx hb dX8_left_5 ?_
  refine lv_topi (fun v1 ev1 => ?_)
  refine lv_iconst (v := 0) hx hb dX8_left_6 (by decide) ?_
  refine va_calli (va_runS (As := [.int v1, .int 0]) (rest := []) ⟨hx, hb, hml, hown, hT⟩ (c_J9_max_7cf53_4 l D cs kK kV v1) (va_cwS 2 hT (hz_gS q_651 q_368 q_369 q_370) rfl rfl rfl (by decide +kernel) ⟨(Nat.le_of_ble_eq_true rfl), (Nat.le_of_ble_eq_true rfl)⟩) ⟨hz_P.blind, hz_P.mk (hP.sub (ws' := []) [] rfl) hE hS⟩ rfl rfl hl.1 rfl (lv_room (Nat.le_of_ble_eq_true rfl)) dX8_left_7 ⟨(Nat.le_of_ble_eq_true rfl), (Nat.le_of_ble_eq_true rfl)⟩) hS (fun _ _ h => h.elim) (fun _ h => h.elim) (fun r2 u t H1 locs ht hvm hw hB hz1 hk1 hS => ?_)
  have hP := hz_keep hP hk1
  clear hk1 hB hz1
  generalize H1 = H at hP hS ⊢
  rcases hw with ⟨rfl, h3⟩ | ⟨h4, h5⟩
  · exact W.iret (v := 0) hx hb hr (fun t ht hW => ⟨⟨0, (), rfl, (iv_c (by decide)), trivial⟩, hS.F ht⟩) hS.2.2 dX8_left_10
  · exact W.iret (v := r2) hx hb hr (fun t ht hW => ⟨⟨r2, (), rfl, h4, trivial⟩, hS.F ht⟩) hS.2.2 dX8_left_10
theorem dX8_priceAt_0 : decode cX8_priceAt 0 = .ok (.iload_n 2, 1) := by decide +kernel
theorem dX8_priceAt_1 : decode cX8_priceAt 1 = .ok (.aload_n 0, 1) := by decide +kernel
theorem dX8_priceAt_2 : decode cX8_priceAt 2 = .ok (.getfield 9, 3) := by decide +kernel
theorem dX8_priceAt_5 : decode cX8_priceAt 5 = .ok (.if_icmp .lt 10, 3) := by decide +kernel
theorem dX8_priceAt_8 : decode cX8_priceAt 8 = .ok (.aload_n 0, 1) := by decide +kernel
theorem dX8_priceAt_9 : decode cX8_priceAt 9 = .ok (.getfield 15, 3) := by decide +kernel
theorem dX8_priceAt_12 : decode cX8_priceAt 12 = .ok (.goto 9, 3) := by decide +kernel
theorem dX8_priceAt_15 : decode cX8_priceAt 15 = .ok (.aload_n 0, 1) := by decide +kernel
theorem dX8_priceAt_16 : decode cX8_priceAt 16 = .ok (.getfield 31, 3) := by decide +kernel
theorem dX8_priceAt_19 : decode cX8_priceAt 19 = .ok (.iload_n 1, 1) := by decide +kernel
theorem dX8_priceAt_20 : decode cX8_priceAt 20 = .ok (.iaload, 1) := by decide +kernel
theorem dX8_priceAt_21 : decode cX8_priceAt 21 = .ok (.ireturn, 1) := by decide +kernel
set_option maxHeartbeats 4000000 in
set_option maxRecDepth 100000 in
theorem c_X8_priceAt (l : Launch) (D : va_G) (cs : Nat → ClassId) (kK kV : Nat → Nat) (a : Nat) (p0 : Int32) (p1 : Int32) (a__stalls : Int32) (a__shift : Int32) (a__halves : Int32) (a__buyers : Int32) (a__near : Int32) (a__dusk : Int32) (a__duskPrice : Int32) (a__hear : Int32) (a__forged : Int32) (a_stall : Nat) (a_shape : Nat) (a_side : Nat) (a_price : Nat) (a_purse : Nat) (a_spot : Nat) (a_club : Nat) (a_fitting : Nat) (a_nearly : Nat) (a_price_c : Nat → Int32) (h_p0 : IV 0 11 p0) : Met l yX8_priceAt (hz_w yX8_priceAt cX8_priceAt 3 (some .int)) ({ frames := 0, cells := 0, slots := 0, locals := 0 }) (va_Pc [.ref a, .int p0, .int p1] (hz_P D cs kK kV [(a, .inr (8, [.int a__stalls, .int a__shift, .int a__halves, .int a__buyers, .int a__near, .int a__dusk, .int a__duskPrice, .int a__hear, .int a__forged, .ref a_stall, .ref a_shape, .ref a_side, .ref a_price, .ref a_purse, .ref a_spot, .ref a_club, .ref a_fitting, .ref a_nearly])), (a_price, .inl (cs 0, 12, .inl a_price_c))])) (va_Qi (fun (r : Int32) (_ : Unit) => True) (fun _ t => True) (fun _ => False)) 0 0 (fun _ => False) := by
  refine Met.ofW (cc := cX8_priceAt) (maxL := 3) (ret := (some .int)) (by decide) rfl ?_
  intro p e s m args below meth c s₁ B hml hv
  obtain ⟨rfl, hP, hE⟩ := hv
  have hx := B.exec
  have hb := B.bytes
  have hr := B.returns
  have hT : ∀ w ∈ TB, w.before _ s = true := fun w h => atoms_spec (ws := hz_w yX8_priceAt cX8_priceAt 3 (some .int)) B.pre w (List.mem_cons_of_mem _ h)
  have hown : s.vm.findClass RX8 = some m.cls := findClass_of_methodNamed B.named
  have hlocks := B.notSynchronized
  clear B
  have hS : va_S (fun _ => False) s.heap s.heap [] := va_S.rf
  have hK := hE.1
  have hl := lv_entry ([.ref a, .int p0, .int p1]) (n := 3) (Nat.le_of_ble_eq_true rfl)
  rw [lg_entry_eq]
  generalize (lg_sl ([.ref a, .int p0, .int p1]) ++ List.replicate (3 - (lg_sl ([.ref a, .int p0, .int p1])).length) Slot.unset).toArray = ls at hl ⊢
  have hl : lv_has ls 3 [(0, .ref a), (1, .int p0), (2, .int p1)] := hl
  obtain ⟨H, eH⟩ : ∃ z, z = s.heap := ⟨_, rfl⟩
  have hP : va_P D classes [(a, .inr (8, [.int a__stalls, .int a__shift, .int a__halves, .int a__buyers, .int a__near, .int a__dusk, .int a__duskPrice, .int a__hear, .int a__forged, .ref a_stall, .ref a_shape, .ref a_side, .ref a_price, .ref a_purse, .ref a_spot, .ref a_club, .ref a_fitting, .ref a_nearly])), (a_price, .inl (cs 0, 12, .inl a_price_c))] H := by rw [eH]; exact hP
  have hS : va_S (fun _ => False) s.heap H [] := by rw [eH]; exact hS
  rw [← eH]
  clear eH
  obtain ⟨locs, el⟩ : ∃ z : List Loc, z = [] := ⟨_, rfl⟩
  rw [← el] at hS ⊢
  clear el
  refine lv_iload_n hx hb dX8_priceAt_0 rfl (lv_at hl 2 rfl) ?_
  refine lv_aload_n hx hb dX8_priceAt_1 rfl (lv_at hl 0 rfl) ?_
  refine va_get (D := D) (ci := 8) (v := .int a__dusk) (C := RX8) (T := TX8) (N := 18) hx hb hT i_X8 hown hK hP 0 rfl rfl 5 (by decide) (hT _ q_131) (fun _ h9 => h9) rfl dX8_priceAt_2 ?_
  refine lv_icmp_lt (tgt := 15) hx hb dX8_priceAt_5 (by decide) (fun c1 => ?_) (fun c1 => ?_)
  · have h2 : IV (-2147483648) 2147483646 p1 := iv_lt1 c1 iv_top iv_top (by decide)
    have h3 : IV (-2147483647) 2147483647 a__dusk := iv_lt2 c1 iv_top iv_top (by decide)
    refine lv_aload_n hx hb dX8_priceAt_15 rfl (lv_at hl 0 rfl) ?_
    refine va_get (D := D) (ci := 8) (v := .ref a_price) (C := RX8) (T := TX8) (N := 18) hx hb hT i_X8 hown hK hP 0 rfl rfl 12 (by decide) (hT _ q_137) (fun _ h9 => h9) rfl dX8_priceAt_16 ?_
    refine lv_iload_n hx hb dX8_priceAt_19 rfl (lv_at hl 1 rfl) ?_
    refine va_iald hx hb hK hP 1 0 rfl rfl (iv_v h_p0 (by decide) (by decide)) dX8_priceAt_20 ?_
    refine lv_topi (fun v4 ev4 => ?_)
    exact W.iret (v := v4) hx hb hr (fun t ht hW => ⟨⟨v4, (), rfl, trivial, trivial⟩, hS.F ht⟩) hS.2.2 dX8_priceAt_21
  · refine lv_aload_n hx hb dX8_priceAt_8 rfl (lv_at hl 0 rfl) ?_
    refine va_get (D := D) (ci := 8) (v := .int a__duskPrice) (C := RX8) (T := TX8) (N := 18) hx hb hT i_X8 hown hK hP 0 rfl rfl 6 (by decide) (hT _ q_132) (fun _ h9 => h9) rfl dX8_priceAt_9 ?_
    refine lv_goto (tgt := 21) hx hb dX8_priceAt_12 (by decide) ?_
    exact W.iret (v := a__duskPrice) hx hb hr (fun t ht hW => ⟨⟨a__duskPrice, (), rfl, trivial, trivial⟩, hS.F ht⟩) hS.2.2 dX8_priceAt_21
theorem dX8_fitOf_0 : decode cX8_fitOf 0 = .ok (.aload_n 0, 1) := by decide +kernel
theorem dX8_fitOf_1 : decode cX8_fitOf 1 = .ok (.getfield 43, 3) := by decide +kernel
theorem dX8_fitOf_4 : decode cX8_fitOf 4 = .ok (.iload_n 1, 1) := by decide +kernel
theorem dX8_fitOf_5 : decode cX8_fitOf 5 = .ok (.iaload, 1) := by decide +kernel
theorem dX8_fitOf_6 : decode cX8_fitOf 6 = .ok (.iload_n 2, 1) := by decide +kernel
theorem dX8_fitOf_7 : decode cX8_fitOf 7 = .ok (.ishr, 1) := by decide +kernel
theorem dX8_fitOf_8 : decode cX8_fitOf 8 = .ok (.iconst 1, 1) := by decide +kernel
theorem dX8_fitOf_9 : decode cX8_fitOf 9 = .ok (.iand, 1) := by decide +kernel
theorem dX8_fitOf_10 : decode cX8_fitOf 10 = .ok (.iconst 1, 1) := by decide +kernel
theorem dX8_fitOf_11 : decode cX8_fitOf 11 = .ok (.if_icmp .ne 5, 3) := by decide +kernel
theorem dX8_fitOf_14 : decode cX8_fitOf 14 = .ok (.iconst 2, 1) := by decide +kernel
theorem dX8_fitOf_15 : decode cX8_fitOf 15 = .ok (.ireturn, 1) := by decide +kernel
theorem dX8_fitOf_16 : decode cX8_fitOf 16 = .ok (.aload_n 0, 1) := by decide +kernel
theorem dX8_fitOf_17 : decode cX8_fitOf 17 = .ok (.getfield 46, 3) := by decide +kernel
theorem dX8_fitOf_20 : decode cX8_fitOf 20 = .ok (.iload_n 1, 1) := by decide +kernel
theorem dX8_fitOf_21 : decode cX8_fitOf 21 = .ok (.iaload, 1) := by decide +kernel
theorem dX8_fitOf_22 : decode cX8_fitOf 22 = .ok (.iload_n 2, 1) := by decide +kernel
theorem dX8_fitOf_23 : decode cX8_fitOf 23 = .ok (.ishr, 1) := by decide +kernel
theorem dX8_fitOf_24 : decode cX8_fitOf 24 = .ok (.iconst 1, 1) := by decide +kernel
theorem dX8_fitOf_25 : decode cX8_fitOf 25 = .ok (.iand, 1) := by decide +kernel
theorem dX8_fitOf_26 : decode cX8_fitOf 26 = .ok (.ireturn, 1) := by decide +kernel
set_option maxHeartbeats 4000000 in
set_option maxRecDepth 100000 in
theorem c_X8_fitOf (l : Launch) (D : va_G) (cs : Nat → ClassId) (kK kV : Nat → Nat) (a : Nat) (p0 : Int32) (p1 : Int32) (a__stalls : Int32) (a__shift : Int32) (a__halves : Int32) (a__buyers : Int32) (a__near : Int32) (a__dusk : Int32) (a__duskPrice : Int32) (a__hear : Int32) (a__forged : Int32) (a_stall : Nat) (a_shape : Nat) (a_side : Nat) (a_price : Nat) (a_purse : Nat) (a_spot : Nat) (a_club : Nat) (a_fitting : Nat) (a_nearly : Nat) (a_fitting_c : Nat → Int32) (a_nearly_c : Nat → Int32) (h_p0 : IV 0 11 p0) : Met l yX8_fitOf (hz_w yX8_fitOf cX8_fitOf 3 (some .int)) ({ frames := 0, cells := 0, slots := 0, locals := 0 }) (va_Pc [.ref a, .int p0, .int p1] (hz_P D cs kK kV [(a, .inr (8, [.int a__stalls, .int a__shift, .int a__halves, .int a__buyers, .int a__near, .int a__dusk, .int a__duskPrice, .int a__hear, .int a__forged, .ref a_stall, .ref a_shape, .ref a_side, .ref a_price, .ref a_purse, .ref a_spot, .ref a_club, .ref a_fitting, .ref a_nearly])), (a_fitting, .inl (cs 0, 12, .inl a_fitting_c)), (a_nearly, .inl (cs 0, 12, .inl a_nearly_c))])) (va_Qi (fun (r : Int32) (_ : Unit) => IV 0 2 r) (fun _ t => True) (fun _ => False)) 0 0 (fun _ => False) := by
  refine Met.ofW (cc := cX8_fitOf) (maxL := 3) (ret := (some .int)) (by decide) rfl ?_
  intro p e s m args below meth c s₁ B hml hv
  obtain ⟨rfl, hP, hE⟩ := hv
  have hx := B.exec
  have hb := B.bytes
  have hr := B.returns
  have hT : ∀ w ∈ TB, w.before _ s = true := fun w h => atoms_spec (ws := hz_w yX8_fitOf cX8_fitOf 3 (some .int)) B.pre w (List.mem_cons_of_mem _ h)
  have hown : s.vm.findClass RX8 = some m.cls := findClass_of_methodNamed B.named
  have hlocks := B.notSynchronized
  clear B
  have hS : va_S (fun _ => False) s.heap s.heap [] := va_S.rf
  have hK := hE.1
  have hl := lv_entry ([.ref a, .int p0, .int p1]) (n := 3) (Nat.le_of_ble_eq_true rfl)
  rw [lg_entry_eq]
  generalize (lg_sl ([.ref a, .int p0, .int p1]) ++ List.replicate (3 - (lg_sl ([.ref a, .int p0, .int p1])).length) Slot.unset).toArray = ls at hl ⊢
  have hl : lv_has ls 3 [(0, .ref a), (1, .int p0), (2, .int p1)] := hl
  obtain ⟨H, eH⟩ : ∃ z, z = s.heap := ⟨_, rfl⟩
  have hP : va_P D classes [(a, .inr (8, [.int a__stalls, .int a__shift, .int a__halves, .int a__buyers, .int a__near, .int a__dusk, .int a__duskPrice, .int a__hear, .int a__forged, .ref a_stall, .ref a_shape, .ref a_side, .ref a_price, .ref a_purse, .ref a_spot, .ref a_club, .ref a_fitting, .ref a_nearly])), (a_fitting, .inl (cs 0, 12, .inl a_fitting_c)), (a_nearly, .inl (cs 0, 12, .inl a_nearly_c))] H := by rw [eH]; exact hP
  have hS : va_S (fun _ => False) s.heap H [] := by rw [eH]; exact hS
  rw [← eH]
  clear eH
  obtain ⟨locs, el⟩ : ∃ z : List Loc, z = [] := ⟨_, rfl⟩
  rw [← el] at hS ⊢
  clear el
  refine lv_aload_n hx hb dX8_fitOf_0 rfl (lv_at hl 0 rfl) ?_
  refine va_get (D := D) (ci := 8) (v := .ref a_fitting) (C := RX8) (T := TX8) (N := 18) hx hb hT i_X8 hown hK hP 0 rfl rfl 16 (by decide) (hT _ q_141) (fun _ h9 => h9) rfl dX8_fitOf_1 ?_
  refine lv_iload_n hx hb dX8_fitOf_4 rfl (lv_at hl 1 rfl) ?_
  refine va_iald hx hb hK hP 1 0 rfl rfl (iv_v h_p0 (by decide) (by decide)) dX8_fitOf_5 ?_
  refine lv_topi (fun v1 ev1 => ?_)
  refine lv_iload_n hx hb dX8_fitOf_6 rfl (lv_at hl 2 rfl) ?_
  refine lv_ishr hx hb dX8_fitOf_7 ?_
  refine lv_topi (fun v2 ev2 => ?_)
  refine lv_iconst (v := 1) hx hb dX8_fitOf_8 (by decide) ?_
  refine lv_iand hx hb dX8_fitOf_9 ?_
  refine lv_topi (fun v3 ev3 => ?_)
  have hv3 : IV 0 1 v3 := iv_and2 ev3 (iv_c (a := 1) (b := 1) (by decide))
  refine lv_iconst (v := 1) hx hb dX8_fitOf_10 (by decide) ?_
  refine lv_icmp_ne (tgt := 16) hx hb dX8_fitOf_11 (by decide) (fun c4 => ?_) (fun c4 => ?_)
  · have h5 : IV 0 0 v3 := iv_neR c4 hv3 (by decide)
    refine lv_aload_n hx hb dX8_fitOf_16 rfl (lv_at hl 0 rfl) ?_
    refine va_get (D := D) (ci := 8) (v := .ref a_nearly) (C := RX8) (T := TX8) (N := 18) hx hb hT i_X8 hown hK hP 0 rfl rfl 17 (by decide) (hT _ q_142) (fun _ h9 => h9) rfl dX8_fitOf_17 ?_
    refine lv_iload_n hx hb dX8_fitOf_20 rfl (lv_at hl 1 rfl) ?_
    refine va_iald hx hb hK hP 2 0 rfl rfl (iv_v h_p0 (by decide) (by decide)) dX8_fitOf_21 ?_
    refine lv_topi (fun v6 ev6 => ?_)
    refine lv_iload_n hx hb dX8_fitOf_22 rfl (lv_at hl 2 rfl) ?_
    refine lv_ishr hx hb dX8_fitOf_23 ?_
    refine lv_topi (fun v7 ev7 => ?_)
    refine lv_iconst (v := 1) hx hb dX8_fitOf_24 (by decide) ?_
    refine lv_iand hx hb dX8_fitOf_25 ?_
    refine lv_topi (fun v8 ev8 => ?_)
    have hv8 : IV 0 1 v8 := iv_and2 ev8 (iv_c (a := 1) (b := 1) (by decide))
    exact W.iret (v := v8) hx hb hr (fun t ht hW => ⟨⟨v8, (), rfl, (iv_w hv8 (by decide) (by decide)), trivial⟩, hS.F ht⟩) hS.2.2 dX8_fitOf_26
  · have h9 : IV 1 1 v3 := iv_eq1 c4 hv3 (iv_c (a := 1) (b := 1) (by decide)) (by decide) (by decide)
    refine lv_iconst (v := 2) hx hb dX8_fitOf_14 (by decide) ?_
    exact W.iret (v := 2) hx hb hr (fun t ht hW => ⟨⟨2, (), rfl, (iv_c (by decide)), trivial⟩, hS.F ht⟩) hS.2.2 dX8_fitOf_15
theorem dX8_fitsByShape_0 : decode cX8_fitsByShape 0 = .ok (.aload_n 0, 1) := by decide +kernel
theorem dX8_fitsByShape_1 : decode cX8_fitsByShape 1 = .ok (.getfield 28, 3) := by decide +kernel
theorem dX8_fitsByShape_4 : decode cX8_fitsByShape 4 = .ok (.iload_n 1, 1) := by decide +kernel
theorem dX8_fitsByShape_5 : decode cX8_fitsByShape 5 = .ok (.iaload, 1) := by decide +kernel
theorem dX8_fitsByShape_6 : decode cX8_fitsByShape 6 = .ok (.aload_n 0, 1) := by decide +kernel
theorem dX8_fitsByShape_7 : decode cX8_fitsByShape 7 = .ok (.getfield 28, 3) := by decide +kernel
theorem dX8_fitsByShape_10 : decode cX8_fitsByShape 10 = .ok (.iload_n 2, 1) := by decide +kernel
theorem dX8_fitsByShape_11 : decode cX8_fitsByShape 11 = .ok (.iaload, 1) := by decide +kernel
theorem dX8_fitsByShape_12 : decode cX8_fitsByShape 12 = .ok (.if_icmp .eq 22, 3) := by decide +kernel
theorem dX8_fitsByShape_15 : decode cX8_fitsByShape 15 = .ok (.aload_n 0, 1) := by decide +kernel
theorem dX8_fitsByShape_16 : decode cX8_fitsByShape 16 = .ok (.getfield 25, 3) := by decide +kernel
theorem dX8_fitsByShape_19 : decode cX8_fitsByShape 19 = .ok (.iload_n 1, 1) := by decide +kernel
theorem dX8_fitsByShape_20 : decode cX8_fitsByShape 20 = .ok (.iaload, 1) := by decide +kernel
theorem dX8_fitsByShape_21 : decode cX8_fitsByShape 21 = .ok (.aload_n 0, 1) := by decide +kernel
theorem dX8_fitsByShape_22 : decode cX8_fitsByShape 22 = .ok (.getfield 25, 3) := by decide +kernel
theorem dX8_fitsByShape_25 : decode cX8_fitsByShape 25 = .ok (.iload_n 2, 1) := by decide +kernel
theorem dX8_fitsByShape_26 : decode cX8_fitsByShape 26 = .ok (.iaload, 1) := by decide +kernel
theorem dX8_fitsByShape_27 : decode cX8_fitsByShape 27 = .ok (.if_icmp .ne 7, 3) := by decide +kernel
theorem dX8_fitsByShape_30 : decode cX8_fitsByShape 30 = .ok (.iconst 1, 1) := by decide +kernel
theorem dX8_fitsByShape_31 : decode cX8_fitsByShape 31 = .ok (.goto 4, 3) := by decide +kernel
theorem dX8_fitsByShape_34 : decode cX8_fitsByShape 34 = .ok (.iconst 0, 1) := by decide +kernel
theorem dX8_fitsByShape_35 : decode cX8_fitsByShape 35 = .ok (.ireturn, 1) := by decide +kernel
set_option maxHeartbeats 4000000 in
set_option maxRecDepth 100000 in
theorem c_X8_fitsByShape (l : Launch) (D : va_G) (cs : Nat → ClassId) (kK kV : Nat → Nat) (a : Nat) (p0 : Int32) (p1 : Int32) (a__stalls : Int32) (a__shift : Int32) (a__halves : Int32) (a__buyers : Int32) (a__near : Int32) (a__dusk : Int32) (a__duskPrice : Int32) (a__hear : Int32) (a__forged : Int32) (a_stall : Nat) (a_shape : Nat) (a_side : Nat) (a_price : Nat) (a_purse : Nat) (a_spot : Nat) (a_club : Nat) (a_fitting : Nat) (a_nearly : Nat) (a_side_c : Nat → Int32) (a_shape_c : Nat → Int32) (h_p0 : IV 0 11 p0) (h_p1 : IV 0 11 p1) : Met l yX8_fitsByShape (hz_w yX8_fitsByShape cX8_fitsByShape 3 (some .boolean)) ({ frames := 0, cells := 0, slots := 0, locals := 0 }) (va_Pc [.ref a, .int p0, .int p1] (hz_P D cs kK kV [(a, .inr (8, [.int a__stalls, .int a__shift, .int a__halves, .int a__buyers, .int a__near, .int a__dusk, .int a__duskPrice, .int a__hear, .int a__forged, .ref a_stall, .ref a_shape, .ref a_side, .ref a_price, .ref a_purse, .ref a_spot, .ref a_club, .ref a_fitting, .ref a_nearly])), (a_side, .inl (cs 0, 12, .inl a_side_c)), (a_shape, .inl (cs 0, 12, .inl a_shape_c))])) (va_Qi (fun (r : Int32) (_ : Unit) => (r = 0) ∨ (r = 1)) (fun _ t => True) (fun _ => False)) 0 0 (fun _ => False) := by
  refine Met.ofW (cc := cX8_fitsByShape) (maxL := 3) (ret := (some .boolean)) (by decide) rfl ?_
  intro p e s m args below meth c s₁ B hml hv
  obtain ⟨rfl, hP, hE⟩ := hv
  have hx := B.exec
  have hb := B.bytes
  have hr := B.returns
  have hT : ∀ w ∈ TB, w.before _ s = true := fun w h => atoms_spec (ws := hz_w yX8_fitsByShape cX8_fitsByShape 3 (some .boolean)) B.pre w (List.mem_cons_of_mem _ h)
  have hown : s.vm.findClass RX8 = some m.cls := findClass_of_methodNamed B.named
  have hlocks := B.notSynchronized
  clear B
  have hS : va_S (fun _ => False) s.heap s.heap [] := va_S.rf
  have hK := hE.1
  have hl := lv_entry ([.ref a, .int p0, .int p1]) (n := 3) (Nat.le_of_ble_eq_true rfl)
  rw [lg_entry_eq]
  generalize (lg_sl ([.ref a, .int p0, .int p1]) ++ List.replicate (3 - (lg_sl ([.ref a, .int p0, .int p1])).length) Slot.unset).toArray = ls at hl ⊢
  have hl : lv_has ls 3 [(0, .ref a), (1, .int p0), (2, .int p1)] := hl
  obtain ⟨H, eH⟩ : ∃ z, z = s.heap := ⟨_, rfl⟩
  have hP : va_P D classes [(a, .inr (8, [.int a__stalls, .int a__shift, .int a__halves, .int a__buyers, .int a__near, .int a__dusk, .int a__duskPrice, .int a__hear, .int a__forged, .ref a_stall, .ref a_shape, .ref a_side, .ref a_price, .ref a_purse, .ref a_spot, .ref a_club, .ref a_fitting, .ref a_nearly])), (a_side, .inl (cs 0, 12, .inl a_side_c)), (a_shape, .inl (cs 0, 12, .inl a_shape_c))] H := by rw [eH]; exact hP
  have hS : va_S (fun _ => False) s.heap H [] := by rw [eH]; exact hS
  rw [← eH]
  clear eH
  obtain ⟨locs, el⟩ : ∃ z : List Loc, z = [] := ⟨_, rfl⟩
  rw [← el] at hS ⊢
  clear el
  refine lv_aload_n hx hb dX8_fitsByShape_0 rfl (lv_at hl 0 rfl) ?_
  refine va_get (D := D) (ci := 8) (v := .ref a_side) (C := RX8) (T := TX8) (N := 18) hx hb hT i_X8 hown hK hP 0 rfl rfl 11 (by decide) (hT _ q_136) (fun _ h9 => h9) rfl dX8_fitsByShape_1 ?_
  refine lv_iload_n hx hb dX8_fitsByShape_4 rfl (lv_at hl 1 rfl) ?_
  refine va_iald hx hb hK hP 1 0 rfl rfl (iv_v h_p0 (by decide) (by decide)) dX8_fitsByShape_5 ?_
  refine lv_topi (fun v1 ev1 => ?_)
  refine lv_aload_n hx hb dX8_fitsByShape_6 rfl (lv_at hl 0 rfl) ?_
  refine va_get (D := D) (ci := 8) (v := .ref a_side) (C := RX8) (T := TX8) (N := 18) hx hb hT i_X8 hown hK hP 0 rfl rfl 11 (by decide) (hT _ q_136) (fun _ h9 => h9) rfl dX8_fitsByShape_7 ?_
  refine lv_iload_n hx hb dX8_fitsByShape_10 rfl (lv_at hl 2 rfl) ?_
  refine va_iald hx hb hK hP 1 0 rfl rfl (iv_v h_p1 (by decide) (by decide)) dX8_fitsByShape_11 ?_
  refine lv_topi (fun v2 ev2 => ?_)
  refine lv_icmp_eq (tgt := 34) hx hb dX8_fitsByShape_12 (by decide) (fun c3 => ?_) (fun c3 => ?_)
  · refine lv_iconst (v := 0) hx hb dX8_fitsByShape_34 (by decide) ?_
    exact W.zret (v := 0) hx hb hr rfl (fun t ht hW => ⟨⟨0, (), rfl, (Or.inl (rfl)), trivial⟩, hS.F ht⟩) hS.2.2 dX8_fitsByShape_35
  · refine lv_aload_n hx hb dX8_fitsByShape_15 rfl (lv_at hl 0 rfl) ?_
    refine va_get (D := D) (ci := 8) (v := .ref a_shape) (C := RX8) (T := TX8) (N := 18) hx hb hT i_X8 hown hK hP 0 rfl rfl 10 (by decide) (hT _ q_135) (fun _ h9 => h9) rfl dX8_fitsByShape_16 ?_
    refine lv_iload_n hx hb dX8_fitsByShape_19 rfl (lv_at hl 1 rfl) ?_
    refine va_iald hx hb hK hP 2 0 rfl rfl (iv_v h_p0 (by decide) (by decide)) dX8_fitsByShape_20 ?_
    refine lv_topi (fun v4 ev4 => ?_)
    refine lv_aload_n hx hb dX8_fitsByShape_21 rfl (lv_at hl 0 rfl) ?_
    refine va_get (D := D) (ci := 8) (v := .ref a_shape) (C := RX8) (T := TX8) (N := 18) hx hb hT i_X8 hown hK hP 0 rfl rfl 10 (by decide) (hT _ q_135) (fun _ h9 => h9) rfl dX8_fitsByShape_22 ?_
    refine lv_iload_n hx hb dX8_fitsByShape_25 rfl (lv_at hl 2 rfl) ?_
    refine va_iald hx hb hK hP 2 0 rfl rfl (iv_v h_p1 (by decide) (by decide)) dX8_fitsByShape_26 ?_
    refine lv_topi (fun v5 ev5 => ?_)
    refine lv_icmp_ne (tgt := 34) hx hb dX8_fitsByShape_27 (by decide) (fun c6 => ?_) (fun c6 => ?_)
    · refine lv_iconst (v := 0) hx hb dX8_fitsByShape_34 (by decide) ?_
      exact W.zret (v := 0) hx hb hr rfl (fun t ht hW => ⟨⟨0, (), rfl, (Or.inl (rfl)), trivial⟩, hS.F ht⟩) hS.2.2 dX8_fitsByShape_35
    · refine lv_iconst (v := 1) hx hb dX8_fitsByShape_30 (by decide) ?_
      refine lv_goto (tgt := 35) hx hb dX8_fitsByShape_31 (by decide) ?_
      exact W.zret (v := 1) hx hb hr rfl (fun t ht hW => ⟨⟨1, (), rfl, (Or.inr ((rfl))), trivial⟩, hS.F ht⟩) hS.2.2 dX8_fitsByShape_35
theorem dX8_shapedLike_0 : decode cX8_shapedLike 0 = .ok (.iconst 0, 1) := by decide +kernel
theorem dX8_shapedLike_1 : decode cX8_shapedLike 1 = .ok (.istore_n 2, 1) := by decide +kernel
theorem dX8_shapedLike_2 : decode cX8_shapedLike 2 = .ok (.iconst 0, 1) := by decide +kernel
theorem dX8_shapedLike_3 : decode cX8_shapedLike 3 = .ok (.istore_n 3, 1) := by decide +kernel
theorem dX8_shapedLike_4 : decode cX8_shapedLike 4 = .ok (.iload_n 3, 1) := by decide +kernel
theorem dX8_shapedLike_5 : decode cX8_shapedLike 5 = .ok (.aload_n 0, 1) := by decide +kernel
theorem dX8_shapedLike_6 : decode cX8_shapedLike 6 = .ok (.getfield 49, 3) := by decide +kernel
theorem dX8_shapedLike_9 : decode cX8_shapedLike 9 = .ok (.if_icmp .ge 33, 3) := by decide +kernel
theorem dX8_shapedLike_12 : decode cX8_shapedLike 12 = .ok (.aload_n 0, 1) := by decide +kernel
theorem dX8_shapedLike_13 : decode cX8_shapedLike 13 = .ok (.getfield 25, 3) := by decide +kernel
theorem dX8_shapedLike_16 : decode cX8_shapedLike 16 = .ok (.iload_n 3, 1) := by decide +kernel
theorem dX8_shapedLike_17 : decode cX8_shapedLike 17 = .ok (.iaload, 1) := by decide +kernel
theorem dX8_shapedLike_18 : decode cX8_shapedLike 18 = .ok (.iload_n 1, 1) := by decide +kernel
theorem dX8_shapedLike_19 : decode cX8_shapedLike 19 = .ok (.isub, 1) := by decide +kernel
theorem dX8_shapedLike_20 : decode cX8_shapedLike 20 = .ok (.invokestatic 67, 3) := by decide +kernel
theorem dX8_shapedLike_23 : decode cX8_shapedLike 23 = .ok (.aload_n 0, 1) := by decide +kernel
theorem dX8_shapedLike_24 : decode cX8_shapedLike 24 = .ok (.getfield 77, 3) := by decide +kernel
theorem dX8_shapedLike_27 : decode cX8_shapedLike 27 = .ok (.if_icmp .gt 9, 3) := by decide +kernel
theorem dX8_shapedLike_30 : decode cX8_shapedLike 30 = .ok (.iload_n 2, 1) := by decide +kernel
theorem dX8_shapedLike_31 : decode cX8_shapedLike 31 = .ok (.iconst 1, 1) := by decide +kernel
theorem dX8_shapedLike_32 : decode cX8_shapedLike 32 = .ok (.iload_n 3, 1) := by decide +kernel
theorem dX8_shapedLike_33 : decode cX8_shapedLike 33 = .ok (.ishl, 1) := by decide +kernel
theorem dX8_shapedLike_34 : decode cX8_shapedLike 34 = .ok (.ior, 1) := by decide +kernel
theorem dX8_shapedLike_35 : decode cX8_shapedLike 35 = .ok (.istore_n 2, 1) := by decide +kernel
theorem dX8_shapedLike_36 : decode cX8_shapedLike 36 = .ok (.iinc 3 1, 3) := by decide +kernel
theorem dX8_shapedLike_39 : decode cX8_shapedLike 39 = .ok (.goto (-35), 3) := by decide +kernel
theorem dX8_shapedLike_42 : decode cX8_shapedLike 42 = .ok (.iload_n 2, 1) := by decide +kernel
theorem dX8_shapedLike_43 : decode cX8_shapedLike 43 = .ok (.ireturn, 1) := by decide +kernel
set_option maxHeartbeats 4000000 in
set_option maxRecDepth 100000 in
theorem c_X8_shapedLike (l : Launch) (D : va_G) (cs : Nat → ClassId) (kK kV : Nat → Nat) (a : Nat) (p0 : Int32) (a__stalls : Int32) (a__shift : Int32) (a__halves : Int32) (a__buyers : Int32) (a__near : Int32) (a__dusk : Int32) (a__duskPrice : Int32) (a__hear : Int32) (a__forged : Int32) (a_stall : Nat) (a_shape : Nat) (a_side : Nat) (a_price : Nat) (a_purse : Nat) (a_spot : Nat) (a_club : Nat) (a_fitting : Nat) (a_nearly : Nat) (a_shape_c : Nat → Int32) (h_a__halves : IV 0 12 a__halves) : Met l yX8_shapedLike (hz_w yX8_shapedLike cX8_shapedLike 4 (some .int)) ({ frames := 1, cells := 0, slots := 0, locals := 20 }) (va_Pc [.ref a, .int p0] (hz_P D cs kK kV [(a, .inr (8, [.int a__stalls, .int a__shift, .int a__halves, .int a__buyers, .int a__near, .int a__dusk, .int a__duskPrice, .int a__hear, .int a__forged, .ref a_stall, .ref a_shape, .ref a_side, .ref a_price, .ref a_purse, .ref a_spot, .ref a_club, .ref a_fitting, .ref a_nearly])), (a_shape, .inl (cs 0, 12, .inl a_shape_c))])) (va_Qi (fun (r : Int32) (_ : Unit) => IV 0 4095 r) (fun _ t => True) (fun _ => False)) 0 0 (fun _ => False) := by
  refine Met.ofW (cc := cX8_shapedLike) (maxL := 4) (ret := (some .int)) (by decide) rfl ?_
  intro p e s m args below meth c s₁ B hml hv
  obtain ⟨rfl, hP, hE⟩ := hv
  have hx := B.exec
  have hb := B.bytes
  have hr := B.returns
  have hT : ∀ w ∈ TB, w.before _ s = true := fun w h => atoms_spec (ws := hz_w yX8_shapedLike cX8_shapedLike 4 (some .int)) B.pre w (List.mem_cons_of_mem _ h)
  have hown : s.vm.findClass RX8 = some m.cls := findClass_of_methodNamed B.named
  have hlocks := B.notSynchronized
  clear B
  have hS : va_S (fun _ => False) s.heap s.heap [] := va_S.rf
  have hK := hE.1
  have hl := lv_entry ([.ref a, .int p0]) (n := 4) (Nat.le_of_ble_eq_true rfl)
  rw [lg_entry_eq]
  generalize (lg_sl ([.ref a, .int p0]) ++ List.replicate (4 - (lg_sl ([.ref a, .int p0])).length) Slot.unset).toArray = ls at hl ⊢
  have hl : lv_has ls 4 [(0, .ref a), (1, .int p0)] := hl
  obtain ⟨H, eH⟩ : ∃ z, z = s.heap := ⟨_, rfl⟩
  have hP : va_P D classes [(a, .inr (8, [.int a__stalls, .int a__shift, .int a__halves, .int a__buyers, .int a__near, .int a__dusk, .int a__duskPrice, .int a__hear, .int a__forged, .ref a_stall, .ref a_shape, .ref a_side, .ref a_price, .ref a_purse, .ref a_spot, .ref a_club, .ref a_fitting, .ref a_nearly])), (a_shape, .inl (cs 0, 12, .inl a_shape_c))] H := by rw [eH]; exact hP
  have hS : va_S (fun _ => False) s.heap H [] := by rw [eH]; exact hS
  rw [← eH]
  clear eH
  obtain ⟨locs, el⟩ : ∃ z : List Loc, z = [] := ⟨_, rfl⟩
  rw [← el] at hS ⊢
  clear el
  have K4 : ∀ (n : Nat) (k4_L_3 : Int32) (k4_L_2 : Int32), (12 - k4_L_3.toInt + 1).toNat ≤ n → IV 0 4095 k4_L_2 → IV 0 12 k4_L_3 → ∀ (H : Heap) (locs : List Loc), va_P D classes [(a, .inr (8, [.int a__stalls, .int a__shift, .int a__halves, .int a__buyers, .int a__near, .int a__dusk, .int a__duskPrice, .int a__hear, .int a__forged, .ref a_stall, .ref a_shape, .ref a_side, .ref a_price, .ref a_purse, .ref a_spot, .ref a_club, .ref a_fitting, .ref a_nearly])), (a_shape, .inl (cs 0, 12, .inl a_shape_c))] H → va_S (fun _ => False) s.heap H locs → ∀ ls : Array Slot, lv_has ls 4 [(3, .int k4_L_3), (2, .int k4_L_2), (0, .ref a), (1, .int p0)] → W p l e (headSpec (hz_w yX8_shapedLike cX8_shapedLike 4 (some .int)) ({ frames := 1, cells := 0, slots := 0, locals := 20 })).room s m [.ref a, .int p0].toArray below meth c H locs 0 0 (MQ below (va_Qi (fun (r : Int32) (_ : Unit) => IV 0 4095 r) (fun _ t => True) (fun _ => False)) [.ref a, .int p0].toArray s 0 0 (fun _ => False)) (F0 m 4 ls []) := by
    intro n
    induction n with
    | zero =>
      intro k4_L_3 k4_L_2 hn q4_3 q4_4 H locs hP hS ls hl
      exact absurd hn (by unfold IV at q4_4; omega)
    | succ n ih4 =>
      intro k4_L_3 k4_L_2 hn q4_3 q4_4 H locs hP hS ls hl
      have K36 : ∀ (k36_L_2 : Int32), IV 1 12 a__halves → IV 0 4095 k36_L_2 → IV 0 11 k4_L_3 → ∀ (H : Heap) (locs : List Loc), va_P D classes [(a, .inr (8, [.int a__stalls, .int a__shift, .int a__halves, .int a__buyers, .int a__near, .int a__dusk, .int a__duskPrice, .int a__hear, .int a__forged, .ref a_stall, .ref a_shape, .ref a_side, .ref a_price, .ref a_purse, .ref a_spot, .ref a_club, .ref a_fitting, .ref a_nearly])), (a_shape, .inl (cs 0, 12, .inl a_shape_c))] H → va_S (fun _ => False) s.heap H locs → ∀ ls : Array Slot, lv_has ls 4 [(3, .int k4_L_3), (2, .int k36_L_2), (0, .ref a), (1, .int p0)] → W p l e (headSpec (hz_w yX8_shapedLike cX8_shapedLike 4 (some .int)) ({ frames := 1, cells := 0, slots := 0, locals := 20 })).room s m [.ref a, .int p0].toArray below meth c H locs 0 0 (MQ below (va_Qi (fun (r : Int32) (_ : Unit) => IV 0 4095 r) (fun _ t => True) (fun _ => False)) [.ref a, .int p0].toArray s 0 0 (fun _ => False)) (F0 m 36 ls []) := by
        intro k36_L_2 q36_1 q36_3 q36_4 H locs hP hS ls hl
        obtain ⟨v1, ev1⟩ : ∃ z : Int32, z = k4_L_3 + 1 := ⟨_, rfl⟩
        have hv1 : IV 1 12 v1 := iv_add ev1 q36_4 (iv_c (a := 1) (b := 1) (by decide)) (by decide) (by decide)
        have dv1 : v1.toInt = k4_L_3.toInt + 1 := iv_addE ev1 q36_4 (iv_c (a := 1) (b := 1) (by decide)) (by decide) (by decide) (by decide)
        refine lv_iinc (v := v1) (lv' := [(3, .int v1), (2, .int k36_L_2), (0, .ref a), (1, .int p0)]) hx hb dX8_shapedLike_36 hl (k := 0) rfl (by rw [ev1]; rfl) (by decide) rfl (fun ls hl => ?_)
        refine lv_goto (tgt := 4) hx hb dX8_shapedLike_39 (by decide) ?_
        exact ih4 v1 k36_L_2 (by have h9 := q36_4; unfold IV at h9; have := dv1; omega) q36_3 (iv_w hv1 (by decide) (by decide)) H locs (hP.sub (ws' := [(a, .inr (8, [.int a__stalls, .int a__shift, .int a__halves, .int a__buyers, .int a__near, .int a__dusk, .int a__duskPrice, .int a__hear, .int a__forged, .ref a_stall, .ref a_shape, .ref a_side, .ref a_price, .ref a_purse, .ref a_spot, .ref a_club, .ref a_fitting, .ref a_nearly])), (a_shape, .inl (cs 0, 12, .inl a_shape_c))]) [0, 1] rfl) hS ls (lv_sub hl [0, 1, 2, 3] rfl)
      refine lv_iload_n hx hb dX8_shapedLike_4 rfl (lv_at hl 0 rfl) ?_
      refine lv_aload_n hx hb dX8_shapedLike_5 rfl (lv_at hl 2 rfl) ?_
      refine va_get (D := D) (ci := 8) (v := .int a__halves) (C := RX8) (T := TX8) (N := 18) hx hb hT i_X8 hown hK hP 0 rfl rfl 2 (by decide) (hT _ q_143) (fun _ h9 => h9) rfl dX8_shapedLike_6 ?_
      refine lv_icmp_ge (tgt := 42) hx hb dX8_shapedLike_9 (by decide) (fun c2 => ?_) (fun c2 => ?_)
      · refine lv_iload_n hx hb dX8_shapedLike_42 rfl (lv_at hl 1 rfl) ?_
        exact W.iret (v := k4_L_2) hx hb hr (fun t ht hW => ⟨⟨k4_L_2, (), rfl, q4_3, trivial⟩, hS.F ht⟩) hS.2.2 dX8_shapedLike_43
      · have h3 : IV 0 11 k4_L_3 := iv_lt1 (Int32.not_le.mp c2) q4_4 h_a__halves (by decide)
        have h4 : IV 1 12 a__halves := iv_lt2 (Int32.not_le.mp c2) q4_4 h_a__halves (by decide)
        refine lv_aload_n hx hb dX8_shapedLike_12 rfl (lv_at hl 2 rfl) ?_
        refine va_get (D := D) (ci := 8) (v := .ref a_shape) (C := RX8) (T := TX8) (N := 18) hx hb hT i_X8 hown hK hP 0 rfl rfl 10 (by decide) (hT _ q_135) (fun _ h9 => h9) rfl dX8_shapedLike_13 ?_
        refine lv_iload_n hx hb dX8_shapedLike_16 rfl (lv_at hl 0 rfl) ?_
        refine va_iald hx hb hK hP 1 0 rfl rfl (iv_v h3 (by decide) (by decide)) dX8_shapedLike_17 ?_
        refine lv_topi (fun v5 ev5 => ?_)
        refine lv_iload_n hx hb dX8_shapedLike_18 rfl (lv_at hl 3 rfl) ?_
        refine lv_isub hx hb dX8_shapedLike_19 ?_
        refine lv_topi (fun v6 ev6 => ?_)
        refine va_calli (va_runS (As := [.int v6]) (rest := []) ⟨hx, hb, hml, hown, hT⟩ (c_J9_abs_0f7a4_2 l D cs kK kV v6) (va_cwS 1 hT (hz_gS q_647 q_648 q_369 q_649) rfl rfl rfl (by decide +kernel) ⟨(Nat.le_of_ble_eq_true rfl), (Nat.le_of_ble_eq_true rfl)⟩) ⟨hz_P.blind, hz_P.mk (hP.sub (ws' := []) [] rfl) hE hS⟩ rfl rfl hl.1 rfl (lv_room (Nat.le_of_ble_eq_true rfl)) dX8_shapedLike_20 ⟨(Nat.le_of_ble_eq_true rfl), (Nat.le_of_ble_eq_true rfl)⟩) hS (fun _ _ h => h.elim) (fun _ h => h.elim) (fun r7 u t H1 locs ht hvm hw hB hz1 hk1 hS => ?_)
        have hP := hz_keep hP hk1
        clear hk1 hB hz1
        generalize H1 = H at hP hS ⊢
        refine lv_aload_n hx hb dX8_shapedLike_23 rfl (lv_at hl 2 rfl) ?_
        refine va_get (D := D) (ci := 8) (v := .int a__near) (C := RX8) (T := TX8) (N := 18) hx hb hT i_X8 hown hK hP 0 rfl rfl 4 (by decide) (hT _ q_147) (fun _ h9 => h9) rfl dX8_shapedLike_24 ?_
        refine lv_icmp_gt (tgt := 36) hx hb dX8_shapedLike_27 (by decide) (fun c8 => ?_) (fun c8 => ?_)
        · have h9 : IV (-2147483648) 2147483646 a__near := iv_lt1 c8 iv_top iv_top (by decide)
          have h10 : IV (-2147483647) 2147483647 r7 := iv_lt2 c8 iv_top iv_top (by decide)
          exact K36 k4_L_2 h4 q4_3 h3 H locs (hP.sub (ws' := [(a, .inr (8, [.int a__stalls, .int a__shift, .int a__halves, .int a__buyers, .int a__near, .int a__dusk, .int a__duskPrice, .int a__hear, .int a__forged, .ref a_stall, .ref a_shape, .ref a_side, .ref a_price, .ref a_purse, .ref a_spot, .ref a_club, .ref a_fitting, .ref a_nearly])), (a_shape, .inl (cs 0, 12, .inl a_shape_c))]) [0, 1] rfl) hS ls (lv_sub hl [0, 1, 2, 3] rfl)
        · refine lv_iload_n hx hb dX8_shapedLike_30 rfl (lv_at hl 1 rfl) ?_
          refine lv_iconst (v := 1) hx hb dX8_shapedLike_31 (by decide) ?_
          refine lv_iload_n hx hb dX8_shapedLike_32 rfl (lv_at hl 0 rfl) ?_
          refine lv_ishl hx hb dX8_shapedLike_33 ?_
          refine lv_topi (fun v11 ev11 => ?_)
          have hv11 : IV 1 2048 v11 := iv_shl1 ev11 h3 (by decide) (by decide) (by decide)
          refine lv_ior hx hb dX8_shapedLike_34 ?_
          refine lv_topi (fun v12 ev12 => ?_)
          have hv12 : IV 0 4095 v12 := iv_or (k := 12) ev12 q4_3 hv11 (by decide) (by decide) (by decide) (by decide) (by decide) (by decide)
          refine lv_istore_n (lv' := [(2, .int v12), (3, .int k4_L_3), (0, .ref a), (1, .int p0)]) hx hb dX8_shapedLike_35 rfl hl (by decide) rfl (fun ls hl => ?_)
          exact K36 v12 h4 hv12 h3 H locs (hP.sub (ws' := [(a, .inr (8, [.int a__stalls, .int a__shift, .int a__halves, .int a__buyers, .int a__near, .int a__dusk, .int a__duskPrice, .int a__hear, .int a__forged, .ref a_stall, .ref a_shape, .ref a_side, .ref a_price, .ref a_purse, .ref a_spot, .ref a_club, .ref a_fitting, .ref a_nearly])), (a_shape, .inl (cs 0, 12, .inl a_shape_c))]) [0, 1] rfl) hS ls (lv_sub hl [1, 0, 2, 3] rfl)
  refine lv_iconst (v := 0) hx hb dX8_shapedLike_0 (by decide) ?_
  refine lv_istore_n (lv' := [(2, .int 0), (0, .ref a), (1, .int p0)]) hx hb dX8_shapedLike_1 rfl hl (by decide) rfl (fun ls hl => ?_)
  refine lv_iconst (v := 0) hx hb dX8_shapedLike_2 (by decide) ?_
  refine lv_istore_n (lv' := [(3, .int 0), (2, .int 0), (0, .ref a), (1, .int p0)]) hx hb dX8_shapedLike_3 rfl hl (by decide) rfl (fun ls hl => ?_)
  exact K4 _ 0 0 (Nat.le_refl _) (iv_c (by decide)) (iv_c (by decide)) H locs (hP.sub (ws' := [(a, .inr (8, [.int a__stalls, .int a__shift, .int a__halves, .int a__buyers, .int a__near, .int a__dusk, .int a__duskPrice, .int a__hear, .int a__forged, .ref a_stall, .ref a_shape, .ref a_side, .ref a_price, .ref a_purse, .ref a_spot, .ref a_club, .ref a_fitting, .ref a_nearly])), (a_shape, .inl (cs 0, 12, .inl a_shape_c))]) [0, 1] rfl) hS ls (lv_sub hl [0, 1, 2, 3] rfl)
