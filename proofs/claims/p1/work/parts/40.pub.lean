theorem dX11_isFair_0 : decode cX11_isFair 0 = .ok (.aload_n 0, 1) := by decide +kernel
theorem dX11_isFair_1 : decode cX11_isFair 1 = .ok (.getfield 39, 3) := by decide +kernel
theorem dX11_isFair_4 : decode cX11_isFair 4 = .ok (.getfield 178, 3) := by decide +kernel
theorem dX11_isFair_7 : decode cX11_isFair 7 = .ok (.ifCond .le 7, 3) := by decide +kernel
theorem dX11_isFair_14 : decode cX11_isFair 14 = .ok (.iconst 0, 1) := by decide +kernel
theorem dX11_isFair_15 : decode cX11_isFair 15 = .ok (.ireturn, 1) := by decide +kernel
set_option maxHeartbeats 4000000 in
set_option maxRecDepth 100000 in
theorem c_X11_isFair (l : Launch) (D : va_G) (cs : Nat → ClassId) (kK kV : Nat → Nat) (g : Nat → Nat) (rr : Nat → Nat) : Met l yX11_isFair (hz_w yX11_isFair cX11_isFair 1 (some .boolean)) ({ frames := 0, cells := 0, slots := 0, locals := 0 }) (va_Pc [.ref (g 0)] (hz_P D cs kK kV [(g 0, .inr (11, [.ref (g 1), .ref (g 2), .ref (g 3), .ref (g 4), .int 0, .ref (g 5), .ref (g 6), .ref (g 7), .ref (g 8), .int 0, .int 0, .ref (g 9), .ref (g 10), .ref (g 11), .ref (g 12), .ref (g 13), .int 0])), (g 5, .inr (8, [.int 0, .int 0, .int 0, .int 0, .int 0, .int 12, .int 5, .int 1, .int 0, .ref (rr 0), .ref (rr 1), .ref (rr 2), .ref (rr 3), .ref (rr 4), .ref (rr 5), .ref (rr 6), .ref (rr 7), .ref (rr 8)]))])) (va_Qi (fun (r : Int32) (_ : Unit) => r = 0) (fun _ t => True) (fun _ => False)) 0 0 (fun _ => False) := by
  refine Met.ofW (cc := cX11_isFair) (maxL := 1) (ret := (some .boolean)) (by decide) rfl ?_
  intro p e s m args below meth c s₁ B hml hv
  obtain ⟨rfl, hP, hE⟩ := hv
  have hx := B.exec
  have hb := B.bytes
  have hr := B.returns
  have hT : ∀ w ∈ TB, w.before _ s = true := fun w h => atoms_spec (ws := hz_w yX11_isFair cX11_isFair 1 (some .boolean)) B.pre w (List.mem_cons_of_mem _ h)
  have hown : s.vm.findClass RX11 = some m.cls := findClass_of_methodNamed B.named
  have hlocks := B.notSynchronized
  clear B
  have hS : va_S (fun _ => False) s.heap s.heap [] := va_S.rf
  have hP : va_P D classes [(g 0, .inr (11, [.ref (g 1), .ref (g 2), .ref (g 3), .ref (g 4), .int 0, .ref (g 5), .ref (g 6), .ref (g 7), .ref (g 8), .int 0, .int 0, .ref (g 9), .ref (g 10), .ref (g 11), .ref (g 12), .ref (g 13), .int 0])), (g 5, .inr (8, [.int 0, .int 0, .int 0, .int 0, .int 0, .int 12, .int 5, .int 1, .int 0, .ref (rr 0), .ref (rr 1), .ref (rr 2), .ref (rr 3), .ref (rr 4), .ref (rr 5), .ref (rr 6), .ref (rr 7), .ref (rr 8)]))] s.heap := hP
  have hK := hE.1
  have hl := lv_entry ([.ref (g 0)]) (n := 1) (Nat.le_of_ble_eq_true rfl)
  rw [lg_entry_eq]
  generalize (lg_sl ([.ref (g 0)]) ++ List.replicate (1 - (lg_sl ([.ref (g 0)])).length) Slot.unset).toArray = ls at hl ⊢
  have hl : lv_has ls 1 [(0, .ref (g 0))] := hl
  obtain ⟨H, eH⟩ : ∃ z, z = s.heap := ⟨_, rfl⟩
  have hP : va_P D classes [(g 0, .inr (11, [.ref (g 1), .ref (g 2), .ref (g 3), .ref (g 4), .int 0, .ref (g 5), .ref (g 6), .ref (g 7), .ref (g 8), .int 0, .int 0, .ref (g 9), .ref (g 10), .ref (g 11), .ref (g 12), .ref (g 13), .int 0])), (g 5, .inr (8, [.int 0, .int 0, .int 0, .int 0, .int 0, .int 12, .int 5, .int 1, .int 0, .ref (rr 0), .ref (rr 1), .ref (rr 2), .ref (rr 3), .ref (rr 4), .ref (rr 5), .ref (rr 6), .ref (rr 7), .ref (rr 8)]))] H := by rw [eH]; exact hP
  have hS : va_S (fun _ => False) s.heap H [] := by rw [eH]; exact hS
  rw [← eH]
  clear eH
  refine lv_aload_n hx hb dX11_isFair_0 rfl (lv_at hl 0 rfl) ?_
  refine va_get (D := D) (ci := 11) (v := .ref (g 5)) (C := RX11) (T := TX11) (N := 17) hx hb hT i_X11 hown hK hP 0 rfl rfl 5 (by decide) (hT _ q_168) (fun _ h9 => h9) rfl dX11_isFair_1 ?_
  refine va_get (D := D) (ci := 8) (v := .int 0) (C := RX8) (T := TX8) (N := 18) hx hb hT i_X8 hown hK hP 1 rfl rfl 0 (by decide) (hT _ q_169) (fun _ h9 => h9) rfl dX11_isFair_4 ?_
  refine lv_if_le (tgt := 14) hx hb dX11_isFair_7 (by decide) (fun _ => ?_) (fun z => absurd (by decide) z)
  refine lv_iconst (v := 0) hx hb dX11_isFair_14 (by decide) ?_
  exact W.zret (v := 0) hx hb hr rfl (fun t ht hW => ⟨⟨0, (), rfl, rfl, trivial⟩, hS.F ht⟩) hS.2.2 dX11_isFair_15
theorem dX11_isRule_0 : decode cX11_isRule 0 = .ok (.iload_n 1, 1) := by decide +kernel
theorem dX11_isRule_1 : decode cX11_isRule 1 = .ok (.ifCond .lt 24, 3) := by decide +kernel
theorem dX11_isRule_4 : decode cX11_isRule 4 = .ok (.iload_n 1, 1) := by decide +kernel
theorem dX11_isRule_5 : decode cX11_isRule 5 = .ok (.aload_n 0, 1) := by decide +kernel
theorem dX11_isRule_6 : decode cX11_isRule 6 = .ok (.getfield 122, 3) := by decide +kernel
theorem dX11_isRule_9 : decode cX11_isRule 9 = .ok (.if_icmp .ge 16, 3) := by decide +kernel
theorem dX11_isRule_25 : decode cX11_isRule 25 = .ok (.iconst 0, 1) := by decide +kernel
theorem dX11_isRule_26 : decode cX11_isRule 26 = .ok (.ireturn, 1) := by decide +kernel
set_option maxHeartbeats 4000000 in
set_option maxRecDepth 100000 in
theorem c_X11_isRule (l : Launch) (D : va_G) (cs : Nat → ClassId) (kK kV : Nat → Nat) (g : Nat → Nat) (rr : Nat → Nat) (p0 : Int32) : Met l yX11_isRule (hz_w yX11_isRule cX11_isRule 2 (some .boolean)) ({ frames := 0, cells := 0, slots := 0, locals := 0 }) (va_Pc [.ref (g 0), .int p0] (hz_P D cs kK kV [(g 0, .inr (11, [.ref (g 1), .ref (g 2), .ref (g 3), .ref (g 4), .int 0, .ref (g 5), .ref (g 6), .ref (g 7), .ref (g 8), .int 0, .int 0, .ref (g 9), .ref (g 10), .ref (g 11), .ref (g 12), .ref (g 13), .int 0]))])) (va_Qi (fun (r : Int32) (_ : Unit) => r = 0) (fun _ t => True) (fun _ => False)) 0 0 (fun _ => False) := by
  refine Met.ofW (cc := cX11_isRule) (maxL := 2) (ret := (some .boolean)) (by decide) rfl ?_
  intro p e s m args below meth c s₁ B hml hv
  obtain ⟨rfl, hP, hE⟩ := hv
  have hx := B.exec
  have hb := B.bytes
  have hr := B.returns
  have hT : ∀ w ∈ TB, w.before _ s = true := fun w h => atoms_spec (ws := hz_w yX11_isRule cX11_isRule 2 (some .boolean)) B.pre w (List.mem_cons_of_mem _ h)
  have hown : s.vm.findClass RX11 = some m.cls := findClass_of_methodNamed B.named
  have hlocks := B.notSynchronized
  clear B
  have hS : va_S (fun _ => False) s.heap s.heap [] := va_S.rf
  have hP : va_P D classes [(g 0, .inr (11, [.ref (g 1), .ref (g 2), .ref (g 3), .ref (g 4), .int 0, .ref (g 5), .ref (g 6), .ref (g 7), .ref (g 8), .int 0, .int 0, .ref (g 9), .ref (g 10), .ref (g 11), .ref (g 12), .ref (g 13), .int 0]))] s.heap := hP
  have hK := hE.1
  have hl := lv_entry ([.ref (g 0), .int p0]) (n := 2) (Nat.le_of_ble_eq_true rfl)
  rw [lg_entry_eq]
  generalize (lg_sl ([.ref (g 0), .int p0]) ++ List.replicate (2 - (lg_sl ([.ref (g 0), .int p0])).length) Slot.unset).toArray = ls at hl ⊢
  have hl : lv_has ls 2 [(0, .ref (g 0)), (1, .int p0)] := hl
  obtain ⟨H, eH⟩ : ∃ z, z = s.heap := ⟨_, rfl⟩
  have hP : va_P D classes [(g 0, .inr (11, [.ref (g 1), .ref (g 2), .ref (g 3), .ref (g 4), .int 0, .ref (g 5), .ref (g 6), .ref (g 7), .ref (g 8), .int 0, .int 0, .ref (g 9), .ref (g 10), .ref (g 11), .ref (g 12), .ref (g 13), .int 0]))] H := by rw [eH]; exact hP
  have hS : va_S (fun _ => False) s.heap H [] := by rw [eH]; exact hS
  rw [← eH]
  clear eH
  refine lv_iload_n hx hb dX11_isRule_0 rfl (lv_at hl 1 rfl) ?_
  refine lv_if_lt (tgt := 25) hx hb dX11_isRule_1 (by decide) (fun c_1 => ?_) (fun c_1 => ?_)
  · refine lv_iconst (v := 0) hx hb dX11_isRule_25 (by decide) ?_
    exact W.zret (v := 0) hx hb hr rfl (fun t ht hW => ⟨⟨0, (), rfl, rfl, trivial⟩, hS.F ht⟩) hS.2.2 dX11_isRule_26
  · refine lv_iload_n hx hb dX11_isRule_4 rfl (lv_at hl 1 rfl) ?_
    refine lv_aload_n hx hb dX11_isRule_5 rfl (lv_at hl 0 rfl) ?_
    refine va_get (D := D) (ci := 11) (v := .int 0) (C := RX11) (T := TX11) (N := 17) hx hb hT i_X11 hown hK hP 0 rfl rfl 4 (by decide) (hT _ q_170) (fun _ h9 => h9) rfl dX11_isRule_6 ?_
    refine lv_icmp_ge (tgt := 25) hx hb dX11_isRule_9 (by decide) (fun _ => ?_) (fun z => absurd (Int32.not_lt.mp c_1) z)
    refine lv_iconst (v := 0) hx hb dX11_isRule_25 (by decide) ?_
    exact W.zret (v := 0) hx hb hr rfl (fun t ht hW => ⟨⟨0, (), rfl, rfl, trivial⟩, hS.F ht⟩) hS.2.2 dX11_isRule_26
theorem dX11_isSet_0 : decode cX11_isSet 0 = .ok (.aload_n 0, 1) := by decide +kernel
theorem dX11_isSet_1 : decode cX11_isSet 1 = .ok (.invokevirtual 232, 3) := by decide +kernel
theorem dX11_isSet_4 : decode cX11_isSet 4 = .ok (.ifCond .eq 24, 3) := by decide +kernel
theorem dX11_isSet_28 : decode cX11_isSet 28 = .ok (.iconst 0, 1) := by decide +kernel
theorem dX11_isSet_29 : decode cX11_isSet 29 = .ok (.ireturn, 1) := by decide +kernel
set_option maxHeartbeats 4000000 in
set_option maxRecDepth 100000 in
theorem c_X11_isSet (l : Launch) (D : va_G) (cs : Nat → ClassId) (kK kV : Nat → Nat) (g : Nat → Nat) (rr : Nat → Nat) (p0 : Int32) : Met l yX11_isSet (hz_w yX11_isSet cX11_isSet 2 (some .boolean)) ({ frames := 1, cells := 0, slots := 0, locals := 20 }) (va_Pc [.ref (g 0), .int p0] (hz_P D cs kK kV [(g 0, .inr (11, [.ref (g 1), .ref (g 2), .ref (g 3), .ref (g 4), .int 0, .ref (g 5), .ref (g 6), .ref (g 7), .ref (g 8), .int 0, .int 0, .ref (g 9), .ref (g 10), .ref (g 11), .ref (g 12), .ref (g 13), .int 0])), (g 5, .inr (8, [.int 0, .int 0, .int 0, .int 0, .int 0, .int 12, .int 5, .int 1, .int 0, .ref (rr 0), .ref (rr 1), .ref (rr 2), .ref (rr 3), .ref (rr 4), .ref (rr 5), .ref (rr 6), .ref (rr 7), .ref (rr 8)]))])) (va_Qi (fun (r : Int32) (_ : Unit) => r = 0) (fun _ t => True) (fun _ => False)) 0 0 (fun _ => False) := by
  refine Met.ofW (cc := cX11_isSet) (maxL := 2) (ret := (some .boolean)) (by decide) rfl ?_
  intro p e s m args below meth c s₁ B hml hv
  obtain ⟨rfl, hP, hE⟩ := hv
  have hx := B.exec
  have hb := B.bytes
  have hr := B.returns
  have hT : ∀ w ∈ TB, w.before _ s = true := fun w h => atoms_spec (ws := hz_w yX11_isSet cX11_isSet 2 (some .boolean)) B.pre w (List.mem_cons_of_mem _ h)
  have hown : s.vm.findClass RX11 = some m.cls := findClass_of_methodNamed B.named
  have hlocks := B.notSynchronized
  clear B
  have hS : va_S (fun _ => False) s.heap s.heap [] := va_S.rf
  have hP : va_P D classes [(g 0, .inr (11, [.ref (g 1), .ref (g 2), .ref (g 3), .ref (g 4), .int 0, .ref (g 5), .ref (g 6), .ref (g 7), .ref (g 8), .int 0, .int 0, .ref (g 9), .ref (g 10), .ref (g 11), .ref (g 12), .ref (g 13), .int 0])), (g 5, .inr (8, [.int 0, .int 0, .int 0, .int 0, .int 0, .int 12, .int 5, .int 1, .int 0, .ref (rr 0), .ref (rr 1), .ref (rr 2), .ref (rr 3), .ref (rr 4), .ref (rr 5), .ref (rr 6), .ref (rr 7), .ref (rr 8)]))] s.heap := hP
  have hK := hE.1
  have hl := lv_entry ([.ref (g 0), .int p0]) (n := 2) (Nat.le_of_ble_eq_true rfl)
  rw [lg_entry_eq]
  generalize (lg_sl ([.ref (g 0), .int p0]) ++ List.replicate (2 - (lg_sl ([.ref (g 0), .int p0])).length) Slot.unset).toArray = ls at hl ⊢
  have hl : lv_has ls 2 [(0, .ref (g 0)), (1, .int p0)] := hl
  obtain ⟨H, eH⟩ : ∃ z, z = s.heap := ⟨_, rfl⟩
  have hP : va_P D classes [(g 0, .inr (11, [.ref (g 1), .ref (g 2), .ref (g 3), .ref (g 4), .int 0, .ref (g 5), .ref (g 6), .ref (g 7), .ref (g 8), .int 0, .int 0, .ref (g 9), .ref (g 10), .ref (g 11), .ref (g 12), .ref (g 13), .int 0])), (g 5, .inr (8, [.int 0, .int 0, .int 0, .int 0, .int 0, .int 12, .int 5, .int 1, .int 0, .ref (rr 0), .ref (rr 1), .ref (rr 2), .ref (rr 3), .ref (rr 4), .ref (rr 5), .ref (rr 6), .ref (rr 7), .ref (rr 8)]))] H := by rw [eH]; exact hP
  have hS : va_S (fun _ => False) s.heap H [] := by rw [eH]; exact hS
  rw [← eH]
  clear eH
  refine lv_aload_n hx hb dX11_isSet_0 rfl (lv_at hl 0 rfl) ?_
  refine va_calli (va_runV (As := []) (rest := []) ⟨hx, hb, hml, hown, hT⟩ (c_X11_isFair l D cs kK kV g rr) (cwV 0 hT (hz_gV q_171 q_172 q_173 q_174 q_175) rfl rfl rfl (by decide +kernel) ⟨(Nat.le_of_ble_eq_true rfl), (Nat.le_of_ble_eq_true rfl)⟩) ⟨hz_P.blind, va_recv hK hP (ci := 11) (q0 := 0) rfl rfl, hz_P.mk (hP.sub (ws' := [(g 0, .inr (11, [.ref (g 1), .ref (g 2), .ref (g 3), .ref (g 4), .int 0, .ref (g 5), .ref (g 6), .ref (g 7), .ref (g 8), .int 0, .int 0, .ref (g 9), .ref (g 10), .ref (g 11), .ref (g 12), .ref (g 13), .int 0])), (g 5, .inr (8, [.int 0, .int 0, .int 0, .int 0, .int 0, .int 12, .int 5, .int 1, .int 0, .ref (rr 0), .ref (rr 1), .ref (rr 2), .ref (rr 3), .ref (rr 4), .ref (rr 5), .ref (rr 6), .ref (rr 7), .ref (rr 8)]))]) [0,1] rfl) hE hS⟩ rfl rfl hl.1 rfl (lv_room (Nat.le_of_ble_eq_true rfl)) dX11_isSet_1 ⟨(Nat.le_of_ble_eq_true rfl), (Nat.le_of_ble_eq_true rfl)⟩) hS (fun _ _ h => h.elim) (fun _ h => h.elim) (fun r_1 u t H1 locs ht hvm hw hB hz1 hk1 hS => ?_)
  have hP := hz_keep hP hk1
  clear hk1 hB hz1
  generalize H1 = H at hP hS ⊢
  subst hw
  refine lv_if_eq (tgt := 28) hx hb dX11_isSet_4 (by decide) (fun _ => ?_) (fun z => absurd (by decide) z)
  refine lv_iconst (v := 0) hx hb dX11_isSet_28 (by decide) ?_
  exact W.zret (v := 0) hx hb hr rfl (fun t ht hW => ⟨⟨0, (), rfl, rfl, trivial⟩, hS.F ht⟩) hS.2.2 dX11_isSet_29
theorem dX11_isTheirs_0 : decode cX11_isTheirs 0 = .ok (.aload_n 0, 1) := by decide +kernel
theorem dX11_isTheirs_1 : decode cX11_isTheirs 1 = .ok (.getfield 39, 3) := by decide +kernel
theorem dX11_isTheirs_4 : decode cX11_isTheirs 4 = .ok (.iload_n 1, 1) := by decide +kernel
theorem dX11_isTheirs_5 : decode cX11_isTheirs 5 = .ok (.invokevirtual 157, 3) := by decide +kernel
theorem dX11_isTheirs_8 : decode cX11_isTheirs 8 = .ok (.ifCond .eq 35, 3) := by decide +kernel
theorem dX11_isTheirs_43 : decode cX11_isTheirs 43 = .ok (.iconst 0, 1) := by decide +kernel
theorem dX11_isTheirs_44 : decode cX11_isTheirs 44 = .ok (.ireturn, 1) := by decide +kernel
set_option maxHeartbeats 4000000 in
set_option maxRecDepth 100000 in
theorem c_X11_isTheirs (l : Launch) (D : va_G) (cs : Nat → ClassId) (kK kV : Nat → Nat) (g : Nat → Nat) (rr : Nat → Nat) (p0 : Int32) (p1 : Int32) : Met l yX11_isTheirs (hz_w yX11_isTheirs cX11_isTheirs 3 (some .boolean)) ({ frames := 1, cells := 0, slots := 0, locals := 21 }) (va_Pc [.ref (g 0), .int p0, .int p1] (hz_P D cs kK kV [(g 0, .inr (11, [.ref (g 1), .ref (g 2), .ref (g 3), .ref (g 4), .int 0, .ref (g 5), .ref (g 6), .ref (g 7), .ref (g 8), .int 0, .int 0, .ref (g 9), .ref (g 10), .ref (g 11), .ref (g 12), .ref (g 13), .int 0])), (g 5, .inr (8, [.int 0, .int 0, .int 0, .int 0, .int 0, .int 12, .int 5, .int 1, .int 0, .ref (rr 0), .ref (rr 1), .ref (rr 2), .ref (rr 3), .ref (rr 4), .ref (rr 5), .ref (rr 6), .ref (rr 7), .ref (rr 8)]))])) (va_Qi (fun (r : Int32) (_ : Unit) => r = 0) (fun _ t => True) (fun _ => False)) 0 0 (fun _ => False) := by
  refine Met.ofW (cc := cX11_isTheirs) (maxL := 3) (ret := (some .boolean)) (by decide) rfl ?_
  intro p e s m args below meth c s₁ B hml hv
  obtain ⟨rfl, hP, hE⟩ := hv
  have hx := B.exec
  have hb := B.bytes
  have hr := B.returns
  have hT : ∀ w ∈ TB, w.before _ s = true := fun w h => atoms_spec (ws := hz_w yX11_isTheirs cX11_isTheirs 3 (some .boolean)) B.pre w (List.mem_cons_of_mem _ h)
  have hown : s.vm.findClass RX11 = some m.cls := findClass_of_methodNamed B.named
  have hlocks := B.notSynchronized
  clear B
  have hS : va_S (fun _ => False) s.heap s.heap [] := va_S.rf
  have hP : va_P D classes [(g 0, .inr (11, [.ref (g 1), .ref (g 2), .ref (g 3), .ref (g 4), .int 0, .ref (g 5), .ref (g 6), .ref (g 7), .ref (g 8), .int 0, .int 0, .ref (g 9), .ref (g 10), .ref (g 11), .ref (g 12), .ref (g 13), .int 0])), (g 5, .inr (8, [.int 0, .int 0, .int 0, .int 0, .int 0, .int 12, .int 5, .int 1, .int 0, .ref (rr 0), .ref (rr 1), .ref (rr 2), .ref (rr 3), .ref (rr 4), .ref (rr 5), .ref (rr 6), .ref (rr 7), .ref (rr 8)]))] s.heap := hP
  have hK := hE.1
  have hl := lv_entry ([.ref (g 0), .int p0, .int p1]) (n := 3) (Nat.le_of_ble_eq_true rfl)
  rw [lg_entry_eq]
  generalize (lg_sl ([.ref (g 0), .int p0, .int p1]) ++ List.replicate (3 - (lg_sl ([.ref (g 0), .int p0, .int p1])).length) Slot.unset).toArray = ls at hl ⊢
  have hl : lv_has ls 3 [(0, .ref (g 0)), (1, .int p0), (2, .int p1)] := hl
  obtain ⟨H, eH⟩ : ∃ z, z = s.heap := ⟨_, rfl⟩
  have hP : va_P D classes [(g 0, .inr (11, [.ref (g 1), .ref (g 2), .ref (g 3), .ref (g 4), .int 0, .ref (g 5), .ref (g 6), .ref (g 7), .ref (g 8), .int 0, .int 0, .ref (g 9), .ref (g 10), .ref (g 11), .ref (g 12), .ref (g 13), .int 0])), (g 5, .inr (8, [.int 0, .int 0, .int 0, .int 0, .int 0, .int 12, .int 5, .int 1, .int 0, .ref (rr 0), .ref (rr 1), .ref (rr 2), .ref (rr 3), .ref (rr 4), .ref (rr 5), .ref (rr 6), .ref (rr 7), .ref (rr 8)]))] H := by rw [eH]; exact hP
  have hS : va_S (fun _ => False) s.heap H [] := by rw [eH]; exact hS
  rw [← eH]
  clear eH
  refine lv_aload_n hx hb dX11_isTheirs_0 rfl (lv_at hl 0 rfl) ?_
  refine va_get (D := D) (ci := 11) (v := .ref (g 5)) (C := RX11) (T := TX11) (N := 17) hx hb hT i_X11 hown hK hP 0 rfl rfl 5 (by decide) (hT _ q_168) (fun _ h9 => h9) rfl dX11_isTheirs_1 ?_
  refine lv_iload_n hx hb dX11_isTheirs_4 rfl (lv_at hl 1 rfl) ?_
  refine va_calli (va_runV (As := [.int p0]) (rest := []) ⟨hx, hb, hml, hown, hT⟩ (c_X8_isBuyer l D cs kK kV (g 5) rr p0) (cwV 1 hT (hz_gV q_176 q_177 q_178 q_121 q_179) rfl rfl rfl (by decide +kernel) ⟨(Nat.le_of_ble_eq_true rfl), (Nat.le_of_ble_eq_true rfl)⟩) ⟨hz_P.blind, va_recv hK hP (ci := 8) (q0 := 1) rfl rfl, hz_P.mk (hP.sub (ws' := [(g 5, .inr (8, [.int 0, .int 0, .int 0, .int 0, .int 0, .int 12, .int 5, .int 1, .int 0, .ref (rr 0), .ref (rr 1), .ref (rr 2), .ref (rr 3), .ref (rr 4), .ref (rr 5), .ref (rr 6), .ref (rr 7), .ref (rr 8)]))]) [1] rfl) hE hS⟩ rfl rfl hl.1 rfl (lv_room (Nat.le_of_ble_eq_true rfl)) dX11_isTheirs_5 ⟨(Nat.le_of_ble_eq_true rfl), (Nat.le_of_ble_eq_true rfl)⟩) hS (fun _ _ h => h.elim) (fun _ h => h.elim) (fun r_1 u t H1 locs ht hvm hw hB hz1 hk1 hS => ?_)
  have hP := hz_keep hP hk1
  clear hk1 hB hz1
  generalize H1 = H at hP hS ⊢
  subst hw
  refine lv_if_eq (tgt := 43) hx hb dX11_isTheirs_8 (by decide) (fun _ => ?_) (fun z => absurd (by decide) z)
  refine lv_iconst (v := 0) hx hb dX11_isTheirs_43 (by decide) ?_
  exact W.zret (v := 0) hx hb hr rfl (fun t ht hW => ⟨⟨0, (), rfl, rfl, trivial⟩, hS.F ht⟩) hS.2.2 dX11_isTheirs_44
theorem dX11_half_0 : decode cX11_half 0 = .ok (.aload_n 0, 1) := by decide +kernel
theorem dX11_half_1 : decode cX11_half 1 = .ok (.getfield 39, 3) := by decide +kernel
theorem dX11_half_4 : decode cX11_half 4 = .ok (.iload_n 1, 1) := by decide +kernel
theorem dX11_half_5 : decode cX11_half 5 = .ok (.invokevirtual 129, 3) := by decide +kernel
theorem dX11_half_8 : decode cX11_half 8 = .ok (.ifCond .ne 5, 3) := by decide +kernel
theorem dX11_half_11 : decode cX11_half 11 = .ok (.iconst (-1), 1) := by decide +kernel
theorem dX11_half_12 : decode cX11_half 12 = .ok (.ireturn, 1) := by decide +kernel
set_option maxHeartbeats 4000000 in
set_option maxRecDepth 100000 in
theorem c_X11_half (l : Launch) (D : va_G) (cs : Nat → ClassId) (kK kV : Nat → Nat) (g : Nat → Nat) (rr : Nat → Nat) (p0 : Int32) (p1 : Int32) : Met l yX11_half (hz_w yX11_half cX11_half 3 (some .int)) ({ frames := 1, cells := 0, slots := 0, locals := 21 }) (va_Pc [.ref (g 0), .int p0, .int p1] (hz_P D cs kK kV [(g 0, .inr (11, [.ref (g 1), .ref (g 2), .ref (g 3), .ref (g 4), .int 0, .ref (g 5), .ref (g 6), .ref (g 7), .ref (g 8), .int 0, .int 0, .ref (g 9), .ref (g 10), .ref (g 11), .ref (g 12), .ref (g 13), .int 0])), (g 5, .inr (8, [.int 0, .int 0, .int 0, .int 0, .int 0, .int 12, .int 5, .int 1, .int 0, .ref (rr 0), .ref (rr 1), .ref (rr 2), .ref (rr 3), .ref (rr 4), .ref (rr 5), .ref (rr 6), .ref (rr 7), .ref (rr 8)]))])) (va_Qi (fun (r : Int32) (_ : Unit) => r = -1) (fun _ t => True) (fun _ => False)) 0 0 (fun _ => False) := by
  refine Met.ofW (cc := cX11_half) (maxL := 3) (ret := (some .int)) (by decide) rfl ?_
  intro p e s m args below meth c s₁ B hml hv
  obtain ⟨rfl, hP, hE⟩ := hv
  have hx := B.exec
  have hb := B.bytes
  have hr := B.returns
  have hT : ∀ w ∈ TB, w.before _ s = true := fun w h => atoms_spec (ws := hz_w yX11_half cX11_half 3 (some .int)) B.pre w (List.mem_cons_of_mem _ h)
  have hown : s.vm.findClass RX11 = some m.cls := findClass_of_methodNamed B.named
  have hlocks := B.notSynchronized
  clear B
  have hS : va_S (fun _ => False) s.heap s.heap [] := va_S.rf
  have hP : va_P D classes [(g 0, .inr (11, [.ref (g 1), .ref (g 2), .ref (g 3), .ref (g 4), .int 0, .ref (g 5), .ref (g 6), .ref (g 7), .ref (g 8), .int 0, .int 0, .ref (g 9), .ref (g 10), .ref (g 11), .ref (g 12), .ref (g 13), .int 0])), (g 5, .inr (8, [.int 0, .int 0, .int 0, .int 0, .int 0, .int 12, .int 5, .int 1, .int 0, .ref (rr 0), .ref (rr 1), .ref (rr 2), .ref (rr 3), .ref (rr 4), .ref (rr 5), .ref (rr 6), .ref (rr 7), .ref (rr 8)]))] s.heap := hP
  have hK := hE.1
  have hl := lv_entry ([.ref (g 0), .int p0, .int p1]) (n := 3) (Nat.le_of_ble_eq_true rfl)
  rw [lg_entry_eq]
  generalize (lg_sl ([.ref (g 0), .int p0, .int p1]) ++ List.replicate (3 - (lg_sl ([.ref (g 0), .int p0, .int p1])).length) Slot.unset).toArray = ls at hl ⊢
  have hl : lv_has ls 3 [(0, .ref (g 0)), (1, .int p0), (2, .int p1)] := hl
  obtain ⟨H, eH⟩ : ∃ z, z = s.heap := ⟨_, rfl⟩
  have hP : va_P D classes [(g 0, .inr (11, [.ref (g 1), .ref (g 2), .ref (g 3), .ref (g 4), .int 0, .ref (g 5), .ref (g 6), .ref (g 7), .ref (g 8), .int 0, .int 0, .ref (g 9), .ref (g 10), .ref (g 11), .ref (g 12), .ref (g 13), .int 0])), (g 5, .inr (8, [.int 0, .int 0, .int 0, .int 0, .int 0, .int 12, .int 5, .int 1, .int 0, .ref (rr 0), .ref (rr 1), .ref (rr 2), .ref (rr 3), .ref (rr 4), .ref (rr 5), .ref (rr 6), .ref (rr 7), .ref (rr 8)]))] H := by rw [eH]; exact hP
  have hS : va_S (fun _ => False) s.heap H [] := by rw [eH]; exact hS
  rw [← eH]
  clear eH
  refine lv_aload_n hx hb dX11_half_0 rfl (lv_at hl 0 rfl) ?_
  refine va_get (D := D) (ci := 11) (v := .ref (g 5)) (C := RX11) (T := TX11) (N := 17) hx hb hT i_X11 hown hK hP 0 rfl rfl 5 (by decide) (hT _ q_168) (fun _ h9 => h9) rfl dX11_half_1 ?_
  refine lv_iload_n hx hb dX11_half_4 rfl (lv_at hl 1 rfl) ?_
  refine va_calli (va_runV (As := [.int p0]) (rest := []) ⟨hx, hb, hml, hown, hT⟩ (c_X8_isHalf l D cs kK kV (g 5) rr p0) (cwV 1 hT (hz_gV q_180 q_181 q_182 q_121 q_183) rfl rfl rfl (by decide +kernel) ⟨(Nat.le_of_ble_eq_true rfl), (Nat.le_of_ble_eq_true rfl)⟩) ⟨hz_P.blind, va_recv hK hP (ci := 8) (q0 := 1) rfl rfl, hz_P.mk (hP.sub (ws' := [(g 5, .inr (8, [.int 0, .int 0, .int 0, .int 0, .int 0, .int 12, .int 5, .int 1, .int 0, .ref (rr 0), .ref (rr 1), .ref (rr 2), .ref (rr 3), .ref (rr 4), .ref (rr 5), .ref (rr 6), .ref (rr 7), .ref (rr 8)]))]) [1] rfl) hE hS⟩ rfl rfl hl.1 rfl (lv_room (Nat.le_of_ble_eq_true rfl)) dX11_half_5 ⟨(Nat.le_of_ble_eq_true rfl), (Nat.le_of_ble_eq_true rfl)⟩) hS (fun _ _ h => h.elim) (fun _ h => h.elim) (fun r_1 u t H1 locs ht hvm hw hB hz1 hk1 hS => ?_)
  have hP := hz_keep hP hk1
  clear hk1 hB hz1
  generalize H1 = H at hP hS ⊢
  subst hw
  refine lv_if_ne (tgt := 13) hx hb dX11_half_8 (by decide) (fun z => absurd (by decide) z) (fun _ => ?_)
  refine lv_iconst (v := -1) hx hb dX11_half_11 (by decide) ?_
  exact W.iret (v := -1) hx hb hr (fun t ht hW => ⟨⟨-1, (), rfl, rfl, trivial⟩, hS.F ht⟩) hS.2.2 dX11_half_12
theorem dX11_fit_0 : decode cX11_fit 0 = .ok (.aload_n 0, 1) := by decide +kernel
theorem dX11_fit_1 : decode cX11_fit 1 = .ok (.getfield 39, 3) := by decide +kernel
theorem dX11_fit_4 : decode cX11_fit 4 = .ok (.iload_n 1, 1) := by decide +kernel
theorem dX11_fit_5 : decode cX11_fit 5 = .ok (.invokevirtual 129, 3) := by decide +kernel
theorem dX11_fit_8 : decode cX11_fit 8 = .ok (.ifCond .eq 19, 3) := by decide +kernel
theorem dX11_fit_27 : decode cX11_fit 27 = .ok (.iconst (-1), 1) := by decide +kernel
theorem dX11_fit_28 : decode cX11_fit 28 = .ok (.ireturn, 1) := by decide +kernel
set_option maxHeartbeats 4000000 in
set_option maxRecDepth 100000 in
theorem c_X11_fit (l : Launch) (D : va_G) (cs : Nat → ClassId) (kK kV : Nat → Nat) (g : Nat → Nat) (rr : Nat → Nat) (p0 : Int32) (p1 : Int32) : Met l yX11_fit (hz_w yX11_fit cX11_fit 3 (some .int)) ({ frames := 1, cells := 0, slots := 0, locals := 21 }) (va_Pc [.ref (g 0), .int p0, .int p1] (hz_P D cs kK kV [(g 0, .inr (11, [.ref (g 1), .ref (g 2), .ref (g 3), .ref (g 4), .int 0, .ref (g 5), .ref (g 6), .ref (g 7), .ref (g 8), .int 0, .int 0, .ref (g 9), .ref (g 10), .ref (g 11), .ref (g 12), .ref (g 13), .int 0])), (g 5, .inr (8, [.int 0, .int 0, .int 0, .int 0, .int 0, .int 12, .int 5, .int 1, .int 0, .ref (rr 0), .ref (rr 1), .ref (rr 2), .ref (rr 3), .ref (rr 4), .ref (rr 5), .ref (rr 6), .ref (rr 7), .ref (rr 8)]))])) (va_Qi (fun (r : Int32) (_ : Unit) => r = -1) (fun _ t => True) (fun _ => False)) 0 0 (fun _ => False) := by
  refine Met.ofW (cc := cX11_fit) (maxL := 3) (ret := (some .int)) (by decide) rfl ?_
  intro p e s m args below meth c s₁ B hml hv
  obtain ⟨rfl, hP, hE⟩ := hv
  have hx := B.exec
  have hb := B.bytes
  have hr := B.returns
  have hT : ∀ w ∈ TB, w.before _ s = true := fun w h => atoms_spec (ws := hz_w yX11_fit cX11_fit 3 (some .int)) B.pre w (List.mem_cons_of_mem _ h)
  have hown : s.vm.findClass RX11 = some m.cls := findClass_of_methodNamed B.named
  have hlocks := B.notSynchronized
  clear B
  have hS : va_S (fun _ => False) s.heap s.heap [] := va_S.rf
  have hP : va_P D classes [(g 0, .inr (11, [.ref (g 1), .ref (g 2), .ref (g 3), .ref (g 4), .int 0, .ref (g 5), .ref (g 6), .ref (g 7), .ref (g 8), .int 0, .int 0, .ref (g 9), .ref (g 10), .ref (g 11), .ref (g 12), .ref (g 13), .int 0])), (g 5, .inr (8, [.int 0, .int 0, .int 0, .int 0, .int 0, .int 12, .int 5, .int 1, .int 0, .ref (rr 0), .ref (rr 1), .ref (rr 2), .ref (rr 3), .ref (rr 4), .ref (rr 5), .ref (rr 6), .ref (rr 7), .ref (rr 8)]))] s.heap := hP
  have hK := hE.1
  have hl := lv_entry ([.ref (g 0), .int p0, .int p1]) (n := 3) (Nat.le_of_ble_eq_true rfl)
  rw [lg_entry_eq]
  generalize (lg_sl ([.ref (g 0), .int p0, .int p1]) ++ List.replicate (3 - (lg_sl ([.ref (g 0), .int p0, .int p1])).length) Slot.unset).toArray = ls at hl ⊢
  have hl : lv_has ls 3 [(0, .ref (g 0)), (1, .int p0), (2, .int p1)] := hl
  obtain ⟨H, eH⟩ : ∃ z, z = s.heap := ⟨_, rfl⟩
  have hP : va_P D classes [(g 0, .inr (11, [.ref (g 1), .ref (g 2), .ref (g 3), .ref (g 4), .int 0, .ref (g 5), .ref (g 6), .ref (g 7), .ref (g 8), .int 0, .int 0, .ref (g 9), .ref (g 10), .ref (g 11), .ref (g 12), .ref (g 13), .int 0])), (g 5, .inr (8, [.int 0, .int 0, .int 0, .int 0, .int 0, .int 12, .int 5, .int 1, .int 0, .ref (rr 0), .ref (rr 1), .ref (rr 2), .ref (rr 3), .ref (rr 4), .ref (rr 5), .ref (rr 6), .ref (rr 7), .ref (rr 8)]))] H := by rw [eH]; exact hP
  have hS : va_S (fun _ => False) s.heap H [] := by rw [eH]; exact hS
  rw [← eH]
  clear eH
  refine lv_aload_n hx hb dX11_fit_0 rfl (lv_at hl 0 rfl) ?_
  refine va_get (D := D) (ci := 11) (v := .ref (g 5)) (C := RX11) (T := TX11) (N := 17) hx hb hT i_X11 hown hK hP 0 rfl rfl 5 (by decide) (hT _ q_168) (fun _ h9 => h9) rfl dX11_fit_1 ?_
  refine lv_iload_n hx hb dX11_fit_4 rfl (lv_at hl 1 rfl) ?_
  refine va_calli (va_runV (As := [.int p0]) (rest := []) ⟨hx, hb, hml, hown, hT⟩ (c_X8_isHalf l D cs kK kV (g 5) rr p0) (cwV 1 hT (hz_gV q_180 q_181 q_182 q_121 q_183) rfl rfl rfl (by decide +kernel) ⟨(Nat.le_of_ble_eq_true rfl), (Nat.le_of_ble_eq_true rfl)⟩) ⟨hz_P.blind, va_recv hK hP (ci := 8) (q0 := 1) rfl rfl, hz_P.mk (hP.sub (ws' := [(g 5, .inr (8, [.int 0, .int 0, .int 0, .int 0, .int 0, .int 12, .int 5, .int 1, .int 0, .ref (rr 0), .ref (rr 1), .ref (rr 2), .ref (rr 3), .ref (rr 4), .ref (rr 5), .ref (rr 6), .ref (rr 7), .ref (rr 8)]))]) [1] rfl) hE hS⟩ rfl rfl hl.1 rfl (lv_room (Nat.le_of_ble_eq_true rfl)) dX11_fit_5 ⟨(Nat.le_of_ble_eq_true rfl), (Nat.le_of_ble_eq_true rfl)⟩) hS (fun _ _ h => h.elim) (fun _ h => h.elim) (fun r_1 u t H1 locs ht hvm hw hB hz1 hk1 hS => ?_)
  have hP := hz_keep hP hk1
  clear hk1 hB hz1
  generalize H1 = H at hP hS ⊢
  subst hw
  refine lv_if_eq (tgt := 27) hx hb dX11_fit_8 (by decide) (fun _ => ?_) (fun z => absurd (by decide) z)
  refine lv_iconst (v := -1) hx hb dX11_fit_27 (by decide) ?_
  exact W.iret (v := -1) hx hb hr (fun t ht hW => ⟨⟨-1, (), rfl, rfl, trivial⟩, hS.F ht⟩) hS.2.2 dX11_fit_28
theorem dX11_buyer_0 : decode cX11_buyer 0 = .ok (.aload_n 0, 1) := by decide +kernel
theorem dX11_buyer_1 : decode cX11_buyer 1 = .ok (.getfield 39, 3) := by decide +kernel
theorem dX11_buyer_4 : decode cX11_buyer 4 = .ok (.iload_n 1, 1) := by decide +kernel
theorem dX11_buyer_5 : decode cX11_buyer 5 = .ok (.invokevirtual 157, 3) := by decide +kernel
theorem dX11_buyer_8 : decode cX11_buyer 8 = .ok (.ifCond .ne 5, 3) := by decide +kernel
theorem dX11_buyer_11 : decode cX11_buyer 11 = .ok (.iconst (-1), 1) := by decide +kernel
theorem dX11_buyer_12 : decode cX11_buyer 12 = .ok (.ireturn, 1) := by decide +kernel
set_option maxHeartbeats 4000000 in
set_option maxRecDepth 100000 in
theorem c_X11_buyer (l : Launch) (D : va_G) (cs : Nat → ClassId) (kK kV : Nat → Nat) (g : Nat → Nat) (rr : Nat → Nat) (p0 : Int32) (p1 : Int32) : Met l yX11_buyer (hz_w yX11_buyer cX11_buyer 3 (some .int)) ({ frames := 1, cells := 0, slots := 0, locals := 21 }) (va_Pc [.ref (g 0), .int p0, .int p1] (hz_P D cs kK kV [(g 0, .inr (11, [.ref (g 1), .ref (g 2), .ref (g 3), .ref (g 4), .int 0, .ref (g 5), .ref (g 6), .ref (g 7), .ref (g 8), .int 0, .int 0, .ref (g 9), .ref (g 10), .ref (g 11), .ref (g 12), .ref (g 13), .int 0])), (g 5, .inr (8, [.int 0, .int 0, .int 0, .int 0, .int 0, .int 12, .int 5, .int 1, .int 0, .ref (rr 0), .ref (rr 1), .ref (rr 2), .ref (rr 3), .ref (rr 4), .ref (rr 5), .ref (rr 6), .ref (rr 7), .ref (rr 8)]))])) (va_Qi (fun (r : Int32) (_ : Unit) => r = -1) (fun _ t => True) (fun _ => False)) 0 0 (fun _ => False) := by
  refine Met.ofW (cc := cX11_buyer) (maxL := 3) (ret := (some .int)) (by decide) rfl ?_
  intro p e s m args below meth c s₁ B hml hv
  obtain ⟨rfl, hP, hE⟩ := hv
  have hx := B.exec
  have hb := B.bytes
  have hr := B.returns
  have hT : ∀ w ∈ TB, w.before _ s = true := fun w h => atoms_spec (ws := hz_w yX11_buyer cX11_buyer 3 (some .int)) B.pre w (List.mem_cons_of_mem _ h)
  have hown : s.vm.findClass RX11 = some m.cls := findClass_of_methodNamed B.named
  have hlocks := B.notSynchronized
  clear B
  have hS : va_S (fun _ => False) s.heap s.heap [] := va_S.rf
  have hP : va_P D classes [(g 0, .inr (11, [.ref (g 1), .ref (g 2), .ref (g 3), .ref (g 4), .int 0, .ref (g 5), .ref (g 6), .ref (g 7), .ref (g 8), .int 0, .int 0, .ref (g 9), .ref (g 10), .ref (g 11), .ref (g 12), .ref (g 13), .int 0])), (g 5, .inr (8, [.int 0, .int 0, .int 0, .int 0, .int 0, .int 12, .int 5, .int 1, .int 0, .ref (rr 0), .ref (rr 1), .ref (rr 2), .ref (rr 3), .ref (rr 4), .ref (rr 5), .ref (rr 6), .ref (rr 7), .ref (rr 8)]))] s.heap := hP
  have hK := hE.1
  have hl := lv_entry ([.ref (g 0), .int p0, .int p1]) (n := 3) (Nat.le_of_ble_eq_true rfl)
  rw [lg_entry_eq]
  generalize (lg_sl ([.ref (g 0), .int p0, .int p1]) ++ List.replicate (3 - (lg_sl ([.ref (g 0), .int p0, .int p1])).length) Slot.unset).toArray = ls at hl ⊢
  have hl : lv_has ls 3 [(0, .ref (g 0)), (1, .int p0), (2, .int p1)] := hl
  obtain ⟨H, eH⟩ : ∃ z, z = s.heap := ⟨_, rfl⟩
  have hP : va_P D classes [(g 0, .inr (11, [.ref (g 1), .ref (g 2), .ref (g 3), .ref (g 4), .int 0, .ref (g 5), .ref (g 6), .ref (g 7), .ref (g 8), .int 0, .int 0, .ref (g 9), .ref (g 10), .ref (g 11), .ref (g 12), .ref (g 13), .int 0])), (g 5, .inr (8, [.int 0, .int 0, .int 0, .int 0, .int 0, .int 12, .int 5, .int 1, .int 0, .ref (rr 0), .ref (rr 1), .ref (rr 2), .ref (rr 3), .ref (rr 4), .ref (rr 5), .ref (rr 6), .ref (rr 7), .ref (rr 8)]))] H := by rw [eH]; exact hP
  have hS : va_S (fun _ => False) s.heap H [] := by rw [eH]; exact hS
  rw [← eH]
  clear eH
  refine lv_aload_n hx hb dX11_buyer_0 rfl (lv_at hl 0 rfl) ?_
  refine va_get (D := D) (ci := 11) (v := .ref (g 5)) (C := RX11) (T := TX11) (N := 17) hx hb hT i_X11 hown hK hP 0 rfl rfl 5 (by decide) (hT _ q_168) (fun _ h9 => h9) rfl dX11_buyer_1 ?_
  refine lv_iload_n hx hb dX11_buyer_4 rfl (lv_at hl 1 rfl) ?_
  refine va_calli (va_runV (As := [.int p0]) (rest := []) ⟨hx, hb, hml, hown, hT⟩ (c_X8_isBuyer l D cs kK kV (g 5) rr p0) (cwV 1 hT (hz_gV q_176 q_177 q_178 q_121 q_179) rfl rfl rfl (by decide +kernel) ⟨(Nat.le_of_ble_eq_true rfl), (Nat.le_of_ble_eq_true rfl)⟩) ⟨hz_P.blind, va_recv hK hP (ci := 8) (q0 := 1) rfl rfl, hz_P.mk (hP.sub (ws' := [(g 5, .inr (8, [.int 0, .int 0, .int 0, .int 0, .int 0, .int 12, .int 5, .int 1, .int 0, .ref (rr 0), .ref (rr 1), .ref (rr 2), .ref (rr 3), .ref (rr 4), .ref (rr 5), .ref (rr 6), .ref (rr 7), .ref (rr 8)]))]) [1] rfl) hE hS⟩ rfl rfl hl.1 rfl (lv_room (Nat.le_of_ble_eq_true rfl)) dX11_buyer_5 ⟨(Nat.le_of_ble_eq_true rfl), (Nat.le_of_ble_eq_true rfl)⟩) hS (fun _ _ h => h.elim) (fun _ h => h.elim) (fun r_1 u t H1 locs ht hvm hw hB hz1 hk1 hS => ?_)
  have hP := hz_keep hP hk1
  clear hk1 hB hz1
  generalize H1 = H at hP hS ⊢
  subst hw
  refine lv_if_ne (tgt := 13) hx hb dX11_buyer_8 (by decide) (fun z => absurd (by decide) z) (fun _ => ?_)
  refine lv_iconst (v := -1) hx hb dX11_buyer_11 (by decide) ?_
  exact W.iret (v := -1) hx hb hr (fun t ht hW => ⟨⟨-1, (), rfl, rfl, trivial⟩, hS.F ht⟩) hS.2.2 dX11_buyer_12
theorem dX11_spot_0 : decode cX11_spot 0 = .ok (.iload_n 1, 1) := by decide +kernel
theorem dX11_spot_1 : decode cX11_spot 1 = .ok (.ifCond .lt 24, 3) := by decide +kernel
theorem dX11_spot_4 : decode cX11_spot 4 = .ok (.iload_n 1, 1) := by decide +kernel
theorem dX11_spot_5 : decode cX11_spot 5 = .ok (.aload_n 0, 1) := by decide +kernel
theorem dX11_spot_6 : decode cX11_spot 6 = .ok (.getfield 39, 3) := by decide +kernel
theorem dX11_spot_9 : decode cX11_spot 9 = .ok (.getfield 178, 3) := by decide +kernel
theorem dX11_spot_12 : decode cX11_spot 12 = .ok (.if_icmp .ge 13, 3) := by decide +kernel
theorem dX11_spot_25 : decode cX11_spot 25 = .ok (.iconst (-1), 1) := by decide +kernel
theorem dX11_spot_26 : decode cX11_spot 26 = .ok (.ireturn, 1) := by decide +kernel
set_option maxHeartbeats 4000000 in
set_option maxRecDepth 100000 in
theorem c_X11_spot (l : Launch) (D : va_G) (cs : Nat → ClassId) (kK kV : Nat → Nat) (g : Nat → Nat) (rr : Nat → Nat) (p0 : Int32) (p1 : Int32) : Met l yX11_spot (hz_w yX11_spot cX11_spot 3 (some .int)) ({ frames := 0, cells := 0, slots := 0, locals := 0 }) (va_Pc [.ref (g 0), .int p0, .int p1] (hz_P D cs kK kV [(g 0, .inr (11, [.ref (g 1), .ref (g 2), .ref (g 3), .ref (g 4), .int 0, .ref (g 5), .ref (g 6), .ref (g 7), .ref (g 8), .int 0, .int 0, .ref (g 9), .ref (g 10), .ref (g 11), .ref (g 12), .ref (g 13), .int 0])), (g 5, .inr (8, [.int 0, .int 0, .int 0, .int 0, .int 0, .int 12, .int 5, .int 1, .int 0, .ref (rr 0), .ref (rr 1), .ref (rr 2), .ref (rr 3), .ref (rr 4), .ref (rr 5), .ref (rr 6), .ref (rr 7), .ref (rr 8)]))])) (va_Qi (fun (r : Int32) (_ : Unit) => r = -1) (fun _ t => True) (fun _ => False)) 0 0 (fun _ => False) := by
  refine Met.ofW (cc := cX11_spot) (maxL := 3) (ret := (some .int)) (by decide) rfl ?_
  intro p e s m args below meth c s₁ B hml hv
  obtain ⟨rfl, hP, hE⟩ := hv
  have hx := B.exec
  have hb := B.bytes
  have hr := B.returns
  have hT : ∀ w ∈ TB, w.before _ s = true := fun w h => atoms_spec (ws := hz_w yX11_spot cX11_spot 3 (some .int)) B.pre w (List.mem_cons_of_mem _ h)
  have hown : s.vm.findClass RX11 = some m.cls := findClass_of_methodNamed B.named
  have hlocks := B.notSynchronized
  clear B
  have hS : va_S (fun _ => False) s.heap s.heap [] := va_S.rf
  have hP : va_P D classes [(g 0, .inr (11, [.ref (g 1), .ref (g 2), .ref (g 3), .ref (g 4), .int 0, .ref (g 5), .ref (g 6), .ref (g 7), .ref (g 8), .int 0, .int 0, .ref (g 9), .ref (g 10), .ref (g 11), .ref (g 12), .ref (g 13), .int 0])), (g 5, .inr (8, [.int 0, .int 0, .int 0, .int 0, .int 0, .int 12, .int 5, .int 1, .int 0, .ref (rr 0), .ref (rr 1), .ref (rr 2), .ref (rr 3), .ref (rr 4), .ref (rr 5), .ref (rr 6), .ref (rr 7), .ref (rr 8)]))] s.heap := hP
  have hK := hE.1
  have hl := lv_entry ([.ref (g 0), .int p0, .int p1]) (n := 3) (Nat.le_of_ble_eq_true rfl)
  rw [lg_entry_eq]
  generalize (lg_sl ([.ref (g 0), .int p0, .int p1]) ++ List.replicate (3 - (lg_sl ([.ref (g 0), .int p0, .int p1])).length) Slot.unset).toArray = ls at hl ⊢
  have hl : lv_has ls 3 [(0, .ref (g 0)), (1, .int p0), (2, .int p1)] := hl
  obtain ⟨H, eH⟩ : ∃ z, z = s.heap := ⟨_, rfl⟩
  have hP : va_P D classes [(g 0, .inr (11, [.ref (g 1), .ref (g 2), .ref (g 3), .ref (g 4), .int 0, .ref (g 5), .ref (g 6), .ref (g 7), .ref (g 8), .int 0, .int 0, .ref (g 9), .ref (g 10), .ref (g 11), .ref (g 12), .ref (g 13), .int 0])), (g 5, .inr (8, [.int 0, .int 0, .int 0, .int 0, .int 0, .int 12, .int 5, .int 1, .int 0, .ref (rr 0), .ref (rr 1), .ref (rr 2), .ref (rr 3), .ref (rr 4), .ref (rr 5), .ref (rr 6), .ref (rr 7), .ref (rr 8)]))] H := by rw [eH]; exact hP
  have hS : va_S (fun _ => False) s.heap H [] := by rw [eH]; exact hS
  rw [← eH]
  clear eH
  refine lv_iload_n hx hb dX11_spot_0 rfl (lv_at hl 1 rfl) ?_
  refine lv_if_lt (tgt := 25) hx hb dX11_spot_1 (by decide) (fun c_1 => ?_) (fun c_1 => ?_)
  · refine lv_iconst (v := -1) hx hb dX11_spot_25 (by decide) ?_
    exact W.iret (v := -1) hx hb hr (fun t ht hW => ⟨⟨-1, (), rfl, rfl, trivial⟩, hS.F ht⟩) hS.2.2 dX11_spot_26
  · refine lv_iload_n hx hb dX11_spot_4 rfl (lv_at hl 1 rfl) ?_
    refine lv_aload_n hx hb dX11_spot_5 rfl (lv_at hl 0 rfl) ?_
    refine va_get (D := D) (ci := 11) (v := .ref (g 5)) (C := RX11) (T := TX11) (N := 17) hx hb hT i_X11 hown hK hP 0 rfl rfl 5 (by decide) (hT _ q_168) (fun _ h9 => h9) rfl dX11_spot_6 ?_
    refine va_get (D := D) (ci := 8) (v := .int 0) (C := RX8) (T := TX8) (N := 18) hx hb hT i_X8 hown hK hP 1 rfl rfl 0 (by decide) (hT _ q_169) (fun _ h9 => h9) rfl dX11_spot_9 ?_
    refine lv_icmp_ge (tgt := 25) hx hb dX11_spot_12 (by decide) (fun _ => ?_) (fun z => absurd (Int32.not_lt.mp c_1) z)
    refine lv_iconst (v := -1) hx hb dX11_spot_25 (by decide) ?_
    exact W.iret (v := -1) hx hb hr (fun t ht hW => ⟨⟨-1, (), rfl, rfl, trivial⟩, hS.F ht⟩) hS.2.2 dX11_spot_26
theorem dX11_go_0 : decode cX11_go 0 = .ok (.aload_n 0, 1) := by decide +kernel
theorem dX11_go_1 : decode cX11_go 1 = .ok (.getfield 39, 3) := by decide +kernel
theorem dX11_go_4 : decode cX11_go 4 = .ok (.iload_n 1, 1) := by decide +kernel
theorem dX11_go_5 : decode cX11_go 5 = .ok (.invokevirtual 157, 3) := by decide +kernel
theorem dX11_go_8 : decode cX11_go 8 = .ok (.ifCond .eq 25, 3) := by decide +kernel
theorem dX11_go_33 : decode cX11_go 33 = .ok (.iconst (-1), 1) := by decide +kernel
theorem dX11_go_34 : decode cX11_go 34 = .ok (.ireturn, 1) := by decide +kernel
set_option maxHeartbeats 4000000 in
set_option maxRecDepth 100000 in
theorem c_X11_go (l : Launch) (D : va_G) (cs : Nat → ClassId) (kK kV : Nat → Nat) (g : Nat → Nat) (rr : Nat → Nat) (p0 : Int32) (p1 : Int32) : Met l yX11_go (hz_w yX11_go cX11_go 3 (some .int)) ({ frames := 1, cells := 0, slots := 0, locals := 21 }) (va_Pc [.ref (g 0), .int p0, .int p1] (hz_P D cs kK kV [(g 0, .inr (11, [.ref (g 1), .ref (g 2), .ref (g 3), .ref (g 4), .int 0, .ref (g 5), .ref (g 6), .ref (g 7), .ref (g 8), .int 0, .int 0, .ref (g 9), .ref (g 10), .ref (g 11), .ref (g 12), .ref (g 13), .int 0])), (g 5, .inr (8, [.int 0, .int 0, .int 0, .int 0, .int 0, .int 12, .int 5, .int 1, .int 0, .ref (rr 0), .ref (rr 1), .ref (rr 2), .ref (rr 3), .ref (rr 4), .ref (rr 5), .ref (rr 6), .ref (rr 7), .ref (rr 8)]))])) (va_Qi (fun (r : Int32) (_ : Unit) => r = -1) (fun _ t => True) (fun _ => False)) 0 0 (fun _ => False) := by
  refine Met.ofW (cc := cX11_go) (maxL := 3) (ret := (some .int)) (by decide) rfl ?_
  intro p e s m args below meth c s₁ B hml hv
  obtain ⟨rfl, hP, hE⟩ := hv
  have hx := B.exec
  have hb := B.bytes
  have hr := B.returns
  have hT : ∀ w ∈ TB, w.before _ s = true := fun w h => atoms_spec (ws := hz_w yX11_go cX11_go 3 (some .int)) B.pre w (List.mem_cons_of_mem _ h)
  have hown : s.vm.findClass RX11 = some m.cls := findClass_of_methodNamed B.named
  have hlocks := B.notSynchronized
  clear B
  have hS : va_S (fun _ => False) s.heap s.heap [] := va_S.rf
  have hP : va_P D classes [(g 0, .inr (11, [.ref (g 1), .ref (g 2), .ref (g 3), .ref (g 4), .int 0, .ref (g 5), .ref (g 6), .ref (g 7), .ref (g 8), .int 0, .int 0, .ref (g 9), .ref (g 10), .ref (g 11), .ref (g 12), .ref (g 13), .int 0])), (g 5, .inr (8, [.int 0, .int 0, .int 0, .int 0, .int 0, .int 12, .int 5, .int 1, .int 0, .ref (rr 0), .ref (rr 1), .ref (rr 2), .ref (rr 3), .ref (rr 4), .ref (rr 5), .ref (rr 6), .ref (rr 7), .ref (rr 8)]))] s.heap := hP
  have hK := hE.1
  have hl := lv_entry ([.ref (g 0), .int p0, .int p1]) (n := 3) (Nat.le_of_ble_eq_true rfl)
  rw [lg_entry_eq]
  generalize (lg_sl ([.ref (g 0), .int p0, .int p1]) ++ List.replicate (3 - (lg_sl ([.ref (g 0), .int p0, .int p1])).length) Slot.unset).toArray = ls at hl ⊢
  have hl : lv_has ls 3 [(0, .ref (g 0)), (1, .int p0), (2, .int p1)] := hl
  obtain ⟨H, eH⟩ : ∃ z, z = s.heap := ⟨_, rfl⟩
  have hP : va_P D classes [(g 0, .inr (11, [.ref (g 1), .ref (g 2), .ref (g 3), .ref (g 4), .int 0, .ref (g 5), .ref (g 6), .ref (g 7), .ref (g 8), .int 0, .int 0, .ref (g 9), .ref (g 10), .ref (g 11), .ref (g 12), .ref (g 13), .int 0])), (g 5, .inr (8, [.int 0, .int 0, .int 0, .int 0, .int 0, .int 12, .int 5, .int 1, .int 0, .ref (rr 0), .ref (rr 1), .ref (rr 2), .ref (rr 3), .ref (rr 4), .ref (rr 5), .ref (rr 6), .ref (rr 7), .ref (rr 8)]))] H := by rw [eH]; exact hP
  have hS : va_S (fun _ => False) s.heap H [] := by rw [eH]; exact hS
  rw [← eH]
  clear eH
  refine lv_aload_n hx hb dX11_go_0 rfl (lv_at hl 0 rfl) ?_
  refine va_get (D := D) (ci := 11) (v := .ref (g 5)) (C := RX11) (T := TX11) (N := 17) hx hb hT i_X11 hown hK hP 0 rfl rfl 5 (by decide) (hT _ q_168) (fun _ h9 => h9) rfl dX11_go_1 ?_
  refine lv_iload_n hx hb dX11_go_4 rfl (lv_at hl 1 rfl) ?_
  refine va_calli (va_runV (As := [.int p0]) (rest := []) ⟨hx, hb, hml, hown, hT⟩ (c_X8_isBuyer l D cs kK kV (g 5) rr p0) (cwV 1 hT (hz_gV q_176 q_177 q_178 q_121 q_179) rfl rfl rfl (by decide +kernel) ⟨(Nat.le_of_ble_eq_true rfl), (Nat.le_of_ble_eq_true rfl)⟩) ⟨hz_P.blind, va_recv hK hP (ci := 8) (q0 := 1) rfl rfl, hz_P.mk (hP.sub (ws' := [(g 5, .inr (8, [.int 0, .int 0, .int 0, .int 0, .int 0, .int 12, .int 5, .int 1, .int 0, .ref (rr 0), .ref (rr 1), .ref (rr 2), .ref (rr 3), .ref (rr 4), .ref (rr 5), .ref (rr 6), .ref (rr 7), .ref (rr 8)]))]) [1] rfl) hE hS⟩ rfl rfl hl.1 rfl (lv_room (Nat.le_of_ble_eq_true rfl)) dX11_go_5 ⟨(Nat.le_of_ble_eq_true rfl), (Nat.le_of_ble_eq_true rfl)⟩) hS (fun _ _ h => h.elim) (fun _ h => h.elim) (fun r_1 u t H1 locs ht hvm hw hB hz1 hk1 hS => ?_)
  have hP := hz_keep hP hk1
  clear hk1 hB hz1
  generalize H1 = H at hP hS ⊢
  subst hw
  refine lv_if_eq (tgt := 33) hx hb dX11_go_8 (by decide) (fun _ => ?_) (fun z => absurd (by decide) z)
  refine lv_iconst (v := -1) hx hb dX11_go_33 (by decide) ?_
  exact W.iret (v := -1) hx hb hr (fun t ht hW => ⟨⟨-1, (), rfl, rfl, trivial⟩, hS.F ht⟩) hS.2.2 dX11_go_34
theorem dX11_buy_0 : decode cX11_buy 0 = .ok (.aload_n 0, 1) := by decide +kernel
theorem dX11_buy_1 : decode cX11_buy 1 = .ok (.getfield 39, 3) := by decide +kernel
theorem dX11_buy_4 : decode cX11_buy 4 = .ok (.iload_n 1, 1) := by decide +kernel
theorem dX11_buy_5 : decode cX11_buy 5 = .ok (.invokevirtual 157, 3) := by decide +kernel
theorem dX11_buy_8 : decode cX11_buy 8 = .ok (.ifCond .eq 14, 3) := by decide +kernel
theorem dX11_buy_22 : decode cX11_buy 22 = .ok (.iconst (-1), 1) := by decide +kernel
theorem dX11_buy_23 : decode cX11_buy 23 = .ok (.ireturn, 1) := by decide +kernel
set_option maxHeartbeats 4000000 in
set_option maxRecDepth 100000 in
theorem c_X11_buy (l : Launch) (D : va_G) (cs : Nat → ClassId) (kK kV : Nat → Nat) (g : Nat → Nat) (rr : Nat → Nat) (p0 : Int32) (p1 : Int32) : Met l yX11_buy (hz_w yX11_buy cX11_buy 5 (some .int)) ({ frames := 1, cells := 0, slots := 0, locals := 21 }) (va_Pc [.ref (g 0), .int p0, .int p1] (hz_P D cs kK kV [(g 0, .inr (11, [.ref (g 1), .ref (g 2), .ref (g 3), .ref (g 4), .int 0, .ref (g 5), .ref (g 6), .ref (g 7), .ref (g 8), .int 0, .int 0, .ref (g 9), .ref (g 10), .ref (g 11), .ref (g 12), .ref (g 13), .int 0])), (g 5, .inr (8, [.int 0, .int 0, .int 0, .int 0, .int 0, .int 12, .int 5, .int 1, .int 0, .ref (rr 0), .ref (rr 1), .ref (rr 2), .ref (rr 3), .ref (rr 4), .ref (rr 5), .ref (rr 6), .ref (rr 7), .ref (rr 8)]))])) (va_Qi (fun (r : Int32) (_ : Unit) => r = -1) (fun _ t => True) (fun _ => False)) 0 0 (fun _ => False) := by
  refine Met.ofW (cc := cX11_buy) (maxL := 5) (ret := (some .int)) (by decide) rfl ?_
  intro p e s m args below meth c s₁ B hml hv
  obtain ⟨rfl, hP, hE⟩ := hv
  have hx := B.exec
  have hb := B.bytes
  have hr := B.returns
  have hT : ∀ w ∈ TB, w.before _ s = true := fun w h => atoms_spec (ws := hz_w yX11_buy cX11_buy 5 (some .int)) B.pre w (List.mem_cons_of_mem _ h)
  have hown : s.vm.findClass RX11 = some m.cls := findClass_of_methodNamed B.named
  have hlocks := B.notSynchronized
  clear B
  have hS : va_S (fun _ => False) s.heap s.heap [] := va_S.rf
  have hP : va_P D classes [(g 0, .inr (11, [.ref (g 1), .ref (g 2), .ref (g 3), .ref (g 4), .int 0, .ref (g 5), .ref (g 6), .ref (g 7), .ref (g 8), .int 0, .int 0, .ref (g 9), .ref (g 10), .ref (g 11), .ref (g 12), .ref (g 13), .int 0])), (g 5, .inr (8, [.int 0, .int 0, .int 0, .int 0, .int 0, .int 12, .int 5, .int 1, .int 0, .ref (rr 0), .ref (rr 1), .ref (rr 2), .ref (rr 3), .ref (rr 4), .ref (rr 5), .ref (rr 6), .ref (rr 7), .ref (rr 8)]))] s.heap := hP
  have hK := hE.1
  have hl := lv_entry ([.ref (g 0), .int p0, .int p1]) (n := 5) (Nat.le_of_ble_eq_true rfl)
  rw [lg_entry_eq]
  generalize (lg_sl ([.ref (g 0), .int p0, .int p1]) ++ List.replicate (5 - (lg_sl ([.ref (g 0), .int p0, .int p1])).length) Slot.unset).toArray = ls at hl ⊢
  have hl : lv_has ls 5 [(0, .ref (g 0)), (1, .int p0), (2, .int p1)] := hl
  obtain ⟨H, eH⟩ : ∃ z, z = s.heap := ⟨_, rfl⟩
  have hP : va_P D classes [(g 0, .inr (11, [.ref (g 1), .ref (g 2), .ref (g 3), .ref (g 4), .int 0, .ref (g 5), .ref (g 6), .ref (g 7), .ref (g 8), .int 0, .int 0, .ref (g 9), .ref (g 10), .ref (g 11), .ref (g 12), .ref (g 13), .int 0])), (g 5, .inr (8, [.int 0, .int 0, .int 0, .int 0, .int 0, .int 12, .int 5, .int 1, .int 0, .ref (rr 0), .ref (rr 1), .ref (rr 2), .ref (rr 3), .ref (rr 4), .ref (rr 5), .ref (rr 6), .ref (rr 7), .ref (rr 8)]))] H := by rw [eH]; exact hP
  have hS : va_S (fun _ => False) s.heap H [] := by rw [eH]; exact hS
  rw [← eH]
  clear eH
  refine lv_aload_n hx hb dX11_buy_0 rfl (lv_at hl 0 rfl) ?_
  refine va_get (D := D) (ci := 11) (v := .ref (g 5)) (C := RX11) (T := TX11) (N := 17) hx hb hT i_X11 hown hK hP 0 rfl rfl 5 (by decide) (hT _ q_168) (fun _ h9 => h9) rfl dX11_buy_1 ?_
  refine lv_iload_n hx hb dX11_buy_4 rfl (lv_at hl 1 rfl) ?_
  refine va_calli (va_runV (As := [.int p0]) (rest := []) ⟨hx, hb, hml, hown, hT⟩ (c_X8_isBuyer l D cs kK kV (g 5) rr p0) (cwV 1 hT (hz_gV q_176 q_177 q_178 q_121 q_179) rfl rfl rfl (by decide +kernel) ⟨(Nat.le_of_ble_eq_true rfl), (Nat.le_of_ble_eq_true rfl)⟩) ⟨hz_P.blind, va_recv hK hP (ci := 8) (q0 := 1) rfl rfl, hz_P.mk (hP.sub (ws' := [(g 5, .inr (8, [.int 0, .int 0, .int 0, .int 0, .int 0, .int 12, .int 5, .int 1, .int 0, .ref (rr 0), .ref (rr 1), .ref (rr 2), .ref (rr 3), .ref (rr 4), .ref (rr 5), .ref (rr 6), .ref (rr 7), .ref (rr 8)]))]) [1] rfl) hE hS⟩ rfl rfl hl.1 rfl (lv_room (Nat.le_of_ble_eq_true rfl)) dX11_buy_5 ⟨(Nat.le_of_ble_eq_true rfl), (Nat.le_of_ble_eq_true rfl)⟩) hS (fun _ _ h => h.elim) (fun _ h => h.elim) (fun r_1 u t H1 locs ht hvm hw hB hz1 hk1 hS => ?_)
  have hP := hz_keep hP hk1
  clear hk1 hB hz1
  generalize H1 = H at hP hS ⊢
  subst hw
  refine lv_if_eq (tgt := 22) hx hb dX11_buy_8 (by decide) (fun _ => ?_) (fun z => absurd (by decide) z)
  refine lv_iconst (v := -1) hx hb dX11_buy_22 (by decide) ?_
  exact W.iret (v := -1) hx hb hr (fun t ht hW => ⟨⟨-1, (), rfl, rfl, trivial⟩, hS.F ht⟩) hS.2.2 dX11_buy_23
theorem dX11_shout_0 : decode cX11_shout 0 = .ok (.aload_n 0, 1) := by decide +kernel
theorem dX11_shout_1 : decode cX11_shout 1 = .ok (.getfield 39, 3) := by decide +kernel
theorem dX11_shout_4 : decode cX11_shout 4 = .ok (.iload_n 1, 1) := by decide +kernel
theorem dX11_shout_5 : decode cX11_shout 5 = .ok (.invokevirtual 157, 3) := by decide +kernel
theorem dX11_shout_8 : decode cX11_shout 8 = .ok (.ifCond .eq 26, 3) := by decide +kernel
theorem dX11_shout_34 : decode cX11_shout 34 = .ok (.iconst (-1), 1) := by decide +kernel
theorem dX11_shout_35 : decode cX11_shout 35 = .ok (.ireturn, 1) := by decide +kernel
set_option maxHeartbeats 4000000 in
set_option maxRecDepth 100000 in
theorem c_X11_shout (l : Launch) (D : va_G) (cs : Nat → ClassId) (kK kV : Nat → Nat) (g : Nat → Nat) (rr : Nat → Nat) (p0 : Int32) (p1 : Int32) : Met l yX11_shout (hz_w yX11_shout cX11_shout 4 (some .int)) ({ frames := 1, cells := 0, slots := 0, locals := 21 }) (va_Pc [.ref (g 0), .int p0, .int p1] (hz_P D cs kK kV [(g 0, .inr (11, [.ref (g 1), .ref (g 2), .ref (g 3), .ref (g 4), .int 0, .ref (g 5), .ref (g 6), .ref (g 7), .ref (g 8), .int 0, .int 0, .ref (g 9), .ref (g 10), .ref (g 11), .ref (g 12), .ref (g 13), .int 0])), (g 5, .inr (8, [.int 0, .int 0, .int 0, .int 0, .int 0, .int 12, .int 5, .int 1, .int 0, .ref (rr 0), .ref (rr 1), .ref (rr 2), .ref (rr 3), .ref (rr 4), .ref (rr 5), .ref (rr 6), .ref (rr 7), .ref (rr 8)]))])) (va_Qi (fun (r : Int32) (_ : Unit) => r = -1) (fun _ t => True) (fun _ => False)) 0 0 (fun _ => False) := by
  refine Met.ofW (cc := cX11_shout) (maxL := 4) (ret := (some .int)) (by decide) rfl ?_
  intro p e s m args below meth c s₁ B hml hv
  obtain ⟨rfl, hP, hE⟩ := hv
  have hx := B.exec
  have hb := B.bytes
  have hr := B.returns
  have hT : ∀ w ∈ TB, w.before _ s = true := fun w h => atoms_spec (ws := hz_w yX11_shout cX11_shout 4 (some .int)) B.pre w (List.mem_cons_of_mem _ h)
  have hown : s.vm.findClass RX11 = some m.cls := findClass_of_methodNamed B.named
  have hlocks := B.notSynchronized
  clear B
  have hS : va_S (fun _ => False) s.heap s.heap [] := va_S.rf
  have hP : va_P D classes [(g 0, .inr (11, [.ref (g 1), .ref (g 2), .ref (g 3), .ref (g 4), .int 0, .ref (g 5), .ref (g 6), .ref (g 7), .ref (g 8), .int 0, .int 0, .ref (g 9), .ref (g 10), .ref (g 11), .ref (g 12), .ref (g 13), .int 0])), (g 5, .inr (8, [.int 0, .int 0, .int 0, .int 0, .int 0, .int 12, .int 5, .int 1, .int 0, .ref (rr 0), .ref (rr 1), .ref (rr 2), .ref (rr 3), .ref (rr 4), .ref (rr 5), .ref (rr 6), .ref (rr 7), .ref (rr 8)]))] s.heap := hP
  have hK := hE.1
  have hl := lv_entry ([.ref (g 0), .int p0, .int p1]) (n := 4) (Nat.le_of_ble_eq_true rfl)
  rw [lg_entry_eq]
  generalize (lg_sl ([.ref (g 0), .int p0, .int p1]) ++ List.replicate (4 - (lg_sl ([.ref (g 0), .int p0, .int p1])).length) Slot.unset).toArray = ls at hl ⊢
  have hl : lv_has ls 4 [(0, .ref (g 0)), (1, .int p0), (2, .int p1)] := hl
  obtain ⟨H, eH⟩ : ∃ z, z = s.heap := ⟨_, rfl⟩
  have hP : va_P D classes [(g 0, .inr (11, [.ref (g 1), .ref (g 2), .ref (g 3), .ref (g 4), .int 0, .ref (g 5), .ref (g 6), .ref (g 7), .ref (g 8), .int 0, .int 0, .ref (g 9), .ref (g 10), .ref (g 11), .ref (g 12), .ref (g 13), .int 0])), (g 5, .inr (8, [.int 0, .int 0, .int 0, .int 0, .int 0, .int 12, .int 5, .int 1, .int 0, .ref (rr 0), .ref (rr 1), .ref (rr 2), .ref (rr 3), .ref (rr 4), .ref (rr 5), .ref (rr 6), .ref (rr 7), .ref (rr 8)]))] H := by rw [eH]; exact hP
  have hS : va_S (fun _ => False) s.heap H [] := by rw [eH]; exact hS
  rw [← eH]
  clear eH
  refine lv_aload_n hx hb dX11_shout_0 rfl (lv_at hl 0 rfl) ?_
  refine va_get (D := D) (ci := 11) (v := .ref (g 5)) (C := RX11) (T := TX11) (N := 17) hx hb hT i_X11 hown hK hP 0 rfl rfl 5 (by decide) (hT _ q_168) (fun _ h9 => h9) rfl dX11_shout_1 ?_
  refine lv_iload_n hx hb dX11_shout_4 rfl (lv_at hl 1 rfl) ?_
  refine va_calli (va_runV (As := [.int p0]) (rest := []) ⟨hx, hb, hml, hown, hT⟩ (c_X8_isBuyer l D cs kK kV (g 5) rr p0) (cwV 1 hT (hz_gV q_176 q_177 q_178 q_121 q_179) rfl rfl rfl (by decide +kernel) ⟨(Nat.le_of_ble_eq_true rfl), (Nat.le_of_ble_eq_true rfl)⟩) ⟨hz_P.blind, va_recv hK hP (ci := 8) (q0 := 1) rfl rfl, hz_P.mk (hP.sub (ws' := [(g 5, .inr (8, [.int 0, .int 0, .int 0, .int 0, .int 0, .int 12, .int 5, .int 1, .int 0, .ref (rr 0), .ref (rr 1), .ref (rr 2), .ref (rr 3), .ref (rr 4), .ref (rr 5), .ref (rr 6), .ref (rr 7), .ref (rr 8)]))]) [1] rfl) hE hS⟩ rfl rfl hl.1 rfl (lv_room (Nat.le_of_ble_eq_true rfl)) dX11_shout_5 ⟨(Nat.le_of_ble_eq_true rfl), (Nat.le_of_ble_eq_true rfl)⟩) hS (fun _ _ h => h.elim) (fun _ h => h.elim) (fun r_1 u t H1 locs ht hvm hw hB hz1 hk1 hS => ?_)
  have hP := hz_keep hP hk1
  clear hk1 hB hz1
  generalize H1 = H at hP hS ⊢
  subst hw
  refine lv_if_eq (tgt := 34) hx hb dX11_shout_8 (by decide) (fun _ => ?_) (fun z => absurd (by decide) z)
  refine lv_iconst (v := -1) hx hb dX11_shout_34 (by decide) ?_
  exact W.iret (v := -1) hx hb hr (fun t ht hW => ⟨⟨-1, (), rfl, rfl, trivial⟩, hS.F ht⟩) hS.2.2 dX11_shout_35
theorem dX11_swap_0 : decode cX11_swap 0 = .ok (.aload_n 0, 1) := by decide +kernel
theorem dX11_swap_1 : decode cX11_swap 1 = .ok (.iload_n 1, 1) := by decide +kernel
theorem dX11_swap_2 : decode cX11_swap 2 = .ok (.iload_n 2, 1) := by decide +kernel
theorem dX11_swap_3 : decode cX11_swap 3 = .ok (.invokevirtual 218, 3) := by decide +kernel
theorem dX11_swap_6 : decode cX11_swap 6 = .ok (.ifCond .eq 18, 3) := by decide +kernel
theorem dX11_swap_24 : decode cX11_swap 24 = .ok (.iconst 0, 1) := by decide +kernel
theorem dX11_swap_25 : decode cX11_swap 25 = .ok (.ireturn, 1) := by decide +kernel
set_option maxHeartbeats 4000000 in
set_option maxRecDepth 100000 in
theorem c_X11_swap (l : Launch) (D : va_G) (cs : Nat → ClassId) (kK kV : Nat → Nat) (g : Nat → Nat) (rr : Nat → Nat) (p0 : Int32) (p1 : Int32) (p2 : Int32) (p3 : Int32) : Met l yX11_swap (hz_w yX11_swap cX11_swap 6 (some .boolean)) ({ frames := 2, cells := 0, slots := 0, locals := 43 }) (va_Pc [.ref (g 0), .int p0, .int p1, .int p2, .int p3] (hz_P D cs kK kV [(g 0, .inr (11, [.ref (g 1), .ref (g 2), .ref (g 3), .ref (g 4), .int 0, .ref (g 5), .ref (g 6), .ref (g 7), .ref (g 8), .int 0, .int 0, .ref (g 9), .ref (g 10), .ref (g 11), .ref (g 12), .ref (g 13), .int 0])), (g 5, .inr (8, [.int 0, .int 0, .int 0, .int 0, .int 0, .int 12, .int 5, .int 1, .int 0, .ref (rr 0), .ref (rr 1), .ref (rr 2), .ref (rr 3), .ref (rr 4), .ref (rr 5), .ref (rr 6), .ref (rr 7), .ref (rr 8)]))])) (va_Qi (fun (r : Int32) (_ : Unit) => r = 0) (fun _ t => True) (fun _ => False)) 0 0 (fun _ => False) := by
  refine Met.ofW (cc := cX11_swap) (maxL := 6) (ret := (some .boolean)) (by decide) rfl ?_
  intro p e s m args below meth c s₁ B hml hv
  obtain ⟨rfl, hP, hE⟩ := hv
  have hx := B.exec
  have hb := B.bytes
  have hr := B.returns
  have hT : ∀ w ∈ TB, w.before _ s = true := fun w h => atoms_spec (ws := hz_w yX11_swap cX11_swap 6 (some .boolean)) B.pre w (List.mem_cons_of_mem _ h)
  have hown : s.vm.findClass RX11 = some m.cls := findClass_of_methodNamed B.named
  have hlocks := B.notSynchronized
  clear B
  have hS : va_S (fun _ => False) s.heap s.heap [] := va_S.rf
  have hP : va_P D classes [(g 0, .inr (11, [.ref (g 1), .ref (g 2), .ref (g 3), .ref (g 4), .int 0, .ref (g 5), .ref (g 6), .ref (g 7), .ref (g 8), .int 0, .int 0, .ref (g 9), .ref (g 10), .ref (g 11), .ref (g 12), .ref (g 13), .int 0])), (g 5, .inr (8, [.int 0, .int 0, .int 0, .int 0, .int 0, .int 12, .int 5, .int 1, .int 0, .ref (rr 0), .ref (rr 1), .ref (rr 2), .ref (rr 3), .ref (rr 4), .ref (rr 5), .ref (rr 6), .ref (rr 7), .ref (rr 8)]))] s.heap := hP
  have hK := hE.1
  have hl := lv_entry ([.ref (g 0), .int p0, .int p1, .int p2, .int p3]) (n := 6) (Nat.le_of_ble_eq_true rfl)
  rw [lg_entry_eq]
  generalize (lg_sl ([.ref (g 0), .int p0, .int p1, .int p2, .int p3]) ++ List.replicate (6 - (lg_sl ([.ref (g 0), .int p0, .int p1, .int p2, .int p3])).length) Slot.unset).toArray = ls at hl ⊢
  have hl : lv_has ls 6 [(0, .ref (g 0)), (1, .int p0), (2, .int p1), (3, .int p2), (4, .int p3)] := hl
  obtain ⟨H, eH⟩ : ∃ z, z = s.heap := ⟨_, rfl⟩
  have hP : va_P D classes [(g 0, .inr (11, [.ref (g 1), .ref (g 2), .ref (g 3), .ref (g 4), .int 0, .ref (g 5), .ref (g 6), .ref (g 7), .ref (g 8), .int 0, .int 0, .ref (g 9), .ref (g 10), .ref (g 11), .ref (g 12), .ref (g 13), .int 0])), (g 5, .inr (8, [.int 0, .int 0, .int 0, .int 0, .int 0, .int 12, .int 5, .int 1, .int 0, .ref (rr 0), .ref (rr 1), .ref (rr 2), .ref (rr 3), .ref (rr 4), .ref (rr 5), .ref (rr 6), .ref (rr 7), .ref (rr 8)]))] H := by rw [eH]; exact hP
  have hS : va_S (fun _ => False) s.heap H [] := by rw [eH]; exact hS
  rw [← eH]
  clear eH
  refine lv_aload_n hx hb dX11_swap_0 rfl (lv_at hl 0 rfl) ?_
  refine lv_iload_n hx hb dX11_swap_1 rfl (lv_at hl 1 rfl) ?_
  refine lv_iload_n hx hb dX11_swap_2 rfl (lv_at hl 2 rfl) ?_
  refine va_calli (va_runV (As := [.int p0, .int p1]) (rest := []) ⟨hx, hb, hml, hown, hT⟩ (c_X11_isTheirs l D cs kK kV g rr p0 p1) (cwV 2 hT (hz_gV q_184 q_185 q_186 q_174 q_187) rfl rfl rfl (by decide +kernel) ⟨(Nat.le_of_ble_eq_true rfl), (Nat.le_of_ble_eq_true rfl)⟩) ⟨hz_P.blind, va_recv hK hP (ci := 11) (q0 := 0) rfl rfl, hz_P.mk (hP.sub (ws' := [(g 0, .inr (11, [.ref (g 1), .ref (g 2), .ref (g 3), .ref (g 4), .int 0, .ref (g 5), .ref (g 6), .ref (g 7), .ref (g 8), .int 0, .int 0, .ref (g 9), .ref (g 10), .ref (g 11), .ref (g 12), .ref (g 13), .int 0])), (g 5, .inr (8, [.int 0, .int 0, .int 0, .int 0, .int 0, .int 12, .int 5, .int 1, .int 0, .ref (rr 0), .ref (rr 1), .ref (rr 2), .ref (rr 3), .ref (rr 4), .ref (rr 5), .ref (rr 6), .ref (rr 7), .ref (rr 8)]))]) [0,1] rfl) hE hS⟩ rfl rfl hl.1 rfl (lv_room (Nat.le_of_ble_eq_true rfl)) dX11_swap_3 ⟨(Nat.le_of_ble_eq_true rfl), (Nat.le_of_ble_eq_true rfl)⟩) hS (fun _ _ h => h.elim) (fun _ h => h.elim) (fun r_1 u t H1 locs ht hvm hw hB hz1 hk1 hS => ?_)
  have hP := hz_keep hP hk1
  clear hk1 hB hz1
  generalize H1 = H at hP hS ⊢
  subst hw
  refine lv_if_eq (tgt := 24) hx hb dX11_swap_6 (by decide) (fun _ => ?_) (fun z => absurd (by decide) z)
  refine lv_iconst (v := 0) hx hb dX11_swap_24 (by decide) ?_
  exact W.zret (v := 0) hx hb hr rfl (fun t ht hW => ⟨⟨0, (), rfl, rfl, trivial⟩, hS.F ht⟩) hS.2.2 dX11_swap_25
theorem dX11_giveUp_0 : decode cX11_giveUp 0 = .ok (.aload_n 0, 1) := by decide +kernel
theorem dX11_giveUp_1 : decode cX11_giveUp 1 = .ok (.iload_n 1, 1) := by decide +kernel
theorem dX11_giveUp_2 : decode cX11_giveUp 2 = .ok (.iload_n 2, 1) := by decide +kernel
theorem dX11_giveUp_3 : decode cX11_giveUp 3 = .ok (.invokevirtual 218, 3) := by decide +kernel
theorem dX11_giveUp_6 : decode cX11_giveUp 6 = .ok (.ifCond .ne 5, 3) := by decide +kernel
theorem dX11_giveUp_9 : decode cX11_giveUp 9 = .ok (.iconst (-1), 1) := by decide +kernel
theorem dX11_giveUp_10 : decode cX11_giveUp 10 = .ok (.ireturn, 1) := by decide +kernel
set_option maxHeartbeats 4000000 in
set_option maxRecDepth 100000 in
theorem c_X11_giveUp (l : Launch) (D : va_G) (cs : Nat → ClassId) (kK kV : Nat → Nat) (g : Nat → Nat) (rr : Nat → Nat) (p0 : Int32) (p1 : Int32) : Met l yX11_giveUp (hz_w yX11_giveUp cX11_giveUp 3 (some .int)) ({ frames := 2, cells := 0, slots := 0, locals := 43 }) (va_Pc [.ref (g 0), .int p0, .int p1] (hz_P D cs kK kV [(g 0, .inr (11, [.ref (g 1), .ref (g 2), .ref (g 3), .ref (g 4), .int 0, .ref (g 5), .ref (g 6), .ref (g 7), .ref (g 8), .int 0, .int 0, .ref (g 9), .ref (g 10), .ref (g 11), .ref (g 12), .ref (g 13), .int 0])), (g 5, .inr (8, [.int 0, .int 0, .int 0, .int 0, .int 0, .int 12, .int 5, .int 1, .int 0, .ref (rr 0), .ref (rr 1), .ref (rr 2), .ref (rr 3), .ref (rr 4), .ref (rr 5), .ref (rr 6), .ref (rr 7), .ref (rr 8)]))])) (va_Qi (fun (r : Int32) (_ : Unit) => r = -1) (fun _ t => True) (fun _ => False)) 0 0 (fun _ => False) := by
  refine Met.ofW (cc := cX11_giveUp) (maxL := 3) (ret := (some .int)) (by decide) rfl ?_
  intro p e s m args below meth c s₁ B hml hv
  obtain ⟨rfl, hP, hE⟩ := hv
  have hx := B.exec
  have hb := B.bytes
  have hr := B.returns
  have hT : ∀ w ∈ TB, w.before _ s = true := fun w h => atoms_spec (ws := hz_w yX11_giveUp cX11_giveUp 3 (some .int)) B.pre w (List.mem_cons_of_mem _ h)
  have hown : s.vm.findClass RX11 = some m.cls := findClass_of_methodNamed B.named
  have hlocks := B.notSynchronized
  clear B
  have hS : va_S (fun _ => False) s.heap s.heap [] := va_S.rf
  have hP : va_P D classes [(g 0, .inr (11, [.ref (g 1), .ref (g 2), .ref (g 3), .ref (g 4), .int 0, .ref (g 5), .ref (g 6), .ref (g 7), .ref (g 8), .int 0, .int 0, .ref (g 9), .ref (g 10), .ref (g 11), .ref (g 12), .ref (g 13), .int 0])), (g 5, .inr (8, [.int 0, .int 0, .int 0, .int 0, .int 0, .int 12, .int 5, .int 1, .int 0, .ref (rr 0), .ref (rr 1), .ref (rr 2), .ref (rr 3), .ref (rr 4), .ref (rr 5), .ref (rr 6), .ref (rr 7), .ref (rr 8)]))] s.heap := hP
  have hK := hE.1
  have hl := lv_entry ([.ref (g 0), .int p0, .int p1]) (n := 3) (Nat.le_of_ble_eq_true rfl)
  rw [lg_entry_eq]
  generalize (lg_sl ([.ref (g 0), .int p0, .int p1]) ++ List.replicate (3 - (lg_sl ([.ref (g 0), .int p0, .int p1])).length) Slot.unset).toArray = ls at hl ⊢
  have hl : lv_has ls 3 [(0, .ref (g 0)), (1, .int p0), (2, .int p1)] := hl
  obtain ⟨H, eH⟩ : ∃ z, z = s.heap := ⟨_, rfl⟩
  have hP : va_P D classes [(g 0, .inr (11, [.ref (g 1), .ref (g 2), .ref (g 3), .ref (g 4), .int 0, .ref (g 5), .ref (g 6), .ref (g 7), .ref (g 8), .int 0, .int 0, .ref (g 9), .ref (g 10), .ref (g 11), .ref (g 12), .ref (g 13), .int 0])), (g 5, .inr (8, [.int 0, .int 0, .int 0, .int 0, .int 0, .int 12, .int 5, .int 1, .int 0, .ref (rr 0), .ref (rr 1), .ref (rr 2), .ref (rr 3), .ref (rr 4), .ref (rr 5), .ref (rr 6), .ref (rr 7), .ref (rr 8)]))] H := by rw [eH]; exact hP
  have hS : va_S (fun _ => False) s.heap H [] := by rw [eH]; exact hS
  rw [← eH]
  clear eH
  refine lv_aload_n hx hb dX11_giveUp_0 rfl (lv_at hl 0 rfl) ?_
  refine lv_iload_n hx hb dX11_giveUp_1 rfl (lv_at hl 1 rfl) ?_
  refine lv_iload_n hx hb dX11_giveUp_2 rfl (lv_at hl 2 rfl) ?_
  refine va_calli (va_runV (As := [.int p0, .int p1]) (rest := []) ⟨hx, hb, hml, hown, hT⟩ (c_X11_isTheirs l D cs kK kV g rr p0 p1) (cwV 2 hT (hz_gV q_184 q_185 q_186 q_174 q_187) rfl rfl rfl (by decide +kernel) ⟨(Nat.le_of_ble_eq_true rfl), (Nat.le_of_ble_eq_true rfl)⟩) ⟨hz_P.blind, va_recv hK hP (ci := 11) (q0 := 0) rfl rfl, hz_P.mk (hP.sub (ws' := [(g 0, .inr (11, [.ref (g 1), .ref (g 2), .ref (g 3), .ref (g 4), .int 0, .ref (g 5), .ref (g 6), .ref (g 7), .ref (g 8), .int 0, .int 0, .ref (g 9), .ref (g 10), .ref (g 11), .ref (g 12), .ref (g 13), .int 0])), (g 5, .inr (8, [.int 0, .int 0, .int 0, .int 0, .int 0, .int 12, .int 5, .int 1, .int 0, .ref (rr 0), .ref (rr 1), .ref (rr 2), .ref (rr 3), .ref (rr 4), .ref (rr 5), .ref (rr 6), .ref (rr 7), .ref (rr 8)]))]) [0,1] rfl) hE hS⟩ rfl rfl hl.1 rfl (lv_room (Nat.le_of_ble_eq_true rfl)) dX11_giveUp_3 ⟨(Nat.le_of_ble_eq_true rfl), (Nat.le_of_ble_eq_true rfl)⟩) hS (fun _ _ h => h.elim) (fun _ h => h.elim) (fun r_1 u t H1 locs ht hvm hw hB hz1 hk1 hS => ?_)
  have hP := hz_keep hP hk1
  clear hk1 hB hz1
  generalize H1 = H at hP hS ⊢
  subst hw
  refine lv_if_ne (tgt := 11) hx hb dX11_giveUp_6 (by decide) (fun z => absurd (by decide) z) (fun _ => ?_)
  refine lv_iconst (v := -1) hx hb dX11_giveUp_9 (by decide) ?_
  exact W.iret (v := -1) hx hb hr (fun t ht hW => ⟨⟨-1, (), rfl, rfl, trivial⟩, hS.F ht⟩) hS.2.2 dX11_giveUp_10
theorem dX11_undo_0 : decode cX11_undo 0 = .ok (.aload_n 0, 1) := by decide +kernel
theorem dX11_undo_1 : decode cX11_undo 1 = .ok (.getfield 222, 3) := by decide +kernel
theorem dX11_undo_4 : decode cX11_undo 4 = .ok (.ifCond .gt 5, 3) := by decide +kernel
theorem dX11_undo_7 : decode cX11_undo 7 = .ok (.iconst (-1), 1) := by decide +kernel
theorem dX11_undo_8 : decode cX11_undo 8 = .ok (.ireturn, 1) := by decide +kernel
set_option maxHeartbeats 4000000 in
set_option maxRecDepth 100000 in
theorem c_X11_undo (l : Launch) (D : va_G) (cs : Nat → ClassId) (kK kV : Nat → Nat) (g : Nat → Nat) (rr : Nat → Nat) : Met l yX11_undo (hz_w yX11_undo cX11_undo 1 (some .int)) ({ frames := 0, cells := 0, slots := 0, locals := 0 }) (va_Pc [.ref (g 0)] (hz_P D cs kK kV [(g 0, .inr (11, [.ref (g 1), .ref (g 2), .ref (g 3), .ref (g 4), .int 0, .ref (g 5), .ref (g 6), .ref (g 7), .ref (g 8), .int 0, .int 0, .ref (g 9), .ref (g 10), .ref (g 11), .ref (g 12), .ref (g 13), .int 0]))])) (va_Qi (fun (r : Int32) (_ : Unit) => r = -1) (fun _ t => True) (fun _ => False)) 0 0 (fun _ => False) := by
  refine Met.ofW (cc := cX11_undo) (maxL := 1) (ret := (some .int)) (by decide) rfl ?_
  intro p e s m args below meth c s₁ B hml hv
  obtain ⟨rfl, hP, hE⟩ := hv
  have hx := B.exec
  have hb := B.bytes
  have hr := B.returns
  have hT : ∀ w ∈ TB, w.before _ s = true := fun w h => atoms_spec (ws := hz_w yX11_undo cX11_undo 1 (some .int)) B.pre w (List.mem_cons_of_mem _ h)
  have hown : s.vm.findClass RX11 = some m.cls := findClass_of_methodNamed B.named
  have hlocks := B.notSynchronized
  clear B
  have hS : va_S (fun _ => False) s.heap s.heap [] := va_S.rf
  have hP : va_P D classes [(g 0, .inr (11, [.ref (g 1), .ref (g 2), .ref (g 3), .ref (g 4), .int 0, .ref (g 5), .ref (g 6), .ref (g 7), .ref (g 8), .int 0, .int 0, .ref (g 9), .ref (g 10), .ref (g 11), .ref (g 12), .ref (g 13), .int 0]))] s.heap := hP
  have hK := hE.1
  have hl := lv_entry ([.ref (g 0)]) (n := 1) (Nat.le_of_ble_eq_true rfl)
  rw [lg_entry_eq]
  generalize (lg_sl ([.ref (g 0)]) ++ List.replicate (1 - (lg_sl ([.ref (g 0)])).length) Slot.unset).toArray = ls at hl ⊢
  have hl : lv_has ls 1 [(0, .ref (g 0))] := hl
  obtain ⟨H, eH⟩ : ∃ z, z = s.heap := ⟨_, rfl⟩
  have hP : va_P D classes [(g 0, .inr (11, [.ref (g 1), .ref (g 2), .ref (g 3), .ref (g 4), .int 0, .ref (g 5), .ref (g 6), .ref (g 7), .ref (g 8), .int 0, .int 0, .ref (g 9), .ref (g 10), .ref (g 11), .ref (g 12), .ref (g 13), .int 0]))] H := by rw [eH]; exact hP
  have hS : va_S (fun _ => False) s.heap H [] := by rw [eH]; exact hS
  rw [← eH]
  clear eH
  refine lv_aload_n hx hb dX11_undo_0 rfl (lv_at hl 0 rfl) ?_
  refine va_get (D := D) (ci := 11) (v := .int 0) (C := RX11) (T := TX11) (N := 17) hx hb hT i_X11 hown hK hP 0 rfl rfl 10 (by decide) (hT _ q_188) (fun _ h9 => h9) rfl dX11_undo_1 ?_
  refine lv_if_gt (tgt := 9) hx hb dX11_undo_4 (by decide) (fun z => absurd z (by decide)) (fun _ => ?_)
  refine lv_iconst (v := -1) hx hb dX11_undo_7 (by decide) ?_
  exact W.iret (v := -1) hx hb hr (fun t ht hW => ⟨⟨-1, (), rfl, rfl, trivial⟩, hS.F ht⟩) hS.2.2 dX11_undo_8
theorem dX11_run_0 : decode cX11_run 0 = .ok (.aload_n 0, 1) := by decide +kernel
theorem dX11_run_1 : decode cX11_run 1 = .ok (.invokevirtual 232, 3) := by decide +kernel
theorem dX11_run_4 : decode cX11_run 4 = .ok (.ifCond .eq 36, 3) := by decide +kernel
theorem dX11_run_40 : decode cX11_run 40 = .ok (.iconst (-1), 1) := by decide +kernel
theorem dX11_run_41 : decode cX11_run 41 = .ok (.ireturn, 1) := by decide +kernel
set_option maxHeartbeats 4000000 in
set_option maxRecDepth 100000 in
theorem c_X11_run (l : Launch) (D : va_G) (cs : Nat → ClassId) (kK kV : Nat → Nat) (g : Nat → Nat) (rr : Nat → Nat) (p0 : Int32) (p1 : Int32) : Met l yX11_run (hz_w yX11_run cX11_run 4 (some .int)) ({ frames := 1, cells := 0, slots := 0, locals := 20 }) (va_Pc [.ref (g 0), .int p0, .int p1] (hz_P D cs kK kV [(g 0, .inr (11, [.ref (g 1), .ref (g 2), .ref (g 3), .ref (g 4), .int 0, .ref (g 5), .ref (g 6), .ref (g 7), .ref (g 8), .int 0, .int 0, .ref (g 9), .ref (g 10), .ref (g 11), .ref (g 12), .ref (g 13), .int 0])), (g 5, .inr (8, [.int 0, .int 0, .int 0, .int 0, .int 0, .int 12, .int 5, .int 1, .int 0, .ref (rr 0), .ref (rr 1), .ref (rr 2), .ref (rr 3), .ref (rr 4), .ref (rr 5), .ref (rr 6), .ref (rr 7), .ref (rr 8)]))])) (va_Qi (fun (r : Int32) (_ : Unit) => r = -1) (fun _ t => True) (fun _ => False)) 0 0 (fun _ => False) := by
  refine Met.ofW (cc := cX11_run) (maxL := 4) (ret := (some .int)) (by decide) rfl ?_
  intro p e s m args below meth c s₁ B hml hv
  obtain ⟨rfl, hP, hE⟩ := hv
  have hx := B.exec
  have hb := B.bytes
  have hr := B.returns
  have hT : ∀ w ∈ TB, w.before _ s = true := fun w h => atoms_spec (ws := hz_w yX11_run cX11_run 4 (some .int)) B.pre w (List.mem_cons_of_mem _ h)
  have hown : s.vm.findClass RX11 = some m.cls := findClass_of_methodNamed B.named
  have hlocks := B.notSynchronized
  clear B
  have hS : va_S (fun _ => False) s.heap s.heap [] := va_S.rf
  have hP : va_P D classes [(g 0, .inr (11, [.ref (g 1), .ref (g 2), .ref (g 3), .ref (g 4), .int 0, .ref (g 5), .ref (g 6), .ref (g 7), .ref (g 8), .int 0, .int 0, .ref (g 9), .ref (g 10), .ref (g 11), .ref (g 12), .ref (g 13), .int 0])), (g 5, .inr (8, [.int 0, .int 0, .int 0, .int 0, .int 0, .int 12, .int 5, .int 1, .int 0, .ref (rr 0), .ref (rr 1), .ref (rr 2), .ref (rr 3), .ref (rr 4), .ref (rr 5), .ref (rr 6), .ref (rr 7), .ref (rr 8)]))] s.heap := hP
  have hK := hE.1
  have hl := lv_entry ([.ref (g 0), .int p0, .int p1]) (n := 4) (Nat.le_of_ble_eq_true rfl)
  rw [lg_entry_eq]
  generalize (lg_sl ([.ref (g 0), .int p0, .int p1]) ++ List.replicate (4 - (lg_sl ([.ref (g 0), .int p0, .int p1])).length) Slot.unset).toArray = ls at hl ⊢
  have hl : lv_has ls 4 [(0, .ref (g 0)), (1, .int p0), (2, .int p1)] := hl
  obtain ⟨H, eH⟩ : ∃ z, z = s.heap := ⟨_, rfl⟩
  have hP : va_P D classes [(g 0, .inr (11, [.ref (g 1), .ref (g 2), .ref (g 3), .ref (g 4), .int 0, .ref (g 5), .ref (g 6), .ref (g 7), .ref (g 8), .int 0, .int 0, .ref (g 9), .ref (g 10), .ref (g 11), .ref (g 12), .ref (g 13), .int 0])), (g 5, .inr (8, [.int 0, .int 0, .int 0, .int 0, .int 0, .int 12, .int 5, .int 1, .int 0, .ref (rr 0), .ref (rr 1), .ref (rr 2), .ref (rr 3), .ref (rr 4), .ref (rr 5), .ref (rr 6), .ref (rr 7), .ref (rr 8)]))] H := by rw [eH]; exact hP
  have hS : va_S (fun _ => False) s.heap H [] := by rw [eH]; exact hS
  rw [← eH]
  clear eH
  refine lv_aload_n hx hb dX11_run_0 rfl (lv_at hl 0 rfl) ?_
  refine va_calli (va_runV (As := []) (rest := []) ⟨hx, hb, hml, hown, hT⟩ (c_X11_isFair l D cs kK kV g rr) (cwV 0 hT (hz_gV q_171 q_172 q_173 q_174 q_175) rfl rfl rfl (by decide +kernel) ⟨(Nat.le_of_ble_eq_true rfl), (Nat.le_of_ble_eq_true rfl)⟩) ⟨hz_P.blind, va_recv hK hP (ci := 11) (q0 := 0) rfl rfl, hz_P.mk (hP.sub (ws' := [(g 0, .inr (11, [.ref (g 1), .ref (g 2), .ref (g 3), .ref (g 4), .int 0, .ref (g 5), .ref (g 6), .ref (g 7), .ref (g 8), .int 0, .int 0, .ref (g 9), .ref (g 10), .ref (g 11), .ref (g 12), .ref (g 13), .int 0])), (g 5, .inr (8, [.int 0, .int 0, .int 0, .int 0, .int 0, .int 12, .int 5, .int 1, .int 0, .ref (rr 0), .ref (rr 1), .ref (rr 2), .ref (rr 3), .ref (rr 4), .ref (rr 5), .ref (rr 6), .ref (rr 7), .ref (rr 8)]))]) [0,1] rfl) hE hS⟩ rfl rfl hl.1 rfl (lv_room (Nat.le_of_ble_eq_true rfl)) dX11_run_1 ⟨(Nat.le_of_ble_eq_true rfl), (Nat.le_of_ble_eq_true rfl)⟩) hS (fun _ _ h => h.elim) (fun _ h => h.elim) (fun r_1 u t H1 locs ht hvm hw hB hz1 hk1 hS => ?_)
  have hP := hz_keep hP hk1
  clear hk1 hB hz1
  generalize H1 = H at hP hS ⊢
  subst hw
  refine lv_if_eq (tgt := 40) hx hb dX11_run_4 (by decide) (fun _ => ?_) (fun z => absurd (by decide) z)
  refine lv_iconst (v := -1) hx hb dX11_run_40 (by decide) ?_
  exact W.iret (v := -1) hx hb hr (fun t ht hW => ⟨⟨-1, (), rfl, rfl, trivial⟩, hS.F ht⟩) hS.2.2 dX11_run_41
theorem dX11_worth_0 : decode cX11_worth 0 = .ok (.aload_n 0, 1) := by decide +kernel
theorem dX11_worth_1 : decode cX11_worth 1 = .ok (.iload_n 1, 1) := by decide +kernel
theorem dX11_worth_2 : decode cX11_worth 2 = .ok (.invokevirtual 246, 3) := by decide +kernel
theorem dX11_worth_5 : decode cX11_worth 5 = .ok (.ifCond .eq 14, 3) := by decide +kernel
theorem dX11_worth_19 : decode cX11_worth 19 = .ok (.iconst (-1), 1) := by decide +kernel
theorem dX11_worth_20 : decode cX11_worth 20 = .ok (.ireturn, 1) := by decide +kernel
set_option maxHeartbeats 4000000 in
set_option maxRecDepth 100000 in
theorem c_X11_worth (l : Launch) (D : va_G) (cs : Nat → ClassId) (kK kV : Nat → Nat) (g : Nat → Nat) (rr : Nat → Nat) (p0 : Int32) : Met l yX11_worth (hz_w yX11_worth cX11_worth 2 (some .int)) ({ frames := 2, cells := 0, slots := 0, locals := 41 }) (va_Pc [.ref (g 0), .int p0] (hz_P D cs kK kV [(g 0, .inr (11, [.ref (g 1), .ref (g 2), .ref (g 3), .ref (g 4), .int 0, .ref (g 5), .ref (g 6), .ref (g 7), .ref (g 8), .int 0, .int 0, .ref (g 9), .ref (g 10), .ref (g 11), .ref (g 12), .ref (g 13), .int 0])), (g 5, .inr (8, [.int 0, .int 0, .int 0, .int 0, .int 0, .int 12, .int 5, .int 1, .int 0, .ref (rr 0), .ref (rr 1), .ref (rr 2), .ref (rr 3), .ref (rr 4), .ref (rr 5), .ref (rr 6), .ref (rr 7), .ref (rr 8)]))])) (va_Qi (fun (r : Int32) (_ : Unit) => r = -1) (fun _ t => True) (fun _ => False)) 0 0 (fun _ => False) := by
  refine Met.ofW (cc := cX11_worth) (maxL := 2) (ret := (some .int)) (by decide) rfl ?_
  intro p e s m args below meth c s₁ B hml hv
  obtain ⟨rfl, hP, hE⟩ := hv
  have hx := B.exec
  have hb := B.bytes
  have hr := B.returns
  have hT : ∀ w ∈ TB, w.before _ s = true := fun w h => atoms_spec (ws := hz_w yX11_worth cX11_worth 2 (some .int)) B.pre w (List.mem_cons_of_mem _ h)
  have hown : s.vm.findClass RX11 = some m.cls := findClass_of_methodNamed B.named
  have hlocks := B.notSynchronized
  clear B
  have hS : va_S (fun _ => False) s.heap s.heap [] := va_S.rf
  have hP : va_P D classes [(g 0, .inr (11, [.ref (g 1), .ref (g 2), .ref (g 3), .ref (g 4), .int 0, .ref (g 5), .ref (g 6), .ref (g 7), .ref (g 8), .int 0, .int 0, .ref (g 9), .ref (g 10), .ref (g 11), .ref (g 12), .ref (g 13), .int 0])), (g 5, .inr (8, [.int 0, .int 0, .int 0, .int 0, .int 0, .int 12, .int 5, .int 1, .int 0, .ref (rr 0), .ref (rr 1), .ref (rr 2), .ref (rr 3), .ref (rr 4), .ref (rr 5), .ref (rr 6), .ref (rr 7), .ref (rr 8)]))] s.heap := hP
  have hK := hE.1
  have hl := lv_entry ([.ref (g 0), .int p0]) (n := 2) (Nat.le_of_ble_eq_true rfl)
  rw [lg_entry_eq]
  generalize (lg_sl ([.ref (g 0), .int p0]) ++ List.replicate (2 - (lg_sl ([.ref (g 0), .int p0])).length) Slot.unset).toArray = ls at hl ⊢
  have hl : lv_has ls 2 [(0, .ref (g 0)), (1, .int p0)] := hl
  obtain ⟨H, eH⟩ : ∃ z, z = s.heap := ⟨_, rfl⟩
  have hP : va_P D classes [(g 0, .inr (11, [.ref (g 1), .ref (g 2), .ref (g 3), .ref (g 4), .int 0, .ref (g 5), .ref (g 6), .ref (g 7), .ref (g 8), .int 0, .int 0, .ref (g 9), .ref (g 10), .ref (g 11), .ref (g 12), .ref (g 13), .int 0])), (g 5, .inr (8, [.int 0, .int 0, .int 0, .int 0, .int 0, .int 12, .int 5, .int 1, .int 0, .ref (rr 0), .ref (rr 1), .ref (rr 2), .ref (rr 3), .ref (rr 4), .ref (rr 5), .ref (rr 6), .ref (rr 7), .ref (rr 8)]))] H := by rw [eH]; exact hP
  have hS : va_S (fun _ => False) s.heap H [] := by rw [eH]; exact hS
  rw [← eH]
  clear eH
  refine lv_aload_n hx hb dX11_worth_0 rfl (lv_at hl 0 rfl) ?_
  refine lv_iload_n hx hb dX11_worth_1 rfl (lv_at hl 1 rfl) ?_
  refine va_calli (va_runV (As := [.int p0]) (rest := []) ⟨hx, hb, hml, hown, hT⟩ (c_X11_isSet l D cs kK kV g rr p0) (cwV 1 hT (hz_gV q_189 q_190 q_191 q_174 q_192) rfl rfl rfl (by decide +kernel) ⟨(Nat.le_of_ble_eq_true rfl), (Nat.le_of_ble_eq_true rfl)⟩) ⟨hz_P.blind, va_recv hK hP (ci := 11) (q0 := 0) rfl rfl, hz_P.mk (hP.sub (ws' := [(g 0, .inr (11, [.ref (g 1), .ref (g 2), .ref (g 3), .ref (g 4), .int 0, .ref (g 5), .ref (g 6), .ref (g 7), .ref (g 8), .int 0, .int 0, .ref (g 9), .ref (g 10), .ref (g 11), .ref (g 12), .ref (g 13), .int 0])), (g 5, .inr (8, [.int 0, .int 0, .int 0, .int 0, .int 0, .int 12, .int 5, .int 1, .int 0, .ref (rr 0), .ref (rr 1), .ref (rr 2), .ref (rr 3), .ref (rr 4), .ref (rr 5), .ref (rr 6), .ref (rr 7), .ref (rr 8)]))]) [0,1] rfl) hE hS⟩ rfl rfl hl.1 rfl (lv_room (Nat.le_of_ble_eq_true rfl)) dX11_worth_2 ⟨(Nat.le_of_ble_eq_true rfl), (Nat.le_of_ble_eq_true rfl)⟩) hS (fun _ _ h => h.elim) (fun _ h => h.elim) (fun r_1 u t H1 locs ht hvm hw hB hz1 hk1 hS => ?_)
  have hP := hz_keep hP hk1
  clear hk1 hB hz1
  generalize H1 = H at hP hS ⊢
  subst hw
  refine lv_if_eq (tgt := 19) hx hb dX11_worth_5 (by decide) (fun _ => ?_) (fun z => absurd (by decide) z)
  refine lv_iconst (v := -1) hx hb dX11_worth_19 (by decide) ?_
  exact W.iret (v := -1) hx hb hr (fun t ht hW => ⟨⟨-1, (), rfl, rfl, trivial⟩, hS.F ht⟩) hS.2.2 dX11_worth_20
theorem dX11_with_0 : decode cX11_with 0 = .ok (.aload_n 0, 1) := by decide +kernel
theorem dX11_with_1 : decode cX11_with 1 = .ok (.iload_n 1, 1) := by decide +kernel
theorem dX11_with_2 : decode cX11_with 2 = .ok (.invokevirtual 246, 3) := by decide +kernel
theorem dX11_with_5 : decode cX11_with 5 = .ok (.ifCond .eq 22, 3) := by decide +kernel
theorem dX11_with_27 : decode cX11_with 27 = .ok (.bipush (-2), 2) := by decide +kernel
theorem dX11_with_29 : decode cX11_with 29 = .ok (.ireturn, 1) := by decide +kernel
set_option maxHeartbeats 4000000 in
set_option maxRecDepth 100000 in
theorem c_X11_with (l : Launch) (D : va_G) (cs : Nat → ClassId) (kK kV : Nat → Nat) (g : Nat → Nat) (rr : Nat → Nat) (p0 : Int32) (p1 : Int32) : Met l yX11_with (hz_w yX11_with cX11_with 3 (some .int)) ({ frames := 2, cells := 0, slots := 0, locals := 41 }) (va_Pc [.ref (g 0), .int p0, .int p1] (hz_P D cs kK kV [(g 0, .inr (11, [.ref (g 1), .ref (g 2), .ref (g 3), .ref (g 4), .int 0, .ref (g 5), .ref (g 6), .ref (g 7), .ref (g 8), .int 0, .int 0, .ref (g 9), .ref (g 10), .ref (g 11), .ref (g 12), .ref (g 13), .int 0])), (g 5, .inr (8, [.int 0, .int 0, .int 0, .int 0, .int 0, .int 12, .int 5, .int 1, .int 0, .ref (rr 0), .ref (rr 1), .ref (rr 2), .ref (rr 3), .ref (rr 4), .ref (rr 5), .ref (rr 6), .ref (rr 7), .ref (rr 8)]))])) (va_Qi (fun (r : Int32) (_ : Unit) => r = -2) (fun _ t => True) (fun _ => False)) 0 0 (fun _ => False) := by
  refine Met.ofW (cc := cX11_with) (maxL := 3) (ret := (some .int)) (by decide) rfl ?_
  intro p e s m args below meth c s₁ B hml hv
  obtain ⟨rfl, hP, hE⟩ := hv
  have hx := B.exec
  have hb := B.bytes
  have hr := B.returns
  have hT : ∀ w ∈ TB, w.before _ s = true := fun w h => atoms_spec (ws := hz_w yX11_with cX11_with 3 (some .int)) B.pre w (List.mem_cons_of_mem _ h)
  have hown : s.vm.findClass RX11 = some m.cls := findClass_of_methodNamed B.named
  have hlocks := B.notSynchronized
  clear B
  have hS : va_S (fun _ => False) s.heap s.heap [] := va_S.rf
  have hP : va_P D classes [(g 0, .inr (11, [.ref (g 1), .ref (g 2), .ref (g 3), .ref (g 4), .int 0, .ref (g 5), .ref (g 6), .ref (g 7), .ref (g 8), .int 0, .int 0, .ref (g 9), .ref (g 10), .ref (g 11), .ref (g 12), .ref (g 13), .int 0])), (g 5, .inr (8, [.int 0, .int 0, .int 0, .int 0, .int 0, .int 12, .int 5, .int 1, .int 0, .ref (rr 0), .ref (rr 1), .ref (rr 2), .ref (rr 3), .ref (rr 4), .ref (rr 5), .ref (rr 6), .ref (rr 7), .ref (rr 8)]))] s.heap := hP
  have hK := hE.1
  have hl := lv_entry ([.ref (g 0), .int p0, .int p1]) (n := 3) (Nat.le_of_ble_eq_true rfl)
  rw [lg_entry_eq]
  generalize (lg_sl ([.ref (g 0), .int p0, .int p1]) ++ List.replicate (3 - (lg_sl ([.ref (g 0), .int p0, .int p1])).length) Slot.unset).toArray = ls at hl ⊢
  have hl : lv_has ls 3 [(0, .ref (g 0)), (1, .int p0), (2, .int p1)] := hl
  obtain ⟨H, eH⟩ : ∃ z, z = s.heap := ⟨_, rfl⟩
  have hP : va_P D classes [(g 0, .inr (11, [.ref (g 1), .ref (g 2), .ref (g 3), .ref (g 4), .int 0, .ref (g 5), .ref (g 6), .ref (g 7), .ref (g 8), .int 0, .int 0, .ref (g 9), .ref (g 10), .ref (g 11), .ref (g 12), .ref (g 13), .int 0])), (g 5, .inr (8, [.int 0, .int 0, .int 0, .int 0, .int 0, .int 12, .int 5, .int 1, .int 0, .ref (rr 0), .ref (rr 1), .ref (rr 2), .ref (rr 3), .ref (rr 4), .ref (rr 5), .ref (rr 6), .ref (rr 7), .ref (rr 8)]))] H := by rw [eH]; exact hP
  have hS : va_S (fun _ => False) s.heap H [] := by rw [eH]; exact hS
  rw [← eH]
  clear eH
  refine lv_aload_n hx hb dX11_with_0 rfl (lv_at hl 0 rfl) ?_
  refine lv_iload_n hx hb dX11_with_1 rfl (lv_at hl 1 rfl) ?_
  refine va_calli (va_runV (As := [.int p0]) (rest := []) ⟨hx, hb, hml, hown, hT⟩ (c_X11_isSet l D cs kK kV g rr p0) (cwV 1 hT (hz_gV q_189 q_190 q_191 q_174 q_192) rfl rfl rfl (by decide +kernel) ⟨(Nat.le_of_ble_eq_true rfl), (Nat.le_of_ble_eq_true rfl)⟩) ⟨hz_P.blind, va_recv hK hP (ci := 11) (q0 := 0) rfl rfl, hz_P.mk (hP.sub (ws' := [(g 0, .inr (11, [.ref (g 1), .ref (g 2), .ref (g 3), .ref (g 4), .int 0, .ref (g 5), .ref (g 6), .ref (g 7), .ref (g 8), .int 0, .int 0, .ref (g 9), .ref (g 10), .ref (g 11), .ref (g 12), .ref (g 13), .int 0])), (g 5, .inr (8, [.int 0, .int 0, .int 0, .int 0, .int 0, .int 12, .int 5, .int 1, .int 0, .ref (rr 0), .ref (rr 1), .ref (rr 2), .ref (rr 3), .ref (rr 4), .ref (rr 5), .ref (rr 6), .ref (rr 7), .ref (rr 8)]))]) [0,1] rfl) hE hS⟩ rfl rfl hl.1 rfl (lv_room (Nat.le_of_ble_eq_true rfl)) dX11_with_2 ⟨(Nat.le_of_ble_eq_true rfl), (Nat.le_of_ble_eq_true rfl)⟩) hS (fun _ _ h => h.elim) (fun _ h => h.elim) (fun r_1 u t H1 locs ht hvm hw hB hz1 hk1 hS => ?_)
  have hP := hz_keep hP hk1
  clear hk1 hB hz1
  generalize H1 = H at hP hS ⊢
  subst hw
  refine lv_if_eq (tgt := 27) hx hb dX11_with_5 (by decide) (fun _ => ?_) (fun z => absurd (by decide) z)
  refine lv_bipush (v := -2) hx hb dX11_with_27 (by decide) ?_
  exact W.iret (v := -2) hx hb hr (fun t ht hW => ⟨⟨-2, (), rfl, rfl, trivial⟩, hS.F ht⟩) hS.2.2 dX11_with_29
theorem dX11_walk_0 : decode cX11_walk 0 = .ok (.aload_n 0, 1) := by decide +kernel
theorem dX11_walk_1 : decode cX11_walk 1 = .ok (.getfield 39, 3) := by decide +kernel
theorem dX11_walk_4 : decode cX11_walk 4 = .ok (.iload_n 1, 1) := by decide +kernel
theorem dX11_walk_5 : decode cX11_walk 5 = .ok (.invokevirtual 157, 3) := by decide +kernel
theorem dX11_walk_8 : decode cX11_walk 8 = .ok (.ifCond .eq 12, 3) := by decide +kernel
theorem dX11_walk_20 : decode cX11_walk 20 = .ok (.bipush (-3), 2) := by decide +kernel
theorem dX11_walk_22 : decode cX11_walk 22 = .ok (.ireturn, 1) := by decide +kernel
set_option maxHeartbeats 4000000 in
set_option maxRecDepth 100000 in
theorem c_X11_walk (l : Launch) (D : va_G) (cs : Nat → ClassId) (kK kV : Nat → Nat) (g : Nat → Nat) (rr : Nat → Nat) (p0 : Int32) (p1 : Int32) : Met l yX11_walk (hz_w yX11_walk cX11_walk 4 (some .int)) ({ frames := 1, cells := 0, slots := 0, locals := 21 }) (va_Pc [.ref (g 0), .int p0, .int p1] (hz_P D cs kK kV [(g 0, .inr (11, [.ref (g 1), .ref (g 2), .ref (g 3), .ref (g 4), .int 0, .ref (g 5), .ref (g 6), .ref (g 7), .ref (g 8), .int 0, .int 0, .ref (g 9), .ref (g 10), .ref (g 11), .ref (g 12), .ref (g 13), .int 0])), (g 5, .inr (8, [.int 0, .int 0, .int 0, .int 0, .int 0, .int 12, .int 5, .int 1, .int 0, .ref (rr 0), .ref (rr 1), .ref (rr 2), .ref (rr 3), .ref (rr 4), .ref (rr 5), .ref (rr 6), .ref (rr 7), .ref (rr 8)]))])) (va_Qi (fun (r : Int32) (_ : Unit) => r = -3) (fun _ t => True) (fun _ => False)) 0 0 (fun _ => False) := by
  refine Met.ofW (cc := cX11_walk) (maxL := 4) (ret := (some .int)) (by decide) rfl ?_
  intro p e s m args below meth c s₁ B hml hv
  obtain ⟨rfl, hP, hE⟩ := hv
  have hx := B.exec
  have hb := B.bytes
  have hr := B.returns
  have hT : ∀ w ∈ TB, w.before _ s = true := fun w h => atoms_spec (ws := hz_w yX11_walk cX11_walk 4 (some .int)) B.pre w (List.mem_cons_of_mem _ h)
  have hown : s.vm.findClass RX11 = some m.cls := findClass_of_methodNamed B.named
  have hlocks := B.notSynchronized
  clear B
  have hS : va_S (fun _ => False) s.heap s.heap [] := va_S.rf
  have hP : va_P D classes [(g 0, .inr (11, [.ref (g 1), .ref (g 2), .ref (g 3), .ref (g 4), .int 0, .ref (g 5), .ref (g 6), .ref (g 7), .ref (g 8), .int 0, .int 0, .ref (g 9), .ref (g 10), .ref (g 11), .ref (g 12), .ref (g 13), .int 0])), (g 5, .inr (8, [.int 0, .int 0, .int 0, .int 0, .int 0, .int 12, .int 5, .int 1, .int 0, .ref (rr 0), .ref (rr 1), .ref (rr 2), .ref (rr 3), .ref (rr 4), .ref (rr 5), .ref (rr 6), .ref (rr 7), .ref (rr 8)]))] s.heap := hP
  have hK := hE.1
  have hl := lv_entry ([.ref (g 0), .int p0, .int p1]) (n := 4) (Nat.le_of_ble_eq_true rfl)
  rw [lg_entry_eq]
  generalize (lg_sl ([.ref (g 0), .int p0, .int p1]) ++ List.replicate (4 - (lg_sl ([.ref (g 0), .int p0, .int p1])).length) Slot.unset).toArray = ls at hl ⊢
  have hl : lv_has ls 4 [(0, .ref (g 0)), (1, .int p0), (2, .int p1)] := hl
  obtain ⟨H, eH⟩ : ∃ z, z = s.heap := ⟨_, rfl⟩
  have hP : va_P D classes [(g 0, .inr (11, [.ref (g 1), .ref (g 2), .ref (g 3), .ref (g 4), .int 0, .ref (g 5), .ref (g 6), .ref (g 7), .ref (g 8), .int 0, .int 0, .ref (g 9), .ref (g 10), .ref (g 11), .ref (g 12), .ref (g 13), .int 0])), (g 5, .inr (8, [.int 0, .int 0, .int 0, .int 0, .int 0, .int 12, .int 5, .int 1, .int 0, .ref (rr 0), .ref (rr 1), .ref (rr 2), .ref (rr 3), .ref (rr 4), .ref (rr 5), .ref (rr 6), .ref (rr 7), .ref (rr 8)]))] H := by rw [eH]; exact hP
  have hS : va_S (fun _ => False) s.heap H [] := by rw [eH]; exact hS
  rw [← eH]
  clear eH
  refine lv_aload_n hx hb dX11_walk_0 rfl (lv_at hl 0 rfl) ?_
  refine va_get (D := D) (ci := 11) (v := .ref (g 5)) (C := RX11) (T := TX11) (N := 17) hx hb hT i_X11 hown hK hP 0 rfl rfl 5 (by decide) (hT _ q_168) (fun _ h9 => h9) rfl dX11_walk_1 ?_
  refine lv_iload_n hx hb dX11_walk_4 rfl (lv_at hl 1 rfl) ?_
  refine va_calli (va_runV (As := [.int p0]) (rest := []) ⟨hx, hb, hml, hown, hT⟩ (c_X8_isBuyer l D cs kK kV (g 5) rr p0) (cwV 1 hT (hz_gV q_176 q_177 q_178 q_121 q_179) rfl rfl rfl (by decide +kernel) ⟨(Nat.le_of_ble_eq_true rfl), (Nat.le_of_ble_eq_true rfl)⟩) ⟨hz_P.blind, va_recv hK hP (ci := 8) (q0 := 1) rfl rfl, hz_P.mk (hP.sub (ws' := [(g 5, .inr (8, [.int 0, .int 0, .int 0, .int 0, .int 0, .int 12, .int 5, .int 1, .int 0, .ref (rr 0), .ref (rr 1), .ref (rr 2), .ref (rr 3), .ref (rr 4), .ref (rr 5), .ref (rr 6), .ref (rr 7), .ref (rr 8)]))]) [1] rfl) hE hS⟩ rfl rfl hl.1 rfl (lv_room (Nat.le_of_ble_eq_true rfl)) dX11_walk_5 ⟨(Nat.le_of_ble_eq_true rfl), (Nat.le_of_ble_eq_true rfl)⟩) hS (fun _ _ h => h.elim) (fun _ h => h.elim) (fun r_1 u t H1 locs ht hvm hw hB hz1 hk1 hS => ?_)
  have hP := hz_keep hP hk1
  clear hk1 hB hz1
  generalize H1 = H at hP hS ⊢
  subst hw
  refine lv_if_eq (tgt := 20) hx hb dX11_walk_8 (by decide) (fun _ => ?_) (fun z => absurd (by decide) z)
  refine lv_bipush (v := -3) hx hb dX11_walk_20 (by decide) ?_
  exact W.iret (v := -3) hx hb hr (fun t ht hW => ⟨⟨-3, (), rfl, rfl, trivial⟩, hS.F ht⟩) hS.2.2 dX11_walk_22
theorem dX11_chance_0 : decode cX11_chance 0 = .ok (.aload_n 0, 1) := by decide +kernel
theorem dX11_chance_1 : decode cX11_chance 1 = .ok (.getfield 39, 3) := by decide +kernel
theorem dX11_chance_4 : decode cX11_chance 4 = .ok (.iload_n 1, 1) := by decide +kernel
theorem dX11_chance_5 : decode cX11_chance 5 = .ok (.invokevirtual 157, 3) := by decide +kernel
theorem dX11_chance_8 : decode cX11_chance 8 = .ok (.ifCond .eq 23, 3) := by decide +kernel
theorem dX11_chance_31 : decode cX11_chance 31 = .ok (.iconst (-1), 1) := by decide +kernel
theorem dX11_chance_32 : decode cX11_chance 32 = .ok (.ireturn, 1) := by decide +kernel
set_option maxHeartbeats 4000000 in
set_option maxRecDepth 100000 in
theorem c_X11_chance (l : Launch) (D : va_G) (cs : Nat → ClassId) (kK kV : Nat → Nat) (g : Nat → Nat) (rr : Nat → Nat) (p0 : Int32) (p1 : Int32) (p2 : Int32) : Met l yX11_chance (hz_w yX11_chance cX11_chance 8 (some .int)) ({ frames := 1, cells := 0, slots := 0, locals := 21 }) (va_Pc [.ref (g 0), .int p0, .int p1, .int p2] (hz_P D cs kK kV [(g 0, .inr (11, [.ref (g 1), .ref (g 2), .ref (g 3), .ref (g 4), .int 0, .ref (g 5), .ref (g 6), .ref (g 7), .ref (g 8), .int 0, .int 0, .ref (g 9), .ref (g 10), .ref (g 11), .ref (g 12), .ref (g 13), .int 0])), (g 5, .inr (8, [.int 0, .int 0, .int 0, .int 0, .int 0, .int 12, .int 5, .int 1, .int 0, .ref (rr 0), .ref (rr 1), .ref (rr 2), .ref (rr 3), .ref (rr 4), .ref (rr 5), .ref (rr 6), .ref (rr 7), .ref (rr 8)]))])) (va_Qi (fun (r : Int32) (_ : Unit) => r = -1) (fun _ t => True) (fun _ => False)) 0 0 (fun _ => False) := by
  refine Met.ofW (cc := cX11_chance) (maxL := 8) (ret := (some .int)) (by decide) rfl ?_
  intro p e s m args below meth c s₁ B hml hv
  obtain ⟨rfl, hP, hE⟩ := hv
  have hx := B.exec
  have hb := B.bytes
  have hr := B.returns
  have hT : ∀ w ∈ TB, w.before _ s = true := fun w h => atoms_spec (ws := hz_w yX11_chance cX11_chance 8 (some .int)) B.pre w (List.mem_cons_of_mem _ h)
  have hown : s.vm.findClass RX11 = some m.cls := findClass_of_methodNamed B.named
  have hlocks := B.notSynchronized
  clear B
  have hS : va_S (fun _ => False) s.heap s.heap [] := va_S.rf
  have hP : va_P D classes [(g 0, .inr (11, [.ref (g 1), .ref (g 2), .ref (g 3), .ref (g 4), .int 0, .ref (g 5), .ref (g 6), .ref (g 7), .ref (g 8), .int 0, .int 0, .ref (g 9), .ref (g 10), .ref (g 11), .ref (g 12), .ref (g 13), .int 0])), (g 5, .inr (8, [.int 0, .int 0, .int 0, .int 0, .int 0, .int 12, .int 5, .int 1, .int 0, .ref (rr 0), .ref (rr 1), .ref (rr 2), .ref (rr 3), .ref (rr 4), .ref (rr 5), .ref (rr 6), .ref (rr 7), .ref (rr 8)]))] s.heap := hP
  have hK := hE.1
  have hl := lv_entry ([.ref (g 0), .int p0, .int p1, .int p2]) (n := 8) (Nat.le_of_ble_eq_true rfl)
  rw [lg_entry_eq]
  generalize (lg_sl ([.ref (g 0), .int p0, .int p1, .int p2]) ++ List.replicate (8 - (lg_sl ([.ref (g 0), .int p0, .int p1, .int p2])).length) Slot.unset).toArray = ls at hl ⊢
  have hl : lv_has ls 8 [(0, .ref (g 0)), (1, .int p0), (2, .int p1), (3, .int p2)] := hl
  obtain ⟨H, eH⟩ : ∃ z, z = s.heap := ⟨_, rfl⟩
  have hP : va_P D classes [(g 0, .inr (11, [.ref (g 1), .ref (g 2), .ref (g 3), .ref (g 4), .int 0, .ref (g 5), .ref (g 6), .ref (g 7), .ref (g 8), .int 0, .int 0, .ref (g 9), .ref (g 10), .ref (g 11), .ref (g 12), .ref (g 13), .int 0])), (g 5, .inr (8, [.int 0, .int 0, .int 0, .int 0, .int 0, .int 12, .int 5, .int 1, .int 0, .ref (rr 0), .ref (rr 1), .ref (rr 2), .ref (rr 3), .ref (rr 4), .ref (rr 5), .ref (rr 6), .ref (rr 7), .ref (rr 8)]))] H := by rw [eH]; exact hP
  have hS : va_S (fun _ => False) s.heap H [] := by rw [eH]; exact hS
  rw [← eH]
  clear eH
  refine lv_aload_n hx hb dX11_chance_0 rfl (lv_at hl 0 rfl) ?_
  refine va_get (D := D) (ci := 11) (v := .ref (g 5)) (C := RX11) (T := TX11) (N := 17) hx hb hT i_X11 hown hK hP 0 rfl rfl 5 (by decide) (hT _ q_168) (fun _ h9 => h9) rfl dX11_chance_1 ?_
  refine lv_iload_n hx hb dX11_chance_4 rfl (lv_at hl 1 rfl) ?_
  refine va_calli (va_runV (As := [.int p0]) (rest := []) ⟨hx, hb, hml, hown, hT⟩ (c_X8_isBuyer l D cs kK kV (g 5) rr p0) (cwV 1 hT (hz_gV q_176 q_177 q_178 q_121 q_179) rfl rfl rfl (by decide +kernel) ⟨(Nat.le_of_ble_eq_true rfl), (Nat.le_of_ble_eq_true rfl)⟩) ⟨hz_P.blind, va_recv hK hP (ci := 8) (q0 := 1) rfl rfl, hz_P.mk (hP.sub (ws' := [(g 5, .inr (8, [.int 0, .int 0, .int 0, .int 0, .int 0, .int 12, .int 5, .int 1, .int 0, .ref (rr 0), .ref (rr 1), .ref (rr 2), .ref (rr 3), .ref (rr 4), .ref (rr 5), .ref (rr 6), .ref (rr 7), .ref (rr 8)]))]) [1] rfl) hE hS⟩ rfl rfl hl.1 rfl (lv_room (Nat.le_of_ble_eq_true rfl)) dX11_chance_5 ⟨(Nat.le_of_ble_eq_true rfl), (Nat.le_of_ble_eq_true rfl)⟩) hS (fun _ _ h => h.elim) (fun _ h => h.elim) (fun r_1 u t H1 locs ht hvm hw hB hz1 hk1 hS => ?_)
  have hP := hz_keep hP hk1
  clear hk1 hB hz1
  generalize H1 = H at hP hS ⊢
  subst hw
  refine lv_if_eq (tgt := 31) hx hb dX11_chance_8 (by decide) (fun _ => ?_) (fun z => absurd (by decide) z)
  refine lv_iconst (v := -1) hx hb dX11_chance_31 (by decide) ?_
  exact W.iret (v := -1) hx hb hr (fun t ht hW => ⟨⟨-1, (), rfl, rfl, trivial⟩, hS.F ht⟩) hS.2.2 dX11_chance_32
theorem dX11_yields_0 : decode cX11_yields 0 = .ok (.aload_n 0, 1) := by decide +kernel
theorem dX11_yields_1 : decode cX11_yields 1 = .ok (.iload_n 1, 1) := by decide +kernel
theorem dX11_yields_2 : decode cX11_yields 2 = .ok (.iload_n 2, 1) := by decide +kernel
theorem dX11_yields_3 : decode cX11_yields 3 = .ok (.invokevirtual 218, 3) := by decide +kernel
theorem dX11_yields_6 : decode cX11_yields 6 = .ok (.ifCond .eq 29, 3) := by decide +kernel
theorem dX11_yields_35 : decode cX11_yields 35 = .ok (.iconst (-1), 1) := by decide +kernel
theorem dX11_yields_36 : decode cX11_yields 36 = .ok (.ireturn, 1) := by decide +kernel
set_option maxHeartbeats 4000000 in
set_option maxRecDepth 100000 in
theorem c_X11_yields (l : Launch) (D : va_G) (cs : Nat → ClassId) (kK kV : Nat → Nat) (g : Nat → Nat) (rr : Nat → Nat) (p0 : Int32) (p1 : Int32) (p2 : Int32) (p3 : Int32) (p4 : Int32) : Met l yX11_yields (hz_w yX11_yields cX11_yields 8 (some .int)) ({ frames := 2, cells := 0, slots := 0, locals := 43 }) (va_Pc [.ref (g 0), .int p0, .int p1, .int p2, .int p3, .int p4] (hz_P D cs kK kV [(g 0, .inr (11, [.ref (g 1), .ref (g 2), .ref (g 3), .ref (g 4), .int 0, .ref (g 5), .ref (g 6), .ref (g 7), .ref (g 8), .int 0, .int 0, .ref (g 9), .ref (g 10), .ref (g 11), .ref (g 12), .ref (g 13), .int 0])), (g 5, .inr (8, [.int 0, .int 0, .int 0, .int 0, .int 0, .int 12, .int 5, .int 1, .int 0, .ref (rr 0), .ref (rr 1), .ref (rr 2), .ref (rr 3), .ref (rr 4), .ref (rr 5), .ref (rr 6), .ref (rr 7), .ref (rr 8)]))])) (va_Qi (fun (r : Int32) (_ : Unit) => r = -1) (fun _ t => True) (fun _ => False)) 0 0 (fun _ => False) := by
  refine Met.ofW (cc := cX11_yields) (maxL := 8) (ret := (some .int)) (by decide) rfl ?_
  intro p e s m args below meth c s₁ B hml hv
  obtain ⟨rfl, hP, hE⟩ := hv
  have hx := B.exec
  have hb := B.bytes
  have hr := B.returns
  have hT : ∀ w ∈ TB, w.before _ s = true := fun w h => atoms_spec (ws := hz_w yX11_yields cX11_yields 8 (some .int)) B.pre w (List.mem_cons_of_mem _ h)
  have hown : s.vm.findClass RX11 = some m.cls := findClass_of_methodNamed B.named
  have hlocks := B.notSynchronized
  clear B
  have hS : va_S (fun _ => False) s.heap s.heap [] := va_S.rf
  have hP : va_P D classes [(g 0, .inr (11, [.ref (g 1), .ref (g 2), .ref (g 3), .ref (g 4), .int 0, .ref (g 5), .ref (g 6), .ref (g 7), .ref (g 8), .int 0, .int 0, .ref (g 9), .ref (g 10), .ref (g 11), .ref (g 12), .ref (g 13), .int 0])), (g 5, .inr (8, [.int 0, .int 0, .int 0, .int 0, .int 0, .int 12, .int 5, .int 1, .int 0, .ref (rr 0), .ref (rr 1), .ref (rr 2), .ref (rr 3), .ref (rr 4), .ref (rr 5), .ref (rr 6), .ref (rr 7), .ref (rr 8)]))] s.heap := hP
  have hK := hE.1
  have hl := lv_entry ([.ref (g 0), .int p0, .int p1, .int p2, .int p3, .int p4]) (n := 8) (Nat.le_of_ble_eq_true rfl)
  rw [lg_entry_eq]
  generalize (lg_sl ([.ref (g 0), .int p0, .int p1, .int p2, .int p3, .int p4]) ++ List.replicate (8 - (lg_sl ([.ref (g 0), .int p0, .int p1, .int p2, .int p3, .int p4])).length) Slot.unset).toArray = ls at hl ⊢
  have hl : lv_has ls 8 [(0, .ref (g 0)), (1, .int p0), (2, .int p1), (3, .int p2), (4, .int p3), (5, .int p4)] := hl
  obtain ⟨H, eH⟩ : ∃ z, z = s.heap := ⟨_, rfl⟩
  have hP : va_P D classes [(g 0, .inr (11, [.ref (g 1), .ref (g 2), .ref (g 3), .ref (g 4), .int 0, .ref (g 5), .ref (g 6), .ref (g 7), .ref (g 8), .int 0, .int 0, .ref (g 9), .ref (g 10), .ref (g 11), .ref (g 12), .ref (g 13), .int 0])), (g 5, .inr (8, [.int 0, .int 0, .int 0, .int 0, .int 0, .int 12, .int 5, .int 1, .int 0, .ref (rr 0), .ref (rr 1), .ref (rr 2), .ref (rr 3), .ref (rr 4), .ref (rr 5), .ref (rr 6), .ref (rr 7), .ref (rr 8)]))] H := by rw [eH]; exact hP
  have hS : va_S (fun _ => False) s.heap H [] := by rw [eH]; exact hS
  rw [← eH]
  clear eH
  refine lv_aload_n hx hb dX11_yields_0 rfl (lv_at hl 0 rfl) ?_
  refine lv_iload_n hx hb dX11_yields_1 rfl (lv_at hl 1 rfl) ?_
  refine lv_iload_n hx hb dX11_yields_2 rfl (lv_at hl 2 rfl) ?_
  refine va_calli (va_runV (As := [.int p0, .int p1]) (rest := []) ⟨hx, hb, hml, hown, hT⟩ (c_X11_isTheirs l D cs kK kV g rr p0 p1) (cwV 2 hT (hz_gV q_184 q_185 q_186 q_174 q_187) rfl rfl rfl (by decide +kernel) ⟨(Nat.le_of_ble_eq_true rfl), (Nat.le_of_ble_eq_true rfl)⟩) ⟨hz_P.blind, va_recv hK hP (ci := 11) (q0 := 0) rfl rfl, hz_P.mk (hP.sub (ws' := [(g 0, .inr (11, [.ref (g 1), .ref (g 2), .ref (g 3), .ref (g 4), .int 0, .ref (g 5), .ref (g 6), .ref (g 7), .ref (g 8), .int 0, .int 0, .ref (g 9), .ref (g 10), .ref (g 11), .ref (g 12), .ref (g 13), .int 0])), (g 5, .inr (8, [.int 0, .int 0, .int 0, .int 0, .int 0, .int 12, .int 5, .int 1, .int 0, .ref (rr 0), .ref (rr 1), .ref (rr 2), .ref (rr 3), .ref (rr 4), .ref (rr 5), .ref (rr 6), .ref (rr 7), .ref (rr 8)]))]) [0,1] rfl) hE hS⟩ rfl rfl hl.1 rfl (lv_room (Nat.le_of_ble_eq_true rfl)) dX11_yields_3 ⟨(Nat.le_of_ble_eq_true rfl), (Nat.le_of_ble_eq_true rfl)⟩) hS (fun _ _ h => h.elim) (fun _ h => h.elim) (fun r_1 u t H1 locs ht hvm hw hB hz1 hk1 hS => ?_)
  have hP := hz_keep hP hk1
  clear hk1 hB hz1
  generalize H1 = H at hP hS ⊢
  subst hw
  refine lv_if_eq (tgt := 35) hx hb dX11_yields_6 (by decide) (fun _ => ?_) (fun z => absurd (by decide) z)
  refine lv_iconst (v := -1) hx hb dX11_yields_35 (by decide) ?_
  exact W.iret (v := -1) hx hb hr (fun t ht hW => ⟨⟨-1, (), rfl, rfl, trivial⟩, hS.F ht⟩) hS.2.2 dX11_yields_36
theorem dX11_cry_0 : decode cX11_cry 0 = .ok (.aload_n 0, 1) := by decide +kernel
theorem dX11_cry_1 : decode cX11_cry 1 = .ok (.getfield 39, 3) := by decide +kernel
theorem dX11_cry_4 : decode cX11_cry 4 = .ok (.iload_n 1, 1) := by decide +kernel
theorem dX11_cry_5 : decode cX11_cry 5 = .ok (.invokevirtual 157, 3) := by decide +kernel
theorem dX11_cry_8 : decode cX11_cry 8 = .ok (.ifCond .eq 12, 3) := by decide +kernel
theorem dX11_cry_20 : decode cX11_cry 20 = .ok (.iconst (-1), 1) := by decide +kernel
theorem dX11_cry_21 : decode cX11_cry 21 = .ok (.ireturn, 1) := by decide +kernel
set_option maxHeartbeats 4000000 in
set_option maxRecDepth 100000 in
theorem c_X11_cry (l : Launch) (D : va_G) (cs : Nat → ClassId) (kK kV : Nat → Nat) (g : Nat → Nat) (rr : Nat → Nat) (p0 : Int32) (p1 : Int32) : Met l yX11_cry (hz_w yX11_cry cX11_cry 10 (some .int)) ({ frames := 1, cells := 0, slots := 0, locals := 21 }) (va_Pc [.ref (g 0), .int p0, .int p1] (hz_P D cs kK kV [(g 0, .inr (11, [.ref (g 1), .ref (g 2), .ref (g 3), .ref (g 4), .int 0, .ref (g 5), .ref (g 6), .ref (g 7), .ref (g 8), .int 0, .int 0, .ref (g 9), .ref (g 10), .ref (g 11), .ref (g 12), .ref (g 13), .int 0])), (g 5, .inr (8, [.int 0, .int 0, .int 0, .int 0, .int 0, .int 12, .int 5, .int 1, .int 0, .ref (rr 0), .ref (rr 1), .ref (rr 2), .ref (rr 3), .ref (rr 4), .ref (rr 5), .ref (rr 6), .ref (rr 7), .ref (rr 8)]))])) (va_Qi (fun (r : Int32) (_ : Unit) => r = -1) (fun _ t => True) (fun _ => False)) 0 0 (fun _ => False) := by
  refine Met.ofW (cc := cX11_cry) (maxL := 10) (ret := (some .int)) (by decide) rfl ?_
  intro p e s m args below meth c s₁ B hml hv
  obtain ⟨rfl, hP, hE⟩ := hv
  have hx := B.exec
  have hb := B.bytes
  have hr := B.returns
  have hT : ∀ w ∈ TB, w.before _ s = true := fun w h => atoms_spec (ws := hz_w yX11_cry cX11_cry 10 (some .int)) B.pre w (List.mem_cons_of_mem _ h)
  have hown : s.vm.findClass RX11 = some m.cls := findClass_of_methodNamed B.named
  have hlocks := B.notSynchronized
  clear B
  have hS : va_S (fun _ => False) s.heap s.heap [] := va_S.rf
  have hP : va_P D classes [(g 0, .inr (11, [.ref (g 1), .ref (g 2), .ref (g 3), .ref (g 4), .int 0, .ref (g 5), .ref (g 6), .ref (g 7), .ref (g 8), .int 0, .int 0, .ref (g 9), .ref (g 10), .ref (g 11), .ref (g 12), .ref (g 13), .int 0])), (g 5, .inr (8, [.int 0, .int 0, .int 0, .int 0, .int 0, .int 12, .int 5, .int 1, .int 0, .ref (rr 0), .ref (rr 1), .ref (rr 2), .ref (rr 3), .ref (rr 4), .ref (rr 5), .ref (rr 6), .ref (rr 7), .ref (rr 8)]))] s.heap := hP
  have hK := hE.1
  have hl := lv_entry ([.ref (g 0), .int p0, .int p1]) (n := 10) (Nat.le_of_ble_eq_true rfl)
  rw [lg_entry_eq]
  generalize (lg_sl ([.ref (g 0), .int p0, .int p1]) ++ List.replicate (10 - (lg_sl ([.ref (g 0), .int p0, .int p1])).length) Slot.unset).toArray = ls at hl ⊢
  have hl : lv_has ls 10 [(0, .ref (g 0)), (1, .int p0), (2, .int p1)] := hl
  obtain ⟨H, eH⟩ : ∃ z, z = s.heap := ⟨_, rfl⟩
  have hP : va_P D classes [(g 0, .inr (11, [.ref (g 1), .ref (g 2), .ref (g 3), .ref (g 4), .int 0, .ref (g 5), .ref (g 6), .ref (g 7), .ref (g 8), .int 0, .int 0, .ref (g 9), .ref (g 10), .ref (g 11), .ref (g 12), .ref (g 13), .int 0])), (g 5, .inr (8, [.int 0, .int 0, .int 0, .int 0, .int 0, .int 12, .int 5, .int 1, .int 0, .ref (rr 0), .ref (rr 1), .ref (rr 2), .ref (rr 3), .ref (rr 4), .ref (rr 5), .ref (rr 6), .ref (rr 7), .ref (rr 8)]))] H := by rw [eH]; exact hP
  have hS : va_S (fun _ => False) s.heap H [] := by rw [eH]; exact hS
  rw [← eH]
  clear eH
  refine lv_aload_n hx hb dX11_cry_0 rfl (lv_at hl 0 rfl) ?_
  refine va_get (D := D) (ci := 11) (v := .ref (g 5)) (C := RX11) (T := TX11) (N := 17) hx hb hT i_X11 hown hK hP 0 rfl rfl 5 (by decide) (hT _ q_168) (fun _ h9 => h9) rfl dX11_cry_1 ?_
  refine lv_iload_n hx hb dX11_cry_4 rfl (lv_at hl 1 rfl) ?_
  refine va_calli (va_runV (As := [.int p0]) (rest := []) ⟨hx, hb, hml, hown, hT⟩ (c_X8_isBuyer l D cs kK kV (g 5) rr p0) (cwV 1 hT (hz_gV q_176 q_177 q_178 q_121 q_179) rfl rfl rfl (by decide +kernel) ⟨(Nat.le_of_ble_eq_true rfl), (Nat.le_of_ble_eq_true rfl)⟩) ⟨hz_P.blind, va_recv hK hP (ci := 8) (q0 := 1) rfl rfl, hz_P.mk (hP.sub (ws' := [(g 5, .inr (8, [.int 0, .int 0, .int 0, .int 0, .int 0, .int 12, .int 5, .int 1, .int 0, .ref (rr 0), .ref (rr 1), .ref (rr 2), .ref (rr 3), .ref (rr 4), .ref (rr 5), .ref (rr 6), .ref (rr 7), .ref (rr 8)]))]) [1] rfl) hE hS⟩ rfl rfl hl.1 rfl (lv_room (Nat.le_of_ble_eq_true rfl)) dX11_cry_5 ⟨(Nat.le_of_ble_eq_true rfl), (Nat.le_of_ble_eq_true rfl)⟩) hS (fun _ _ h => h.elim) (fun _ h => h.elim) (fun r_1 u t H1 locs ht hvm hw hB hz1 hk1 hS => ?_)
  have hP := hz_keep hP hk1
  clear hk1 hB hz1
  generalize H1 = H at hP hS ⊢
  subst hw
  refine lv_if_eq (tgt := 20) hx hb dX11_cry_8 (by decide) (fun _ => ?_) (fun z => absurd (by decide) z)
  refine lv_iconst (v := -1) hx hb dX11_cry_20 (by decide) ?_
  exact W.iret (v := -1) hx hb hr (fun t ht hW => ⟨⟨-1, (), rfl, rfl, trivial⟩, hS.F ht⟩) hS.2.2 dX11_cry_21
theorem dX11_bring_0 : decode cX11_bring 0 = .ok (.aload_n 0, 1) := by decide +kernel
theorem dX11_bring_1 : decode cX11_bring 1 = .ok (.iload_n 1, 1) := by decide +kernel
theorem dX11_bring_2 : decode cX11_bring 2 = .ok (.invokevirtual 236, 3) := by decide +kernel
theorem dX11_bring_5 : decode cX11_bring 5 = .ok (.ifCond .eq 23, 3) := by decide +kernel
theorem dX11_bring_28 : decode cX11_bring 28 = .ok (.iconst (-1), 1) := by decide +kernel
theorem dX11_bring_29 : decode cX11_bring 29 = .ok (.ireturn, 1) := by decide +kernel
set_option maxHeartbeats 4000000 in
set_option maxRecDepth 100000 in
theorem c_X11_bring (l : Launch) (D : va_G) (cs : Nat → ClassId) (kK kV : Nat → Nat) (g : Nat → Nat) (rr : Nat → Nat) (p0 : Int32) (p1 : Int32) (p2 : Int32) : Met l yX11_bring (hz_w yX11_bring cX11_bring 9 (some .int)) ({ frames := 1, cells := 0, slots := 0, locals := 21 }) (va_Pc [.ref (g 0), .int p0, .int p1, .int p2] (hz_P D cs kK kV [(g 0, .inr (11, [.ref (g 1), .ref (g 2), .ref (g 3), .ref (g 4), .int 0, .ref (g 5), .ref (g 6), .ref (g 7), .ref (g 8), .int 0, .int 0, .ref (g 9), .ref (g 10), .ref (g 11), .ref (g 12), .ref (g 13), .int 0]))])) (va_Qi (fun (r : Int32) (_ : Unit) => r = -1) (fun _ t => True) (fun _ => False)) 0 0 (fun _ => False) := by
  refine Met.ofW (cc := cX11_bring) (maxL := 9) (ret := (some .int)) (by decide) rfl ?_
  intro p e s m args below meth c s₁ B hml hv
  obtain ⟨rfl, hP, hE⟩ := hv
  have hx := B.exec
  have hb := B.bytes
  have hr := B.returns
  have hT : ∀ w ∈ TB, w.before _ s = true := fun w h => atoms_spec (ws := hz_w yX11_bring cX11_bring 9 (some .int)) B.pre w (List.mem_cons_of_mem _ h)
  have hown : s.vm.findClass RX11 = some m.cls := findClass_of_methodNamed B.named
  have hlocks := B.notSynchronized
  clear B
  have hS : va_S (fun _ => False) s.heap s.heap [] := va_S.rf
  have hP : va_P D classes [(g 0, .inr (11, [.ref (g 1), .ref (g 2), .ref (g 3), .ref (g 4), .int 0, .ref (g 5), .ref (g 6), .ref (g 7), .ref (g 8), .int 0, .int 0, .ref (g 9), .ref (g 10), .ref (g 11), .ref (g 12), .ref (g 13), .int 0]))] s.heap := hP
  have hK := hE.1
  have hl := lv_entry ([.ref (g 0), .int p0, .int p1, .int p2]) (n := 9) (Nat.le_of_ble_eq_true rfl)
  rw [lg_entry_eq]
  generalize (lg_sl ([.ref (g 0), .int p0, .int p1, .int p2]) ++ List.replicate (9 - (lg_sl ([.ref (g 0), .int p0, .int p1, .int p2])).length) Slot.unset).toArray = ls at hl ⊢
  have hl : lv_has ls 9 [(0, .ref (g 0)), (1, .int p0), (2, .int p1), (3, .int p2)] := hl
  obtain ⟨H, eH⟩ : ∃ z, z = s.heap := ⟨_, rfl⟩
  have hP : va_P D classes [(g 0, .inr (11, [.ref (g 1), .ref (g 2), .ref (g 3), .ref (g 4), .int 0, .ref (g 5), .ref (g 6), .ref (g 7), .ref (g 8), .int 0, .int 0, .ref (g 9), .ref (g 10), .ref (g 11), .ref (g 12), .ref (g 13), .int 0]))] H := by rw [eH]; exact hP
  have hS : va_S (fun _ => False) s.heap H [] := by rw [eH]; exact hS
  rw [← eH]
  clear eH
  refine lv_aload_n hx hb dX11_bring_0 rfl (lv_at hl 0 rfl) ?_
  refine lv_iload_n hx hb dX11_bring_1 rfl (lv_at hl 1 rfl) ?_
  refine va_calli (va_runV (As := [.int p0]) (rest := []) ⟨hx, hb, hml, hown, hT⟩ (c_X11_isRule l D cs kK kV g rr p0) (cwV 1 hT (hz_gV q_193 q_194 q_195 q_174 q_196) rfl rfl rfl (by decide +kernel) ⟨(Nat.le_of_ble_eq_true rfl), (Nat.le_of_ble_eq_true rfl)⟩) ⟨hz_P.blind, va_recv hK hP (ci := 11) (q0 := 0) rfl rfl, hz_P.mk (hP.sub (ws' := [(g 0, .inr (11, [.ref (g 1), .ref (g 2), .ref (g 3), .ref (g 4), .int 0, .ref (g 5), .ref (g 6), .ref (g 7), .ref (g 8), .int 0, .int 0, .ref (g 9), .ref (g 10), .ref (g 11), .ref (g 12), .ref (g 13), .int 0]))]) [0] rfl) hE hS⟩ rfl rfl hl.1 rfl (lv_room (Nat.le_of_ble_eq_true rfl)) dX11_bring_2 ⟨(Nat.le_of_ble_eq_true rfl), (Nat.le_of_ble_eq_true rfl)⟩) hS (fun _ _ h => h.elim) (fun _ h => h.elim) (fun r_1 u t H1 locs ht hvm hw hB hz1 hk1 hS => ?_)
  have hP := hz_keep hP hk1
  clear hk1 hB hz1
  generalize H1 = H at hP hS ⊢
  subst hw
  refine lv_if_eq (tgt := 28) hx hb dX11_bring_5 (by decide) (fun _ => ?_) (fun z => absurd (by decide) z)
  refine lv_iconst (v := -1) hx hb dX11_bring_28 (by decide) ?_
  exact W.iret (v := -1) hx hb hr (fun t ht hW => ⟨⟨-1, (), rfl, rfl, trivial⟩, hS.F ht⟩) hS.2.2 dX11_bring_29
theorem dX11_forgers_0 : decode cX11_forgers 0 = .ok (.aload_n 0, 1) := by decide +kernel
theorem dX11_forgers_1 : decode cX11_forgers 1 = .ok (.invokevirtual 232, 3) := by decide +kernel
theorem dX11_forgers_4 : decode cX11_forgers 4 = .ok (.ifCond .eq 12, 3) := by decide +kernel
theorem dX11_forgers_16 : decode cX11_forgers 16 = .ok (.iconst (-1), 1) := by decide +kernel
theorem dX11_forgers_17 : decode cX11_forgers 17 = .ok (.ireturn, 1) := by decide +kernel
set_option maxHeartbeats 4000000 in
set_option maxRecDepth 100000 in
theorem c_X11_forgers (l : Launch) (D : va_G) (cs : Nat → ClassId) (kK kV : Nat → Nat) (g : Nat → Nat) (rr : Nat → Nat) (p0 : Int32) : Met l yX11_forgers (hz_w yX11_forgers cX11_forgers 2 (some .int)) ({ frames := 1, cells := 0, slots := 0, locals := 20 }) (va_Pc [.ref (g 0), .int p0] (hz_P D cs kK kV [(g 0, .inr (11, [.ref (g 1), .ref (g 2), .ref (g 3), .ref (g 4), .int 0, .ref (g 5), .ref (g 6), .ref (g 7), .ref (g 8), .int 0, .int 0, .ref (g 9), .ref (g 10), .ref (g 11), .ref (g 12), .ref (g 13), .int 0])), (g 5, .inr (8, [.int 0, .int 0, .int 0, .int 0, .int 0, .int 12, .int 5, .int 1, .int 0, .ref (rr 0), .ref (rr 1), .ref (rr 2), .ref (rr 3), .ref (rr 4), .ref (rr 5), .ref (rr 6), .ref (rr 7), .ref (rr 8)]))])) (va_Qi (fun (r : Int32) (_ : Unit) => r = -1) (fun _ t => True) (fun _ => False)) 0 0 (fun _ => False) := by
  refine Met.ofW (cc := cX11_forgers) (maxL := 2) (ret := (some .int)) (by decide) rfl ?_
  intro p e s m args below meth c s₁ B hml hv
  obtain ⟨rfl, hP, hE⟩ := hv
  have hx := B.exec
  have hb := B.bytes
  have hr := B.returns
  have hT : ∀ w ∈ TB, w.before _ s = true := fun w h => atoms_spec (ws := hz_w yX11_forgers cX11_forgers 2 (some .int)) B.pre w (List.mem_cons_of_mem _ h)
  have hown : s.vm.findClass RX11 = some m.cls := findClass_of_methodNamed B.named
  have hlocks := B.notSynchronized
  clear B
  have hS : va_S (fun _ => False) s.heap s.heap [] := va_S.rf
  have hP : va_P D classes [(g 0, .inr (11, [.ref (g 1), .ref (g 2), .ref (g 3), .ref (g 4), .int 0, .ref (g 5), .ref (g 6), .ref (g 7), .ref (g 8), .int 0, .int 0, .ref (g 9), .ref (g 10), .ref (g 11), .ref (g 12), .ref (g 13), .int 0])), (g 5, .inr (8, [.int 0, .int 0, .int 0, .int 0, .int 0, .int 12, .int 5, .int 1, .int 0, .ref (rr 0), .ref (rr 1), .ref (rr 2), .ref (rr 3), .ref (rr 4), .ref (rr 5), .ref (rr 6), .ref (rr 7), .ref (rr 8)]))] s.heap := hP
  have hK := hE.1
  have hl := lv_entry ([.ref (g 0), .int p0]) (n := 2) (Nat.le_of_ble_eq_true rfl)
  rw [lg_entry_eq]
  generalize (lg_sl ([.ref (g 0), .int p0]) ++ List.replicate (2 - (lg_sl ([.ref (g 0), .int p0])).length) Slot.unset).toArray = ls at hl ⊢
  have hl : lv_has ls 2 [(0, .ref (g 0)), (1, .int p0)] := hl
  obtain ⟨H, eH⟩ : ∃ z, z = s.heap := ⟨_, rfl⟩
  have hP : va_P D classes [(g 0, .inr (11, [.ref (g 1), .ref (g 2), .ref (g 3), .ref (g 4), .int 0, .ref (g 5), .ref (g 6), .ref (g 7), .ref (g 8), .int 0, .int 0, .ref (g 9), .ref (g 10), .ref (g 11), .ref (g 12), .ref (g 13), .int 0])), (g 5, .inr (8, [.int 0, .int 0, .int 0, .int 0, .int 0, .int 12, .int 5, .int 1, .int 0, .ref (rr 0), .ref (rr 1), .ref (rr 2), .ref (rr 3), .ref (rr 4), .ref (rr 5), .ref (rr 6), .ref (rr 7), .ref (rr 8)]))] H := by rw [eH]; exact hP
  have hS : va_S (fun _ => False) s.heap H [] := by rw [eH]; exact hS
  rw [← eH]
  clear eH
  refine lv_aload_n hx hb dX11_forgers_0 rfl (lv_at hl 0 rfl) ?_
  refine va_calli (va_runV (As := []) (rest := []) ⟨hx, hb, hml, hown, hT⟩ (c_X11_isFair l D cs kK kV g rr) (cwV 0 hT (hz_gV q_171 q_172 q_173 q_174 q_175) rfl rfl rfl (by decide +kernel) ⟨(Nat.le_of_ble_eq_true rfl), (Nat.le_of_ble_eq_true rfl)⟩) ⟨hz_P.blind, va_recv hK hP (ci := 11) (q0 := 0) rfl rfl, hz_P.mk (hP.sub (ws' := [(g 0, .inr (11, [.ref (g 1), .ref (g 2), .ref (g 3), .ref (g 4), .int 0, .ref (g 5), .ref (g 6), .ref (g 7), .ref (g 8), .int 0, .int 0, .ref (g 9), .ref (g 10), .ref (g 11), .ref (g 12), .ref (g 13), .int 0])), (g 5, .inr (8, [.int 0, .int 0, .int 0, .int 0, .int 0, .int 12, .int 5, .int 1, .int 0, .ref (rr 0), .ref (rr 1), .ref (rr 2), .ref (rr 3), .ref (rr 4), .ref (rr 5), .ref (rr 6), .ref (rr 7), .ref (rr 8)]))]) [0,1] rfl) hE hS⟩ rfl rfl hl.1 rfl (lv_room (Nat.le_of_ble_eq_true rfl)) dX11_forgers_1 ⟨(Nat.le_of_ble_eq_true rfl), (Nat.le_of_ble_eq_true rfl)⟩) hS (fun _ _ h => h.elim) (fun _ h => h.elim) (fun r_1 u t H1 locs ht hvm hw hB hz1 hk1 hS => ?_)
  have hP := hz_keep hP hk1
  clear hk1 hB hz1
  generalize H1 = H at hP hS ⊢
  subst hw
  refine lv_if_eq (tgt := 16) hx hb dX11_forgers_4 (by decide) (fun _ => ?_) (fun z => absurd (by decide) z)
  refine lv_iconst (v := -1) hx hb dX11_forgers_16 (by decide) ?_
  exact W.iret (v := -1) hx hb hr (fun t ht hW => ⟨⟨-1, (), rfl, rfl, trivial⟩, hS.F ht⟩) hS.2.2 dX11_forgers_17
theorem dX11_fairs_0 : decode cX11_fairs 0 = .ok (.aload_n 0, 1) := by decide +kernel
theorem dX11_fairs_1 : decode cX11_fairs 1 = .ok (.invokevirtual 232, 3) := by decide +kernel
theorem dX11_fairs_4 : decode cX11_fairs 4 = .ok (.ifCond .eq 22, 3) := by decide +kernel
theorem dX11_fairs_26 : decode cX11_fairs 26 = .ok (.iconst (-1), 1) := by decide +kernel
theorem dX11_fairs_27 : decode cX11_fairs 27 = .ok (.ireturn, 1) := by decide +kernel
set_option maxHeartbeats 4000000 in
set_option maxRecDepth 100000 in
theorem c_X11_fairs (l : Launch) (D : va_G) (cs : Nat → ClassId) (kK kV : Nat → Nat) (g : Nat → Nat) (rr : Nat → Nat) (p0 : Int32) (p1 : Int32) (p2 : Int32) (p3 : Int32) : Met l yX11_fairs (hz_w yX11_fairs cX11_fairs 9 (some .int)) ({ frames := 1, cells := 0, slots := 0, locals := 20 }) (va_Pc [.ref (g 0), .int p0, .int p1, .int p2, .int p3] (hz_P D cs kK kV [(g 0, .inr (11, [.ref (g 1), .ref (g 2), .ref (g 3), .ref (g 4), .int 0, .ref (g 5), .ref (g 6), .ref (g 7), .ref (g 8), .int 0, .int 0, .ref (g 9), .ref (g 10), .ref (g 11), .ref (g 12), .ref (g 13), .int 0])), (g 5, .inr (8, [.int 0, .int 0, .int 0, .int 0, .int 0, .int 12, .int 5, .int 1, .int 0, .ref (rr 0), .ref (rr 1), .ref (rr 2), .ref (rr 3), .ref (rr 4), .ref (rr 5), .ref (rr 6), .ref (rr 7), .ref (rr 8)]))])) (va_Qi (fun (r : Int32) (_ : Unit) => r = -1) (fun _ t => True) (fun _ => False)) 0 0 (fun _ => False) := by
  refine Met.ofW (cc := cX11_fairs) (maxL := 9) (ret := (some .int)) (by decide) rfl ?_
  intro p e s m args below meth c s₁ B hml hv
  obtain ⟨rfl, hP, hE⟩ := hv
  have hx := B.exec
  have hb := B.bytes
  have hr := B.returns
  have hT : ∀ w ∈ TB, w.before _ s = true := fun w h => atoms_spec (ws := hz_w yX11_fairs cX11_fairs 9 (some .int)) B.pre w (List.mem_cons_of_mem _ h)
  have hown : s.vm.findClass RX11 = some m.cls := findClass_of_methodNamed B.named
  have hlocks := B.notSynchronized
  clear B
  have hS : va_S (fun _ => False) s.heap s.heap [] := va_S.rf
  have hP : va_P D classes [(g 0, .inr (11, [.ref (g 1), .ref (g 2), .ref (g 3), .ref (g 4), .int 0, .ref (g 5), .ref (g 6), .ref (g 7), .ref (g 8), .int 0, .int 0, .ref (g 9), .ref (g 10), .ref (g 11), .ref (g 12), .ref (g 13), .int 0])), (g 5, .inr (8, [.int 0, .int 0, .int 0, .int 0, .int 0, .int 12, .int 5, .int 1, .int 0, .ref (rr 0), .ref (rr 1), .ref (rr 2), .ref (rr 3), .ref (rr 4), .ref (rr 5), .ref (rr 6), .ref (rr 7), .ref (rr 8)]))] s.heap := hP
  have hK := hE.1
  have hl := lv_entry ([.ref (g 0), .int p0, .int p1, .int p2, .int p3]) (n := 9) (Nat.le_of_ble_eq_true rfl)
  rw [lg_entry_eq]
  generalize (lg_sl ([.ref (g 0), .int p0, .int p1, .int p2, .int p3]) ++ List.replicate (9 - (lg_sl ([.ref (g 0), .int p0, .int p1, .int p2, .int p3])).length) Slot.unset).toArray = ls at hl ⊢
  have hl : lv_has ls 9 [(0, .ref (g 0)), (1, .int p0), (2, .int p1), (3, .int p2), (4, .int p3)] := hl
  obtain ⟨H, eH⟩ : ∃ z, z = s.heap := ⟨_, rfl⟩
  have hP : va_P D classes [(g 0, .inr (11, [.ref (g 1), .ref (g 2), .ref (g 3), .ref (g 4), .int 0, .ref (g 5), .ref (g 6), .ref (g 7), .ref (g 8), .int 0, .int 0, .ref (g 9), .ref (g 10), .ref (g 11), .ref (g 12), .ref (g 13), .int 0])), (g 5, .inr (8, [.int 0, .int 0, .int 0, .int 0, .int 0, .int 12, .int 5, .int 1, .int 0, .ref (rr 0), .ref (rr 1), .ref (rr 2), .ref (rr 3), .ref (rr 4), .ref (rr 5), .ref (rr 6), .ref (rr 7), .ref (rr 8)]))] H := by rw [eH]; exact hP
  have hS : va_S (fun _ => False) s.heap H [] := by rw [eH]; exact hS
  rw [← eH]
  clear eH
  refine lv_aload_n hx hb dX11_fairs_0 rfl (lv_at hl 0 rfl) ?_
  refine va_calli (va_runV (As := []) (rest := []) ⟨hx, hb, hml, hown, hT⟩ (c_X11_isFair l D cs kK kV g rr) (cwV 0 hT (hz_gV q_171 q_172 q_173 q_174 q_175) rfl rfl rfl (by decide +kernel) ⟨(Nat.le_of_ble_eq_true rfl), (Nat.le_of_ble_eq_true rfl)⟩) ⟨hz_P.blind, va_recv hK hP (ci := 11) (q0 := 0) rfl rfl, hz_P.mk (hP.sub (ws' := [(g 0, .inr (11, [.ref (g 1), .ref (g 2), .ref (g 3), .ref (g 4), .int 0, .ref (g 5), .ref (g 6), .ref (g 7), .ref (g 8), .int 0, .int 0, .ref (g 9), .ref (g 10), .ref (g 11), .ref (g 12), .ref (g 13), .int 0])), (g 5, .inr (8, [.int 0, .int 0, .int 0, .int 0, .int 0, .int 12, .int 5, .int 1, .int 0, .ref (rr 0), .ref (rr 1), .ref (rr 2), .ref (rr 3), .ref (rr 4), .ref (rr 5), .ref (rr 6), .ref (rr 7), .ref (rr 8)]))]) [0,1] rfl) hE hS⟩ rfl rfl hl.1 rfl (lv_room (Nat.le_of_ble_eq_true rfl)) dX11_fairs_1 ⟨(Nat.le_of_ble_eq_true rfl), (Nat.le_of_ble_eq_true rfl)⟩) hS (fun _ _ h => h.elim) (fun _ h => h.elim) (fun r_1 u t H1 locs ht hvm hw hB hz1 hk1 hS => ?_)
  have hP := hz_keep hP hk1
  clear hk1 hB hz1
  generalize H1 = H at hP hS ⊢
  subst hw
  refine lv_if_eq (tgt := 26) hx hb dX11_fairs_4 (by decide) (fun _ => ?_) (fun z => absurd (by decide) z)
  refine lv_iconst (v := -1) hx hb dX11_fairs_26 (by decide) ?_
  exact W.iret (v := -1) hx hb hr (fun t ht hW => ⟨⟨-1, (), rfl, rfl, trivial⟩, hS.F ht⟩) hS.2.2 dX11_fairs_27
theorem dX11_count_0 : decode cX11_count 0 = .ok (.iload_n 1, 1) := by decide +kernel
theorem dX11_count_1 : decode cX11_count 1 = .ok (.tableswitch 159 0 10 #[59, 67, 75, 83, 88, 96, 122, 133, 141, 146, 151], 59) := by decide +kernel
theorem dX11_count_60 : decode cX11_count 60 = .ok (.aload_n 0, 1) := by decide +kernel
theorem dX11_count_61 : decode cX11_count 61 = .ok (.getfield 39, 3) := by decide +kernel
theorem dX11_count_64 : decode cX11_count 64 = .ok (.getfield 178, 3) := by decide +kernel
theorem dX11_count_67 : decode cX11_count 67 = .ok (.ireturn, 1) := by decide +kernel
theorem dX11_count_68 : decode cX11_count 68 = .ok (.aload_n 0, 1) := by decide +kernel
theorem dX11_count_69 : decode cX11_count 69 = .ok (.getfield 39, 3) := by decide +kernel
theorem dX11_count_72 : decode cX11_count 72 = .ok (.getfield 119, 3) := by decide +kernel
theorem dX11_count_75 : decode cX11_count 75 = .ok (.ireturn, 1) := by decide +kernel
theorem dX11_count_76 : decode cX11_count 76 = .ok (.aload_n 0, 1) := by decide +kernel
theorem dX11_count_77 : decode cX11_count 77 = .ok (.getfield 39, 3) := by decide +kernel
theorem dX11_count_80 : decode cX11_count 80 = .ok (.getfield 319, 3) := by decide +kernel
theorem dX11_count_83 : decode cX11_count 83 = .ok (.ireturn, 1) := by decide +kernel
theorem dX11_count_84 : decode cX11_count 84 = .ok (.aload_n 0, 1) := by decide +kernel
theorem dX11_count_85 : decode cX11_count 85 = .ok (.getfield 122, 3) := by decide +kernel
theorem dX11_count_88 : decode cX11_count 88 = .ok (.ireturn, 1) := by decide +kernel
theorem dX11_count_89 : decode cX11_count 89 = .ok (.aload_n 0, 1) := by decide +kernel
theorem dX11_count_90 : decode cX11_count 90 = .ok (.getfield 46, 3) := by decide +kernel
theorem dX11_count_93 : decode cX11_count 93 = .ok (.getfield 140, 3) := by decide +kernel
theorem dX11_count_96 : decode cX11_count 96 = .ok (.ireturn, 1) := by decide +kernel
theorem dX11_count_97 : decode cX11_count 97 = .ok (.aload_n 0, 1) := by decide +kernel
theorem dX11_count_98 : decode cX11_count 98 = .ok (.invokevirtual 232, 3) := by decide +kernel
theorem dX11_count_101 : decode cX11_count 101 = .ok (.ifCond .eq 20, 3) := by decide +kernel
theorem dX11_count_121 : decode cX11_count 121 = .ok (.iconst (-1), 1) := by decide +kernel
theorem dX11_count_122 : decode cX11_count 122 = .ok (.ireturn, 1) := by decide +kernel
theorem dX11_count_123 : decode cX11_count 123 = .ok (.aload_n 0, 1) := by decide +kernel
theorem dX11_count_124 : decode cX11_count 124 = .ok (.getfield 46, 3) := by decide +kernel
theorem dX11_count_127 : decode cX11_count 127 = .ok (.invokevirtual 323, 3) := by decide +kernel
theorem dX11_count_130 : decode cX11_count 130 = .ok (.invokestatic 206, 3) := by decide +kernel
theorem dX11_count_133 : decode cX11_count 133 = .ok (.ireturn, 1) := by decide +kernel
theorem dX11_count_134 : decode cX11_count 134 = .ok (.aload_n 0, 1) := by decide +kernel
theorem dX11_count_135 : decode cX11_count 135 = .ok (.getfield 60, 3) := by decide +kernel
theorem dX11_count_138 : decode cX11_count 138 = .ok (.getfield 113, 3) := by decide +kernel
theorem dX11_count_141 : decode cX11_count 141 = .ok (.ireturn, 1) := by decide +kernel
theorem dX11_count_142 : decode cX11_count 142 = .ok (.aload_n 0, 1) := by decide +kernel
theorem dX11_count_143 : decode cX11_count 143 = .ok (.getfield 222, 3) := by decide +kernel
theorem dX11_count_146 : decode cX11_count 146 = .ok (.ireturn, 1) := by decide +kernel
theorem dX11_count_147 : decode cX11_count 147 = .ok (.aload_n 0, 1) := by decide +kernel
theorem dX11_count_148 : decode cX11_count 148 = .ok (.getfield 312, 3) := by decide +kernel
theorem dX11_count_151 : decode cX11_count 151 = .ok (.ireturn, 1) := by decide +kernel
theorem dX11_count_152 : decode cX11_count 152 = .ok (.aload_n 0, 1) := by decide +kernel
theorem dX11_count_153 : decode cX11_count 153 = .ok (.getfield 10, 3) := by decide +kernel
theorem dX11_count_156 : decode cX11_count 156 = .ok (.getfield 91, 3) := by decide +kernel
theorem dX11_count_159 : decode cX11_count 159 = .ok (.ireturn, 1) := by decide +kernel
theorem dX11_count_160 : decode cX11_count 160 = .ok (.iconst (-1), 1) := by decide +kernel
theorem dX11_count_161 : decode cX11_count 161 = .ok (.ireturn, 1) := by decide +kernel
set_option maxHeartbeats 4000000 in
set_option maxRecDepth 100000 in
theorem c_X11_count (l : Launch) (D : va_G) (cs : Nat → ClassId) (kK kV : Nat → Nat) (g : Nat → Nat) (rr : Nat → Nat) (p0 : Int32) : Met l yX11_count (hz_w yX11_count cX11_count 2 (some .int)) ({ frames := 1, cells := 0, slots := 0, locals := 22 }) (va_Pc [.ref (g 0), .int p0] (hz_P D cs kK kV [(g 0, .inr (11, [.ref (g 1), .ref (g 2), .ref (g 3), .ref (g 4), .int 0, .ref (g 5), .ref (g 6), .ref (g 7), .ref (g 8), .int 0, .int 0, .ref (g 9), .ref (g 10), .ref (g 11), .ref (g 12), .ref (g 13), .int 0])), (g 5, .inr (8, [.int 0, .int 0, .int 0, .int 0, .int 0, .int 12, .int 5, .int 1, .int 0, .ref (rr 0), .ref (rr 1), .ref (rr 2), .ref (rr 3), .ref (rr 4), .ref (rr 5), .ref (rr 6), .ref (rr 7), .ref (rr 8)])), (g 6, .inr (6, [.int 0, .ref (g 16), .ref (g 17), .ref (g 18), .ref (g 19), .ref (g 20)])), (g 20, .inl (cs 0, 8, .inl (fun _ => 0))), (g 9, .inr (9, [.int 0, .int 0, .int 0, .ref (g 21), .ref (g 22), .ref (g 23), .ref (g 24)])), (g 1, .inr (7, [.ref (g 14), .int 0, .int 0, .int 0]))])) (va_Qi (fun (r : Int32) (_ : Unit) => r = hz_count p0) (fun _ t => True) (fun _ => False)) 0 0 (fun _ => False) := by
  refine Met.ofW (cc := cX11_count) (maxL := 2) (ret := (some .int)) (by decide) rfl ?_
  intro p e s m args below meth c s₁ B hml hv
  obtain ⟨rfl, hP, hE⟩ := hv
  have hx := B.exec
  have hb := B.bytes
  have hr := B.returns
  have hT : ∀ w ∈ TB, w.before _ s = true := fun w h => atoms_spec (ws := hz_w yX11_count cX11_count 2 (some .int)) B.pre w (List.mem_cons_of_mem _ h)
  have hown : s.vm.findClass RX11 = some m.cls := findClass_of_methodNamed B.named
  have hlocks := B.notSynchronized
  clear B
  have hS : va_S (fun _ => False) s.heap s.heap [] := va_S.rf
  have hP : va_P D classes [(g 0, .inr (11, [.ref (g 1), .ref (g 2), .ref (g 3), .ref (g 4), .int 0, .ref (g 5), .ref (g 6), .ref (g 7), .ref (g 8), .int 0, .int 0, .ref (g 9), .ref (g 10), .ref (g 11), .ref (g 12), .ref (g 13), .int 0])), (g 5, .inr (8, [.int 0, .int 0, .int 0, .int 0, .int 0, .int 12, .int 5, .int 1, .int 0, .ref (rr 0), .ref (rr 1), .ref (rr 2), .ref (rr 3), .ref (rr 4), .ref (rr 5), .ref (rr 6), .ref (rr 7), .ref (rr 8)])), (g 6, .inr (6, [.int 0, .ref (g 16), .ref (g 17), .ref (g 18), .ref (g 19), .ref (g 20)])), (g 20, .inl (cs 0, 8, .inl (fun _ => 0))), (g 9, .inr (9, [.int 0, .int 0, .int 0, .ref (g 21), .ref (g 22), .ref (g 23), .ref (g 24)])), (g 1, .inr (7, [.ref (g 14), .int 0, .int 0, .int 0]))] s.heap := hP
  have hK := hE.1
  have hl := lv_entry ([.ref (g 0), .int p0]) (n := 2) (Nat.le_of_ble_eq_true rfl)
  rw [lg_entry_eq]
  generalize (lg_sl ([.ref (g 0), .int p0]) ++ List.replicate (2 - (lg_sl ([.ref (g 0), .int p0])).length) Slot.unset).toArray = ls at hl ⊢
  have hl : lv_has ls 2 [(0, .ref (g 0)), (1, .int p0)] := hl
  obtain ⟨H, eH⟩ : ∃ z, z = s.heap := ⟨_, rfl⟩
  have hP : va_P D classes [(g 0, .inr (11, [.ref (g 1), .ref (g 2), .ref (g 3), .ref (g 4), .int 0, .ref (g 5), .ref (g 6), .ref (g 7), .ref (g 8), .int 0, .int 0, .ref (g 9), .ref (g 10), .ref (g 11), .ref (g 12), .ref (g 13), .int 0])), (g 5, .inr (8, [.int 0, .int 0, .int 0, .int 0, .int 0, .int 12, .int 5, .int 1, .int 0, .ref (rr 0), .ref (rr 1), .ref (rr 2), .ref (rr 3), .ref (rr 4), .ref (rr 5), .ref (rr 6), .ref (rr 7), .ref (rr 8)])), (g 6, .inr (6, [.int 0, .ref (g 16), .ref (g 17), .ref (g 18), .ref (g 19), .ref (g 20)])), (g 20, .inl (cs 0, 8, .inl (fun _ => 0))), (g 9, .inr (9, [.int 0, .int 0, .int 0, .ref (g 21), .ref (g 22), .ref (g 23), .ref (g 24)])), (g 1, .inr (7, [.ref (g 14), .int 0, .int 0, .int 0]))] H := by rw [eH]; exact hP
  have hS : va_S (fun _ => False) s.heap H [] := by rw [eH]; exact hS
  rw [← eH]
  clear eH
  refine lv_iload_n hx hb dX11_count_0 rfl (lv_at hl 1 rfl) ?_
  by_cases c_1 : p0.toInt < 0 ∨ 10 < p0.toInt
  · refine lv_tableOut (tgt := 160) hx hb dX11_count_1 c_1 (by decide) ?_
    refine lv_iconst (v := -1) hx hb dX11_count_160 (by decide) ?_
    exact W.iret (v := -1) hx hb hr (fun t ht hW => ⟨⟨-1, (), rfl, (hz_cout c_1), trivial⟩, hS.F ht⟩) hS.2.2 dX11_count_161
  · rcases hz_sw10 c_1 with rfl | rfl | rfl | rfl | rfl | rfl | rfl | rfl | rfl | rfl | rfl
    · refine lv_tableIn (off := 59) (tgt := 60) hx hb dX11_count_1 (by decide) (by decide) (by decide) (by decide) ?_
      refine lv_aload_n hx hb dX11_count_60 rfl (lv_at hl 0 rfl) ?_
      refine va_get (D := D) (ci := 11) (v := .ref (g 5)) (C := RX11) (T := TX11) (N := 17) hx hb hT i_X11 hown hK hP 0 rfl rfl 5 (by decide) (hT _ q_168) (fun _ h9 => h9) rfl dX11_count_61 ?_
      refine va_get (D := D) (ci := 8) (v := .int 0) (C := RX8) (T := TX8) (N := 18) hx hb hT i_X8 hown hK hP 1 rfl rfl 0 (by decide) (hT _ q_169) (fun _ h9 => h9) rfl dX11_count_64 ?_
      exact W.iret (v := 0) hx hb hr (fun t ht hW => ⟨⟨0, (), rfl, (by decide), trivial⟩, hS.F ht⟩) hS.2.2 dX11_count_67
    · refine lv_tableIn (off := 67) (tgt := 68) hx hb dX11_count_1 (by decide) (by decide) (by decide) (by decide) ?_
      refine lv_aload_n hx hb dX11_count_68 rfl (lv_at hl 0 rfl) ?_
      refine va_get (D := D) (ci := 11) (v := .ref (g 5)) (C := RX11) (T := TX11) (N := 17) hx hb hT i_X11 hown hK hP 0 rfl rfl 5 (by decide) (hT _ q_168) (fun _ h9 => h9) rfl dX11_count_69 ?_
      refine va_get (D := D) (ci := 8) (v := .int 0) (C := RX8) (T := TX8) (N := 18) hx hb hT i_X8 hown hK hP 1 rfl rfl 2 (by decide) (hT _ q_197) (fun _ h9 => h9) rfl dX11_count_72 ?_
      exact W.iret (v := 0) hx hb hr (fun t ht hW => ⟨⟨0, (), rfl, (by decide), trivial⟩, hS.F ht⟩) hS.2.2 dX11_count_75
    · refine lv_tableIn (off := 75) (tgt := 76) hx hb dX11_count_1 (by decide) (by decide) (by decide) (by decide) ?_
      refine lv_aload_n hx hb dX11_count_76 rfl (lv_at hl 0 rfl) ?_
      refine va_get (D := D) (ci := 11) (v := .ref (g 5)) (C := RX11) (T := TX11) (N := 17) hx hb hT i_X11 hown hK hP 0 rfl rfl 5 (by decide) (hT _ q_168) (fun _ h9 => h9) rfl dX11_count_77 ?_
      refine va_get (D := D) (ci := 8) (v := .int 0) (C := RX8) (T := TX8) (N := 18) hx hb hT i_X8 hown hK hP 1 rfl rfl 3 (by decide) (hT _ q_198) (fun _ h9 => h9) rfl dX11_count_80 ?_
      exact W.iret (v := 0) hx hb hr (fun t ht hW => ⟨⟨0, (), rfl, (by decide), trivial⟩, hS.F ht⟩) hS.2.2 dX11_count_83
    · refine lv_tableIn (off := 83) (tgt := 84) hx hb dX11_count_1 (by decide) (by decide) (by decide) (by decide) ?_
      refine lv_aload_n hx hb dX11_count_84 rfl (lv_at hl 0 rfl) ?_
      refine va_get (D := D) (ci := 11) (v := .int 0) (C := RX11) (T := TX11) (N := 17) hx hb hT i_X11 hown hK hP 0 rfl rfl 4 (by decide) (hT _ q_170) (fun _ h9 => h9) rfl dX11_count_85 ?_
      exact W.iret (v := 0) hx hb hr (fun t ht hW => ⟨⟨0, (), rfl, (by decide), trivial⟩, hS.F ht⟩) hS.2.2 dX11_count_88
    · refine lv_tableIn (off := 88) (tgt := 89) hx hb dX11_count_1 (by decide) (by decide) (by decide) (by decide) ?_
      refine lv_aload_n hx hb dX11_count_89 rfl (lv_at hl 0 rfl) ?_
      refine va_get (D := D) (ci := 11) (v := .ref (g 6)) (C := RX11) (T := TX11) (N := 17) hx hb hT i_X11 hown hK hP 0 rfl rfl 6 (by decide) (hT _ q_199) (fun _ h9 => h9) rfl dX11_count_90 ?_
      refine va_get (D := D) (ci := 6) (v := .int 0) (C := RX6) (T := TX6) (N := 6) hx hb hT i_X6 hown hK hP 2 rfl rfl 0 (by decide) (hT _ q_200) (fun _ h9 => h9) rfl dX11_count_93 ?_
      exact W.iret (v := 0) hx hb hr (fun t ht hW => ⟨⟨0, (), rfl, (by decide), trivial⟩, hS.F ht⟩) hS.2.2 dX11_count_96
    · refine lv_tableIn (off := 96) (tgt := 97) hx hb dX11_count_1 (by decide) (by decide) (by decide) (by decide) ?_
      refine lv_aload_n hx hb dX11_count_97 rfl (lv_at hl 0 rfl) ?_
      refine va_calli (va_runV (As := []) (rest := []) ⟨hx, hb, hml, hown, hT⟩ (c_X11_isFair l D cs kK kV g rr) (cwV 0 hT (hz_gV q_171 q_172 q_173 q_174 q_175) rfl rfl rfl (by decide +kernel) ⟨(Nat.le_of_ble_eq_true rfl), (Nat.le_of_ble_eq_true rfl)⟩) ⟨hz_P.blind, va_recv hK hP (ci := 11) (q0 := 0) rfl rfl, hz_P.mk (hP.sub (ws' := [(g 0, .inr (11, [.ref (g 1), .ref (g 2), .ref (g 3), .ref (g 4), .int 0, .ref (g 5), .ref (g 6), .ref (g 7), .ref (g 8), .int 0, .int 0, .ref (g 9), .ref (g 10), .ref (g 11), .ref (g 12), .ref (g 13), .int 0])), (g 5, .inr (8, [.int 0, .int 0, .int 0, .int 0, .int 0, .int 12, .int 5, .int 1, .int 0, .ref (rr 0), .ref (rr 1), .ref (rr 2), .ref (rr 3), .ref (rr 4), .ref (rr 5), .ref (rr 6), .ref (rr 7), .ref (rr 8)]))]) [0,1] rfl) hE hS⟩ rfl rfl hl.1 rfl (lv_room (Nat.le_of_ble_eq_true rfl)) dX11_count_98 ⟨(Nat.le_of_ble_eq_true rfl), (Nat.le_of_ble_eq_true rfl)⟩) hS (fun _ _ h => h.elim) (fun _ h => h.elim) (fun r_2 u t H1 locs ht hvm hw hB hz1 hk1 hS => ?_)
      have hP := hz_keep hP hk1
      clear hk1 hB hz1
      generalize H1 = H at hP hS ⊢
      subst hw
      refine lv_if_eq (tgt := 121) hx hb dX11_count_101 (by decide) (fun _ => ?_) (fun z => absurd (by decide) z)
      refine lv_iconst (v := -1) hx hb dX11_count_121 (by decide) ?_
      exact W.iret (v := -1) hx hb hr (fun t ht hW => ⟨⟨-1, (), rfl, (by decide), trivial⟩, hS.F ht⟩) hS.2.2 dX11_count_122
    · refine lv_tableIn (off := 122) (tgt := 123) hx hb dX11_count_1 (by decide) (by decide) (by decide) (by decide) ?_
      refine lv_aload_n hx hb dX11_count_123 rfl (lv_at hl 0 rfl) ?_
      refine va_get (D := D) (ci := 11) (v := .ref (g 6)) (C := RX11) (T := TX11) (N := 17) hx hb hT i_X11 hown hK hP 0 rfl rfl 6 (by decide) (hT _ q_199) (fun _ h9 => h9) rfl dX11_count_124 ?_
      refine va_calli (va_runV (As := []) (rest := []) ⟨hx, hb, hml, hown, hT⟩ (c_X6_atStalls l D cs kK kV (g 6) ((fun i => g (16 + i)))) (cwV 0 hT (hz_gV q_201 q_202 q_203 q_53 q_204) rfl rfl rfl (by decide +kernel) ⟨(Nat.le_of_ble_eq_true rfl), (Nat.le_of_ble_eq_true rfl)⟩) ⟨hz_P.blind, va_recv hK hP (ci := 6) (q0 := 2) rfl rfl, hz_P.mk (hP.sub (ws' := [(g 6, .inr (6, [.int 0, .ref (g 16), .ref (g 17), .ref (g 18), .ref (g 19), .ref (g 20)])), (g 20, .inl (cs 0, 8, .inl (fun _ => 0)))]) [2,3] rfl) hE hS⟩ rfl rfl hl.1 rfl (lv_room (Nat.le_of_ble_eq_true rfl)) dX11_count_127 ⟨(Nat.le_of_ble_eq_true rfl), (Nat.le_of_ble_eq_true rfl)⟩) hS (fun _ _ h => h.elim) (fun _ h => h.elim) (fun r_3 u t H1 locs ht hvm hw hB hz1 hk1 hS => ?_)
      have hP := hz_keep hP hk1
      clear hk1 hB hz1
      generalize H1 = H at hP hS ⊢
      subst hw
      refine va_calli (va_runS (As := [.int 0]) (rest := []) ⟨hx, hb, hml, hown, hT⟩ (c_bitCount l D cs kK kV ) (va_cwS 1 hT (hz_gS q_205 q_206 q_207 q_208) rfl rfl rfl (by decide +kernel) ⟨(Nat.le_of_ble_eq_true rfl), (Nat.le_of_ble_eq_true rfl)⟩) ⟨hz_P.blind, hz_P.mk (hP.sub (ws' := []) [] rfl) hE hS⟩ rfl rfl hl.1 rfl (lv_room (Nat.le_of_ble_eq_true rfl)) dX11_count_130 ⟨(Nat.le_of_ble_eq_true rfl), (Nat.le_of_ble_eq_true rfl)⟩) hS (fun _ _ h => h.elim) (fun _ h => h.elim) (fun r_4 u t H1 locs ht hvm hw hB hz1 hk1 hS => ?_)
      have hP := hz_keep hP hk1
      clear hk1 hB hz1
      generalize H1 = H at hP hS ⊢
      subst hw
      exact W.iret (v := 0) hx hb hr (fun t ht hW => ⟨⟨0, (), rfl, (by decide), trivial⟩, hS.F ht⟩) hS.2.2 dX11_count_133
    · refine lv_tableIn (off := 133) (tgt := 134) hx hb dX11_count_1 (by decide) (by decide) (by decide) (by decide) ?_
      refine lv_aload_n hx hb dX11_count_134 rfl (lv_at hl 0 rfl) ?_
      refine va_get (D := D) (ci := 11) (v := .ref (g 9)) (C := RX11) (T := TX11) (N := 17) hx hb hT i_X11 hown hK hP 0 rfl rfl 11 (by decide) (hT _ q_209) (fun _ h9 => h9) rfl dX11_count_135 ?_
      refine va_get (D := D) (ci := 9) (v := .int 0) (C := RX9) (T := TX9) (N := 7) hx hb hT i_X9 hown hK hP 4 rfl rfl 0 (by decide) (hT _ q_210) (fun _ h9 => h9) rfl dX11_count_138 ?_
      exact W.iret (v := 0) hx hb hr (fun t ht hW => ⟨⟨0, (), rfl, (by decide), trivial⟩, hS.F ht⟩) hS.2.2 dX11_count_141
    · refine lv_tableIn (off := 141) (tgt := 142) hx hb dX11_count_1 (by decide) (by decide) (by decide) (by decide) ?_
      refine lv_aload_n hx hb dX11_count_142 rfl (lv_at hl 0 rfl) ?_
      refine va_get (D := D) (ci := 11) (v := .int 0) (C := RX11) (T := TX11) (N := 17) hx hb hT i_X11 hown hK hP 0 rfl rfl 10 (by decide) (hT _ q_188) (fun _ h9 => h9) rfl dX11_count_143 ?_
      exact W.iret (v := 0) hx hb hr (fun t ht hW => ⟨⟨0, (), rfl, (by decide), trivial⟩, hS.F ht⟩) hS.2.2 dX11_count_146
    · refine lv_tableIn (off := 146) (tgt := 147) hx hb dX11_count_1 (by decide) (by decide) (by decide) (by decide) ?_
      refine lv_aload_n hx hb dX11_count_147 rfl (lv_at hl 0 rfl) ?_
      refine va_get (D := D) (ci := 11) (v := .int 0) (C := RX11) (T := TX11) (N := 17) hx hb hT i_X11 hown hK hP 0 rfl rfl 16 (by decide) (hT _ q_211) (fun _ h9 => h9) rfl dX11_count_148 ?_
      exact W.iret (v := 0) hx hb hr (fun t ht hW => ⟨⟨0, (), rfl, (by decide), trivial⟩, hS.F ht⟩) hS.2.2 dX11_count_151
    · refine lv_tableIn (off := 151) (tgt := 152) hx hb dX11_count_1 (by decide) (by decide) (by decide) (by decide) ?_
      refine lv_aload_n hx hb dX11_count_152 rfl (lv_at hl 0 rfl) ?_
      refine va_get (D := D) (ci := 11) (v := .ref (g 1)) (C := RX11) (T := TX11) (N := 17) hx hb hT i_X11 hown hK hP 0 rfl rfl 0 (by decide) (hT _ q_212) (fun _ h9 => h9) rfl dX11_count_153 ?_
      refine va_get (D := D) (ci := 7) (v := .int 0) (C := RX7) (T := TX7) (N := 4) hx hb hT i_X7 hown hK hP 5 rfl rfl 1 (by decide) (hT _ q_213) (fun _ h9 => h9) rfl dX11_count_156 ?_
      exact W.iret (v := 0) hx hb hr (fun t ht hW => ⟨⟨0, (), rfl, (by decide), trivial⟩, hS.F ht⟩) hS.2.2 dX11_count_159
theorem dX11_back_0 : decode cX11_back 0 = .ok (.iload_n 1, 1) := by decide +kernel
theorem dX11_back_1 : decode cX11_back 1 = .ok (.ifCond .lt 8, 3) := by decide +kernel
theorem dX11_back_4 : decode cX11_back 4 = .ok (.iload_n 1, 1) := by decide +kernel
theorem dX11_back_5 : decode cX11_back 5 = .ok (.iconst 4, 1) := by decide +kernel
theorem dX11_back_6 : decode cX11_back 6 = .ok (.if_icmp .lt 7, 3) := by decide +kernel
theorem dX11_back_9 : decode cX11_back 9 = .ok (.aconst_null, 1) := by decide +kernel
theorem dX11_back_10 : decode cX11_back 10 = .ok (.goto 9, 3) := by decide +kernel
theorem dX11_back_13 : decode cX11_back 13 = .ok (.aload_n 0, 1) := by decide +kernel
theorem dX11_back_14 : decode cX11_back 14 = .ok (.getfield 66, 3) := by decide +kernel
theorem dX11_back_17 : decode cX11_back 17 = .ok (.iload_n 1, 1) := by decide +kernel
theorem dX11_back_18 : decode cX11_back 18 = .ok (.aaload, 1) := by decide +kernel
theorem dX11_back_19 : decode cX11_back 19 = .ok (.astore_n 2, 1) := by decide +kernel
theorem dX11_back_20 : decode cX11_back 20 = .ok (.aload_n 2, 1) := by decide +kernel
theorem dX11_back_21 : decode cX11_back 21 = .ok (.ifnull 10, 3) := by decide +kernel
theorem dX11_back_31 : decode cX11_back 31 = .ok (.iconst (-1), 1) := by decide +kernel
theorem dX11_back_32 : decode cX11_back 32 = .ok (.ireturn, 1) := by decide +kernel
set_option maxHeartbeats 4000000 in
set_option maxRecDepth 100000 in
theorem c_X11_back (l : Launch) (D : va_G) (cs : Nat → ClassId) (kK kV : Nat → Nat) (g : Nat → Nat) (rr : Nat → Nat) (p0 : Int32) : Met l yX11_back (hz_w yX11_back cX11_back 3 (some .int)) ({ frames := 0, cells := 0, slots := 0, locals := 0 }) (va_Pc [.ref (g 0), .int p0] (hz_P D cs kK kV [(g 0, .inr (11, [.ref (g 1), .ref (g 2), .ref (g 3), .ref (g 4), .int 0, .ref (g 5), .ref (g 6), .ref (g 7), .ref (g 8), .int 0, .int 0, .ref (g 9), .ref (g 10), .ref (g 11), .ref (g 12), .ref (g 13), .int 0])), (g 10, .inl (cs 6, 4, .inr (.inr (.inr (.inr (fun _ => none))))))])) (va_Qi (fun (r : Int32) (_ : Unit) => r = -1) (fun _ t => True) (fun _ => False)) 0 0 (fun _ => False) := by
  refine Met.ofW (cc := cX11_back) (maxL := 3) (ret := (some .int)) (by decide) rfl ?_
  intro p e s m args below meth c s₁ B hml hv
  obtain ⟨rfl, hP, hE⟩ := hv
  have hx := B.exec
  have hb := B.bytes
  have hr := B.returns
  have hT : ∀ w ∈ TB, w.before _ s = true := fun w h => atoms_spec (ws := hz_w yX11_back cX11_back 3 (some .int)) B.pre w (List.mem_cons_of_mem _ h)
  have hown : s.vm.findClass RX11 = some m.cls := findClass_of_methodNamed B.named
  have hlocks := B.notSynchronized
  clear B
  have hS : va_S (fun _ => False) s.heap s.heap [] := va_S.rf
  have hP : va_P D classes [(g 0, .inr (11, [.ref (g 1), .ref (g 2), .ref (g 3), .ref (g 4), .int 0, .ref (g 5), .ref (g 6), .ref (g 7), .ref (g 8), .int 0, .int 0, .ref (g 9), .ref (g 10), .ref (g 11), .ref (g 12), .ref (g 13), .int 0])), (g 10, .inl (cs 6, 4, .inr (.inr (.inr (.inr (fun _ => none))))))] s.heap := hP
  have hK := hE.1
  have hl := lv_entry ([.ref (g 0), .int p0]) (n := 3) (Nat.le_of_ble_eq_true rfl)
  rw [lg_entry_eq]
  generalize (lg_sl ([.ref (g 0), .int p0]) ++ List.replicate (3 - (lg_sl ([.ref (g 0), .int p0])).length) Slot.unset).toArray = ls at hl ⊢
  have hl : lv_has ls 3 [(0, .ref (g 0)), (1, .int p0)] := hl
  obtain ⟨H, eH⟩ : ∃ z, z = s.heap := ⟨_, rfl⟩
  have hP : va_P D classes [(g 0, .inr (11, [.ref (g 1), .ref (g 2), .ref (g 3), .ref (g 4), .int 0, .ref (g 5), .ref (g 6), .ref (g 7), .ref (g 8), .int 0, .int 0, .ref (g 9), .ref (g 10), .ref (g 11), .ref (g 12), .ref (g 13), .int 0])), (g 10, .inl (cs 6, 4, .inr (.inr (.inr (.inr (fun _ => none))))))] H := by rw [eH]; exact hP
  have hS : va_S (fun _ => False) s.heap H [] := by rw [eH]; exact hS
  rw [← eH]
  clear eH
  refine lv_iload_n hx hb dX11_back_0 rfl (lv_at hl 1 rfl) ?_
  refine lv_if_lt (tgt := 9) hx hb dX11_back_1 (by decide) (fun c_1 => ?_) (fun c_1 => ?_)
  · refine lv_null hx hb dX11_back_9 ?_
    refine lv_goto (tgt := 19) hx hb dX11_back_10 (by decide) ?_
    refine lv_astore_nN (lv' := [(2, .null), (0, .ref (g 0)), (1, .int p0)]) hx hb dX11_back_19 rfl hl (by decide) rfl (fun ls hl => ?_)
    refine lv_aload_nN hx hb dX11_back_20 rfl (lv_at hl 0 rfl) ?_
    refine lv_ifnullN (tgt := 31) hx hb dX11_back_21 (by decide) ?_
    refine lv_iconst (v := -1) hx hb dX11_back_31 (by decide) ?_
    exact W.iret (v := -1) hx hb hr (fun t ht hW => ⟨⟨-1, (), rfl, rfl, trivial⟩, hS.F ht⟩) hS.2.2 dX11_back_32
  · refine lv_iload_n hx hb dX11_back_4 rfl (lv_at hl 1 rfl) ?_
    refine lv_iconst (v := 4) hx hb dX11_back_5 (by decide) ?_
    refine lv_icmp_lt (tgt := 13) hx hb dX11_back_6 (by decide) (fun c_2 => ?_) (fun c_2 => ?_)
    · refine lv_aload_n hx hb dX11_back_13 rfl (lv_at hl 0 rfl) ?_
      refine va_get (D := D) (ci := 11) (v := .ref (g 10)) (C := RX11) (T := TX11) (N := 17) hx hb hT i_X11 hown hK hP 0 rfl rfl 12 (by decide) (hT _ q_214) (fun _ h9 => h9) rfl dX11_back_14 ?_
      refine lv_iload_n hx hb dX11_back_17 rfl (lv_at hl 1 rfl) ?_
      refine va_aldq hx hb hK hP 1 6 rfl rfl (hz_vin4 c_1 c_2) dX11_back_18 ?_
      refine hz_evr .null rfl ?_
      refine lv_astore_nN (lv' := [(2, .null), (0, .ref (g 0)), (1, .int p0)]) hx hb dX11_back_19 rfl hl (by decide) rfl (fun ls hl => ?_)
      refine lv_aload_nN hx hb dX11_back_20 rfl (lv_at hl 0 rfl) ?_
      refine lv_ifnullN (tgt := 31) hx hb dX11_back_21 (by decide) ?_
      refine lv_iconst (v := -1) hx hb dX11_back_31 (by decide) ?_
      exact W.iret (v := -1) hx hb hr (fun t ht hW => ⟨⟨-1, (), rfl, rfl, trivial⟩, hS.F ht⟩) hS.2.2 dX11_back_32
    · refine lv_null hx hb dX11_back_9 ?_
      refine lv_goto (tgt := 19) hx hb dX11_back_10 (by decide) ?_
      refine lv_astore_nN (lv' := [(2, .null), (0, .ref (g 0)), (1, .int p0)]) hx hb dX11_back_19 rfl hl (by decide) rfl (fun ls hl => ?_)
      refine lv_aload_nN hx hb dX11_back_20 rfl (lv_at hl 0 rfl) ?_
      refine lv_ifnullN (tgt := 31) hx hb dX11_back_21 (by decide) ?_
      refine lv_iconst (v := -1) hx hb dX11_back_31 (by decide) ?_
      exact W.iret (v := -1) hx hb hr (fun t ht hW => ⟨⟨-1, (), rfl, rfl, trivial⟩, hS.F ht⟩) hS.2.2 dX11_back_32
