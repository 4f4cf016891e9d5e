theorem dX7_init_0 : decode cX7_init 0 = .ok (.aload_n 0, 1) := by decide +kernel
theorem dX7_init_1 : decode cX7_init 1 = .ok (.invokespecial 3, 3) := by decide +kernel
theorem dX7_init_4 : decode cX7_init 4 = .ok (.aload_n 0, 1) := by decide +kernel
theorem dX7_init_5 : decode cX7_init 5 = .ok (.sipush 400, 3) := by decide +kernel
theorem dX7_init_8 : decode cX7_init 8 = .ok (.newarray .int, 2) := by decide +kernel
theorem dX7_init_10 : decode cX7_init 10 = .ok (.putfield 9, 3) := by decide +kernel
theorem dX7_init_13 : decode cX7_init 13 = .ok (.return_, 1) := by decide +kernel
set_option maxHeartbeats 4000000 in
set_option maxRecDepth 100000 in
theorem c_X7_init (l : Launch) (D : va_G) (cs : Nat → ClassId) (kK kV : Nat → Nat) (h0 : Nat) (sz : Nat) : Met l yX7_init (hz_w yX7_init cX7_init 1 none) ({ frames := 1, cells := 1, slots := 400, locals := 12 }) (va_Pc [.ref h0] (hz_C D cs kK kV sz [(h0, .inr (7, [.null, .int 0, .int 0, .int 0]))])) (va_Qv (fun (_ : Unit) => True) (fun _ t => ∃ (g : Nat → Nat), va_P D classes [(h0, .inr (7, [.ref (g 0), .int 0, .int 0, .int 0])), (g 0, .inl (cs 0, 400, .inl (fun _ => 0)))] t.heap ∧ va_D (va_A [(h0, .inr (7, [.null, .int 0, .int 0, .int 0]))] sz) [(h0, .inr (7, [.ref (g 0), .int 0, .int 0, .int 0])), (g 0, .inl (cs 0, 400, .inl (fun _ => 0)))]) (va_A [(h0, .inr (7, [.null, .int 0, .int 0, .int 0]))] sz)) 1 400 (va_A [(h0, .inr (7, [.null, .int 0, .int 0, .int 0]))] sz) := by
  refine Met.ofW (cc := cX7_init) (maxL := 1) (ret := none) (by decide) rfl ?_
  intro p e s m args below meth c s₁ B hml hv
  obtain ⟨rfl, hsz, hP, hD0, hE⟩ := hv
  have hx := B.exec
  have hb := B.bytes
  have hr := B.returns
  have hT : ∀ w ∈ TB, w.before _ s = true := fun w h => atoms_spec (ws := hz_w yX7_init cX7_init 1 none) B.pre w (List.mem_cons_of_mem _ h)
  have hown : s.vm.findClass RX7 = some m.cls := findClass_of_methodNamed B.named
  have hlocks := B.notSynchronized
  have hin : meth.name = "<init>" := (name_of_methodNamed B.named B.method).1
  clear B
  subst hsz
  have hD := hD0.self (sz := s.heap.size)
  generalize hAe : va_A [(h0, .inr (7, [.null, .int 0, .int 0, .int 0]))] s.heap.size = A at hD hE ⊢
  have hA : ∀ q : Nat, s.heap.size ≤ q → A q := fun q h => by rw [← hAe]; exact Or.inr h
  clear hAe hD0
  have hS : va_S A s.heap s.heap [] := va_S.rf
  have hK := hE.1
  have hl := lv_entry ([.ref h0]) (n := 1) (Nat.le_of_ble_eq_true rfl)
  rw [lg_entry_eq]
  generalize (lg_sl ([.ref h0]) ++ List.replicate (1 - (lg_sl ([.ref h0])).length) Slot.unset).toArray = ls at hl ⊢
  have hl : lv_has ls 1 [(0, .ref h0)] := hl
  obtain ⟨H, eH⟩ : ∃ z, z = s.heap := ⟨_, rfl⟩
  have hP : va_P D classes [(h0, .inr (7, [.null, .int 0, .int 0, .int 0]))] H := by rw [eH]; exact hP
  have hS : va_S A s.heap H [] := by rw [eH]; exact hS
  rw [← eH]
  clear eH
  refine lv_aload_n hx hb dX7_init_0 rfl (lv_at hl 0 rfl) ?_
  refine W.objInit hx hb hown (hT _ q_0) (hT _ q_1) (hT _ q_2) rfl (by rw [hml]; exact hl.1) rfl dX7_init_1 (Nat.le_of_ble_eq_true rfl) (Nat.le_of_ble_eq_true rfl) ?_
  refine W.eq (g2 := F0 m 4 ls []) rfl ?_
  refine lv_aload_n hx hb dX7_init_4 rfl (lv_at hl 0 rfl) ?_
  refine lv_sipush (v := 400) hx hb dX7_init_5 (by decide) ?_
  refine hz_newa (atype := .int) (ty := .int) (N' := 400) (a0 := (400, .inl (fun _ => 0))) hx hb (hT _ q_3) rfl hK hP hD hS hA (fun _ => rfl) (by decide) (by decide) (Nat.le_of_ble_eq_true rfl) (Nat.le_of_ble_eq_true rfl) (Nat.le_of_ble_eq_true rfl) dX7_init_8 0 rfl (fun n_1 H hP hD hS => ?_)
  have hP : va_P D classes [(h0, .inr (7, [.null, .int 0, .int 0, .int 0])), (n_1, .inl (cs 0, 400, .inl (fun _ => 0)))] H := hP
  have hD : va_D A [(h0, .inr (7, [.null, .int 0, .int 0, .int 0])), (n_1, .inl (cs 0, 400, .inl (fun _ => 0)))] := hD
  refine W.widen (k := 1) (n := 400) (Nat.le_of_ble_eq_true rfl) (Nat.le_of_ble_eq_true rfl) ?_
  refine va_putF (D := D) (ci := 7) (v := .ref n_1) (ty := .array .int) (C := RX7) (T := TX7) (N := 4) hx hb hT i_X7 tyX7 tyX7_ok nmX7 hown hK hP hD hS 0 rfl rfl 0 (by decide) (hT _ q_4) (fun _ h9 => h9) rfl hin rfl (by decide +kernel) rfl rfl (Nat.le_of_ble_eq_true rfl) dX7_init_10 (fun H locs hP hD hS => ?_)
  have hP : va_P D classes [(h0, .inr (7, [.ref n_1, .int 0, .int 0, .int 0])), (n_1, .inl (cs 0, 400, .inl (fun _ => 0)))] H := hP
  have hD : va_D A [(h0, .inr (7, [.ref n_1, .int 0, .int 0, .int 0])), (n_1, .inl (cs 0, 400, .inl (fun _ => 0)))] := hD
  exact W.vret hx hb hr (fun t ht hW => ⟨⟨(), rfl, trivial, (fun k => match k with | 0 => n_1 | _ => 0), by rw [ht]; exact hP.sub [0, 1] rfl, hD.sub [0, 1] (by decide) rfl⟩, hS.F ht⟩) hS.2.2 dX7_init_13
theorem dX0_init_0 : decode cX0_init 0 = .ok (.aload_n 0, 1) := by decide +kernel
theorem dX0_init_1 : decode cX0_init 1 = .ok (.invokespecial 3, 3) := by decide +kernel
theorem dX0_init_4 : decode cX0_init 4 = .ok (.return_, 1) := by decide +kernel
set_option maxHeartbeats 4000000 in
set_option maxRecDepth 100000 in
theorem c_X0_init (l : Launch) (D : va_G) (cs : Nat → ClassId) (kK kV : Nat → Nat) (h0 : Nat) (sz : Nat) : Met l yX0_init (hz_w yX0_init cX0_init 1 none) ({ frames := 1, cells := 0, slots := 0, locals := 12 }) (va_Pc [.ref h0] (hz_C D cs kK kV sz [(h0, .inr (0, [.null, .null, .int 0]))])) (va_Qv (fun (_ : Unit) => True) (fun _ t => ∃ (g : Nat → Nat), va_P D classes [(h0, .inr (0, [.null, .null, .int 0]))] t.heap ∧ va_D (va_A [(h0, .inr (0, [.null, .null, .int 0]))] sz) [(h0, .inr (0, [.null, .null, .int 0]))]) (va_A [(h0, .inr (0, [.null, .null, .int 0]))] sz)) 0 0 (va_A [(h0, .inr (0, [.null, .null, .int 0]))] sz) := by
  refine Met.ofW (cc := cX0_init) (maxL := 1) (ret := none) (by decide) rfl ?_
  intro p e s m args below meth c s₁ B hml hv
  obtain ⟨rfl, hsz, hP, hD0, hE⟩ := hv
  have hx := B.exec
  have hb := B.bytes
  have hr := B.returns
  have hT : ∀ w ∈ TB, w.before _ s = true := fun w h => atoms_spec (ws := hz_w yX0_init cX0_init 1 none) B.pre w (List.mem_cons_of_mem _ h)
  have hown : s.vm.findClass RX0 = some m.cls := findClass_of_methodNamed B.named
  have hlocks := B.notSynchronized
  have hin : meth.name = "<init>" := (name_of_methodNamed B.named B.method).1
  clear B
  subst hsz
  have hD := hD0.self (sz := s.heap.size)
  generalize hAe : va_A [(h0, .inr (0, [.null, .null, .int 0]))] s.heap.size = A at hD hE ⊢
  have hA : ∀ q : Nat, s.heap.size ≤ q → A q := fun q h => by rw [← hAe]; exact Or.inr h
  clear hAe hD0
  have hS : va_S A s.heap s.heap [] := va_S.rf
  have hK := hE.1
  have hl := lv_entry ([.ref h0]) (n := 1) (Nat.le_of_ble_eq_true rfl)
  rw [lg_entry_eq]
  generalize (lg_sl ([.ref h0]) ++ List.replicate (1 - (lg_sl ([.ref h0])).length) Slot.unset).toArray = ls at hl ⊢
  have hl : lv_has ls 1 [(0, .ref h0)] := hl
  obtain ⟨H, eH⟩ : ∃ z, z = s.heap := ⟨_, rfl⟩
  have hP : va_P D classes [(h0, .inr (0, [.null, .null, .int 0]))] H := by rw [eH]; exact hP
  have hS : va_S A s.heap H [] := by rw [eH]; exact hS
  rw [← eH]
  clear eH
  refine lv_aload_n hx hb dX0_init_0 rfl (lv_at hl 0 rfl) ?_
  refine W.objInit hx hb hown (hT _ q_5) (hT _ q_1) (hT _ q_2) rfl (by rw [hml]; exact hl.1) rfl dX0_init_1 (Nat.le_of_ble_eq_true rfl) (Nat.le_of_ble_eq_true rfl) ?_
  refine W.eq (g2 := F0 m 4 ls []) rfl ?_
  exact W.vret hx hb hr (fun t ht hW => ⟨⟨(), rfl, trivial, (fun k => match k with  | _ => 0), by rw [ht]; exact hP.sub [0] rfl, hD.sub [0] (by decide) rfl⟩, hS.F ht⟩) hS.2.2 dX0_init_4
theorem dX5_init_0 : decode cX5_init 0 = .ok (.aload_n 0, 1) := by decide +kernel
theorem dX5_init_1 : decode cX5_init 1 = .ok (.invokespecial 3, 3) := by decide +kernel
theorem dX5_init_4 : decode cX5_init 4 = .ok (.aload_n 0, 1) := by decide +kernel
theorem dX5_init_5 : decode cX5_init 5 = .ok (.sipush 400, 3) := by decide +kernel
theorem dX5_init_8 : decode cX5_init 8 = .ok (.newarray .int, 2) := by decide +kernel
theorem dX5_init_10 : decode cX5_init 10 = .ok (.putfield 9, 3) := by decide +kernel
theorem dX5_init_13 : decode cX5_init 13 = .ok (.return_, 1) := by decide +kernel
set_option maxHeartbeats 4000000 in
set_option maxRecDepth 100000 in
theorem c_X5_init (l : Launch) (D : va_G) (cs : Nat → ClassId) (kK kV : Nat → Nat) (h0 : Nat) (sz : Nat) : Met l yX5_init (hz_w yX5_init cX5_init 1 none) ({ frames := 1, cells := 1, slots := 400, locals := 12 }) (va_Pc [.ref h0] (hz_C D cs kK kV sz [(h0, .inr (5, [.null, .null, .int 0, .int 0]))])) (va_Qv (fun (_ : Unit) => True) (fun _ t => ∃ (g : Nat → Nat), va_P D classes [(h0, .inr (5, [.null, .ref (g 0), .int 0, .int 0]))] t.heap ∧ va_D (va_A [(h0, .inr (5, [.null, .null, .int 0, .int 0]))] sz) [(h0, .inr (5, [.null, .ref (g 0), .int 0, .int 0]))]) (va_A [(h0, .inr (5, [.null, .null, .int 0, .int 0]))] sz)) 1 400 (va_A [(h0, .inr (5, [.null, .null, .int 0, .int 0]))] sz) := by
  refine Met.ofW (cc := cX5_init) (maxL := 1) (ret := none) (by decide) rfl ?_
  intro p e s m args below meth c s₁ B hml hv
  obtain ⟨rfl, hsz, hP, hD0, hE⟩ := hv
  have hx := B.exec
  have hb := B.bytes
  have hr := B.returns
  have hT : ∀ w ∈ TB, w.before _ s = true := fun w h => atoms_spec (ws := hz_w yX5_init cX5_init 1 none) B.pre w (List.mem_cons_of_mem _ h)
  have hown : s.vm.findClass RX5 = some m.cls := findClass_of_methodNamed B.named
  have hlocks := B.notSynchronized
  have hin : meth.name = "<init>" := (name_of_methodNamed B.named B.method).1
  clear B
  subst hsz
  have hD := hD0.self (sz := s.heap.size)
  generalize hAe : va_A [(h0, .inr (5, [.null, .null, .int 0, .int 0]))] s.heap.size = A at hD hE ⊢
  have hA : ∀ q : Nat, s.heap.size ≤ q → A q := fun q h => by rw [← hAe]; exact Or.inr h
  clear hAe hD0
  have hS : va_S A s.heap s.heap [] := va_S.rf
  have hK := hE.1
  have hl := lv_entry ([.ref h0]) (n := 1) (Nat.le_of_ble_eq_true rfl)
  rw [lg_entry_eq]
  generalize (lg_sl ([.ref h0]) ++ List.replicate (1 - (lg_sl ([.ref h0])).length) Slot.unset).toArray = ls at hl ⊢
  have hl : lv_has ls 1 [(0, .ref h0)] := hl
  obtain ⟨H, eH⟩ : ∃ z, z = s.heap := ⟨_, rfl⟩
  have hP : va_P D classes [(h0, .inr (5, [.null, .null, .int 0, .int 0]))] H := by rw [eH]; exact hP
  have hS : va_S A s.heap H [] := by rw [eH]; exact hS
  rw [← eH]
  clear eH
  refine lv_aload_n hx hb dX5_init_0 rfl (lv_at hl 0 rfl) ?_
  refine W.objInit hx hb hown (hT _ q_6) (hT _ q_1) (hT _ q_2) rfl (by rw [hml]; exact hl.1) rfl dX5_init_1 (Nat.le_of_ble_eq_true rfl) (Nat.le_of_ble_eq_true rfl) ?_
  refine W.eq (g2 := F0 m 4 ls []) rfl ?_
  refine lv_aload_n hx hb dX5_init_4 rfl (lv_at hl 0 rfl) ?_
  refine lv_sipush (v := 400) hx hb dX5_init_5 (by decide) ?_
  refine hz_newa (atype := .int) (ty := .int) (N' := 400) (a0 := (400, .inl (fun _ => 0))) hx hb (hT _ q_3) rfl hK hP hD hS hA (fun _ => rfl) (by decide) (by decide) (Nat.le_of_ble_eq_true rfl) (Nat.le_of_ble_eq_true rfl) (Nat.le_of_ble_eq_true rfl) dX5_init_8 0 rfl (fun n_1 H hP hD hS => ?_)
  have hP : va_P D classes [(h0, .inr (5, [.null, .null, .int 0, .int 0])), (n_1, .inl (cs 0, 400, .inl (fun _ => 0)))] H := hP
  have hD : va_D A [(h0, .inr (5, [.null, .null, .int 0, .int 0])), (n_1, .inl (cs 0, 400, .inl (fun _ => 0)))] := hD
  refine W.widen (k := 1) (n := 400) (Nat.le_of_ble_eq_true rfl) (Nat.le_of_ble_eq_true rfl) ?_
  refine va_putF (D := D) (ci := 5) (v := .ref n_1) (ty := .array .int) (C := RX5) (T := TX5) (N := 4) hx hb hT i_X5 tyX5 tyX5_ok nmX5 hown hK hP hD hS 0 rfl rfl 1 (by decide) (hT _ q_7) (fun _ h9 => h9) rfl hin rfl (by decide +kernel) rfl rfl (Nat.le_of_ble_eq_true rfl) dX5_init_10 (fun H locs hP hD hS => ?_)
  have hP : va_P D classes [(h0, .inr (5, [.null, .ref n_1, .int 0, .int 0])), (n_1, .inl (cs 0, 400, .inl (fun _ => 0)))] H := hP
  have hD : va_D A [(h0, .inr (5, [.null, .ref n_1, .int 0, .int 0])), (n_1, .inl (cs 0, 400, .inl (fun _ => 0)))] := hD
  exact W.vret hx hb hr (fun t ht hW => ⟨⟨(), rfl, trivial, (fun k => match k with | 0 => n_1 | _ => 0), by rw [ht]; exact hP.sub [0] rfl, hD.sub [0] (by decide) rfl⟩, hS.F ht⟩) hS.2.2 dX5_init_13
theorem dX8_init_0 : decode cX8_init 0 = .ok (.aload_n 0, 1) := by decide +kernel
theorem dX8_init_1 : decode cX8_init 1 = .ok (.invokespecial 3, 3) := by decide +kernel
theorem dX8_init_4 : decode cX8_init 4 = .ok (.aload_n 0, 1) := by decide +kernel
theorem dX8_init_5 : decode cX8_init 5 = .ok (.bipush 12, 2) := by decide +kernel
theorem dX8_init_7 : decode cX8_init 7 = .ok (.putfield 9, 3) := by decide +kernel
theorem dX8_init_10 : decode cX8_init 10 = .ok (.aload_n 0, 1) := by decide +kernel
theorem dX8_init_11 : decode cX8_init 11 = .ok (.iconst 5, 1) := by decide +kernel
theorem dX8_init_12 : decode cX8_init 12 = .ok (.putfield 15, 3) := by decide +kernel
theorem dX8_init_15 : decode cX8_init 15 = .ok (.aload_n 0, 1) := by decide +kernel
theorem dX8_init_16 : decode cX8_init 16 = .ok (.iconst 1, 1) := by decide +kernel
theorem dX8_init_17 : decode cX8_init 17 = .ok (.putfield 18, 3) := by decide +kernel
theorem dX8_init_20 : decode cX8_init 20 = .ok (.aload_n 0, 1) := by decide +kernel
theorem dX8_init_21 : decode cX8_init 21 = .ok (.bipush 12, 2) := by decide +kernel
theorem dX8_init_23 : decode cX8_init 23 = .ok (.newarray .int, 2) := by decide +kernel
theorem dX8_init_25 : decode cX8_init 25 = .ok (.putfield 21, 3) := by decide +kernel
theorem dX8_init_28 : decode cX8_init 28 = .ok (.aload_n 0, 1) := by decide +kernel
theorem dX8_init_29 : decode cX8_init 29 = .ok (.bipush 12, 2) := by decide +kernel
theorem dX8_init_31 : decode cX8_init 31 = .ok (.newarray .int, 2) := by decide +kernel
theorem dX8_init_33 : decode cX8_init 33 = .ok (.putfield 25, 3) := by decide +kernel
theorem dX8_init_36 : decode cX8_init 36 = .ok (.aload_n 0, 1) := by decide +kernel
theorem dX8_init_37 : decode cX8_init 37 = .ok (.bipush 12, 2) := by decide +kernel
theorem dX8_init_39 : decode cX8_init 39 = .ok (.newarray .int, 2) := by decide +kernel
theorem dX8_init_41 : decode cX8_init 41 = .ok (.putfield 28, 3) := by decide +kernel
theorem dX8_init_44 : decode cX8_init 44 = .ok (.aload_n 0, 1) := by decide +kernel
theorem dX8_init_45 : decode cX8_init 45 = .ok (.bipush 12, 2) := by decide +kernel
theorem dX8_init_47 : decode cX8_init 47 = .ok (.newarray .int, 2) := by decide +kernel
theorem dX8_init_49 : decode cX8_init 49 = .ok (.putfield 31, 3) := by decide +kernel
theorem dX8_init_52 : decode cX8_init 52 = .ok (.aload_n 0, 1) := by decide +kernel
theorem dX8_init_53 : decode cX8_init 53 = .ok (.iconst 4, 1) := by decide +kernel
theorem dX8_init_54 : decode cX8_init 54 = .ok (.newarray .int, 2) := by decide +kernel
theorem dX8_init_56 : decode cX8_init 56 = .ok (.putfield 34, 3) := by decide +kernel
theorem dX8_init_59 : decode cX8_init 59 = .ok (.aload_n 0, 1) := by decide +kernel
theorem dX8_init_60 : decode cX8_init 60 = .ok (.iconst 4, 1) := by decide +kernel
theorem dX8_init_61 : decode cX8_init 61 = .ok (.newarray .int, 2) := by decide +kernel
theorem dX8_init_63 : decode cX8_init 63 = .ok (.putfield 37, 3) := by decide +kernel
theorem dX8_init_66 : decode cX8_init 66 = .ok (.aload_n 0, 1) := by decide +kernel
theorem dX8_init_67 : decode cX8_init 67 = .ok (.iconst 4, 1) := by decide +kernel
theorem dX8_init_68 : decode cX8_init 68 = .ok (.newarray .int, 2) := by decide +kernel
theorem dX8_init_70 : decode cX8_init 70 = .ok (.putfield 40, 3) := by decide +kernel
theorem dX8_init_73 : decode cX8_init 73 = .ok (.aload_n 0, 1) := by decide +kernel
theorem dX8_init_74 : decode cX8_init 74 = .ok (.bipush 12, 2) := by decide +kernel
theorem dX8_init_76 : decode cX8_init 76 = .ok (.newarray .int, 2) := by decide +kernel
theorem dX8_init_78 : decode cX8_init 78 = .ok (.putfield 43, 3) := by decide +kernel
theorem dX8_init_81 : decode cX8_init 81 = .ok (.aload_n 0, 1) := by decide +kernel
theorem dX8_init_82 : decode cX8_init 82 = .ok (.bipush 12, 2) := by decide +kernel
theorem dX8_init_84 : decode cX8_init 84 = .ok (.newarray .int, 2) := by decide +kernel
theorem dX8_init_86 : decode cX8_init 86 = .ok (.putfield 46, 3) := by decide +kernel
theorem dX8_init_89 : decode cX8_init 89 = .ok (.return_, 1) := by decide +kernel
set_option maxHeartbeats 4000000 in
set_option maxRecDepth 100000 in
theorem c_X8_init (l : Launch) (D : va_G) (cs : Nat → ClassId) (kK kV : Nat → Nat) (h0 : Nat) (sz : Nat) : Met l yX8_init (hz_w yX8_init cX8_init 1 none) ({ frames := 1, cells := 9, slots := 84, locals := 12 }) (va_Pc [.ref h0] (hz_C D cs kK kV sz [(h0, .inr (8, [.int 0, .int 0, .int 0, .int 0, .int 0, .int 0, .int 0, .int 0, .int 0, .null, .null, .null, .null, .null, .null, .null, .null, .null]))])) (va_Qv (fun (_ : Unit) => True) (fun _ t => ∃ (g : Nat → Nat), va_P D classes [(h0, .inr (8, [.int 0, .int 0, .int 0, .int 0, .int 0, .int 12, .int 5, .int 1, .int 0, .ref (g 0), .ref (g 1), .ref (g 2), .ref (g 3), .ref (g 4), .ref (g 5), .ref (g 6), .ref (g 7), .ref (g 8)]))] t.heap ∧ va_D (va_A [(h0, .inr (8, [.int 0, .int 0, .int 0, .int 0, .int 0, .int 0, .int 0, .int 0, .int 0, .null, .null, .null, .null, .null, .null, .null, .null, .null]))] sz) [(h0, .inr (8, [.int 0, .int 0, .int 0, .int 0, .int 0, .int 12, .int 5, .int 1, .int 0, .ref (g 0), .ref (g 1), .ref (g 2), .ref (g 3), .ref (g 4), .ref (g 5), .ref (g 6), .ref (g 7), .ref (g 8)]))]) (va_A [(h0, .inr (8, [.int 0, .int 0, .int 0, .int 0, .int 0, .int 0, .int 0, .int 0, .int 0, .null, .null, .null, .null, .null, .null, .null, .null, .null]))] sz)) 9 84 (va_A [(h0, .inr (8, [.int 0, .int 0, .int 0, .int 0, .int 0, .int 0, .int 0, .int 0, .int 0, .null, .null, .null, .null, .null, .null, .null, .null, .null]))] sz) := by
  refine Met.ofW (cc := cX8_init) (maxL := 1) (ret := none) (by decide) rfl ?_
  intro p e s m args below meth c s₁ B hml hv
  obtain ⟨rfl, hsz, hP, hD0, hE⟩ := hv
  have hx := B.exec
  have hb := B.bytes
  have hr := B.returns
  have hT : ∀ w ∈ TB, w.before _ s = true := fun w h => atoms_spec (ws := hz_w yX8_init cX8_init 1 none) B.pre w (List.mem_cons_of_mem _ h)
  have hown : s.vm.findClass RX8 = some m.cls := findClass_of_methodNamed B.named
  have hlocks := B.notSynchronized
  have hin : meth.name = "<init>" := (name_of_methodNamed B.named B.method).1
  clear B
  subst hsz
  have hD := hD0.self (sz := s.heap.size)
  generalize hAe : va_A [(h0, .inr (8, [.int 0, .int 0, .int 0, .int 0, .int 0, .int 0, .int 0, .int 0, .int 0, .null, .null, .null, .null, .null, .null, .null, .null, .null]))] s.heap.size = A at hD hE ⊢
  have hA : ∀ q : Nat, s.heap.size ≤ q → A q := fun q h => by rw [← hAe]; exact Or.inr h
  clear hAe hD0
  have hS : va_S A s.heap s.heap [] := va_S.rf
  have hK := hE.1
  have hl := lv_entry ([.ref h0]) (n := 1) (Nat.le_of_ble_eq_true rfl)
  rw [lg_entry_eq]
  generalize (lg_sl ([.ref h0]) ++ List.replicate (1 - (lg_sl ([.ref h0])).length) Slot.unset).toArray = ls at hl ⊢
  have hl : lv_has ls 1 [(0, .ref h0)] := hl
  obtain ⟨H, eH⟩ : ∃ z, z = s.heap := ⟨_, rfl⟩
  have hP : va_P D classes [(h0, .inr (8, [.int 0, .int 0, .int 0, .int 0, .int 0, .int 0, .int 0, .int 0, .int 0, .null, .null, .null, .null, .null, .null, .null, .null, .null]))] H := by rw [eH]; exact hP
  have hS : va_S A s.heap H [] := by rw [eH]; exact hS
  rw [← eH]
  clear eH
  refine lv_aload_n hx hb dX8_init_0 rfl (lv_at hl 0 rfl) ?_
  refine W.objInit hx hb hown (hT _ q_8) (hT _ q_1) (hT _ q_2) rfl (by rw [hml]; exact hl.1) rfl dX8_init_1 (Nat.le_of_ble_eq_true rfl) (Nat.le_of_ble_eq_true rfl) ?_
  refine W.eq (g2 := F0 m 4 ls []) rfl ?_
  refine lv_aload_n hx hb dX8_init_4 rfl (lv_at hl 0 rfl) ?_
  refine lv_bipush (v := 12) hx hb dX8_init_5 (by decide) ?_
  refine va_put (D := D) (ci := 8) (v := .int 12) (ty := .int) (C := RX8) (T := TX8) (N := 18) hx hb hT i_X8 tyX8 tyX8_ok nmX8 hown hK hP hD hS 0 rfl rfl 5 (by decide) (hT _ q_9) (fun _ h9 => h9) rfl (by decide +kernel) rfl rfl (Nat.le_of_ble_eq_true rfl) dX8_init_7 (fun H locs hP hD hS => ?_)
  have hP : va_P D classes [(h0, .inr (8, [.int 0, .int 0, .int 0, .int 0, .int 0, .int 12, .int 0, .int 0, .int 0, .null, .null, .null, .null, .null, .null, .null, .null, .null]))] H := hP
  have hD : va_D A [(h0, .inr (8, [.int 0, .int 0, .int 0, .int 0, .int 0, .int 12, .int 0, .int 0, .int 0, .null, .null, .null, .null, .null, .null, .null, .null, .null]))] := hD
  refine lv_aload_n hx hb dX8_init_10 rfl (lv_at hl 0 rfl) ?_
  refine lv_iconst (v := 5) hx hb dX8_init_11 (by decide) ?_
  refine va_put (D := D) (ci := 8) (v := .int 5) (ty := .int) (C := RX8) (T := TX8) (N := 18) hx hb hT i_X8 tyX8 tyX8_ok nmX8 hown hK hP hD hS 0 rfl rfl 6 (by decide) (hT _ q_10) (fun _ h9 => h9) rfl (by decide +kernel) rfl rfl (Nat.le_of_ble_eq_true rfl) dX8_init_12 (fun H locs hP hD hS => ?_)
  have hP : va_P D classes [(h0, .inr (8, [.int 0, .int 0, .int 0, .int 0, .int 0, .int 12, .int 5, .int 0, .int 0, .null, .null, .null, .null, .null, .null, .null, .null, .null]))] H := hP
  have hD : va_D A [(h0, .inr (8, [.int 0, .int 0, .int 0, .int 0, .int 0, .int 12, .int 5, .int 0, .int 0, .null, .null, .null, .null, .null, .null, .null, .null, .null]))] := hD
  refine lv_aload_n hx hb dX8_init_15 rfl (lv_at hl 0 rfl) ?_
  refine lv_iconst (v := 1) hx hb dX8_init_16 (by decide) ?_
  refine va_put (D := D) (ci := 8) (v := .int 1) (ty := .int) (C := RX8) (T := TX8) (N := 18) hx hb hT i_X8 tyX8 tyX8_ok nmX8 hown hK hP hD hS 0 rfl rfl 7 (by decide) (hT _ q_11) (fun _ h9 => h9) rfl (by decide +kernel) rfl rfl (Nat.le_of_ble_eq_true rfl) dX8_init_17 (fun H locs hP hD hS => ?_)
  have hP : va_P D classes [(h0, .inr (8, [.int 0, .int 0, .int 0, .int 0, .int 0, .int 12, .int 5, .int 1, .int 0, .null, .null, .null, .null, .null, .null, .null, .null, .null]))] H := hP
  have hD : va_D A [(h0, .inr (8, [.int 0, .int 0, .int 0, .int 0, .int 0, .int 12, .int 5, .int 1, .int 0, .null, .null, .null, .null, .null, .null, .null, .null, .null]))] := hD
  refine lv_aload_n hx hb dX8_init_20 rfl (lv_at hl 0 rfl) ?_
  refine lv_bipush (v := 12) hx hb dX8_init_21 (by decide) ?_
  refine hz_newa (atype := .int) (ty := .int) (N' := 12) (a0 := (12, .inl (fun _ => 0))) hx hb (hT _ q_3) rfl hK hP hD hS hA (fun _ => rfl) (by decide) (by decide) (Nat.le_of_ble_eq_true rfl) (Nat.le_of_ble_eq_true rfl) (Nat.le_of_ble_eq_true rfl) dX8_init_23 0 rfl (fun n_1 H hP hD hS => ?_)
  have hP : va_P D classes [(h0, .inr (8, [.int 0, .int 0, .int 0, .int 0, .int 0, .int 12, .int 5, .int 1, .int 0, .null, .null, .null, .null, .null, .null, .null, .null, .null])), (n_1, .inl (cs 0, 12, .inl (fun _ => 0)))] H := hP
  have hD : va_D A [(h0, .inr (8, [.int 0, .int 0, .int 0, .int 0, .int 0, .int 12, .int 5, .int 1, .int 0, .null, .null, .null, .null, .null, .null, .null, .null, .null])), (n_1, .inl (cs 0, 12, .inl (fun _ => 0)))] := hD
  refine W.widen (k := 1) (n := 12) (Nat.le_of_ble_eq_true rfl) (Nat.le_of_ble_eq_true rfl) ?_
  refine va_putF (D := D) (ci := 8) (v := .ref n_1) (ty := .array .int) (C := RX8) (T := TX8) (N := 18) hx hb hT i_X8 tyX8 tyX8_ok nmX8 hown hK hP hD hS 0 rfl rfl 9 (by decide) (hT _ q_12) (fun _ h9 => h9) rfl hin rfl (by decide +kernel) rfl rfl (Nat.le_of_ble_eq_true rfl) dX8_init_25 (fun H locs hP hD hS => ?_)
  have hP : va_P D classes [(h0, .inr (8, [.int 0, .int 0, .int 0, .int 0, .int 0, .int 12, .int 5, .int 1, .int 0, .ref n_1, .null, .null, .null, .null, .null, .null, .null, .null])), (n_1, .inl (cs 0, 12, .inl (fun _ => 0)))] H := hP
  have hD : va_D A [(h0, .inr (8, [.int 0, .int 0, .int 0, .int 0, .int 0, .int 12, .int 5, .int 1, .int 0, .ref n_1, .null, .null, .null, .null, .null, .null, .null, .null])), (n_1, .inl (cs 0, 12, .inl (fun _ => 0)))] := hD
  refine lv_aload_n hx hb dX8_init_28 rfl (lv_at hl 0 rfl) ?_
  refine lv_bipush (v := 12) hx hb dX8_init_29 (by decide) ?_
  refine hz_newa (atype := .int) (ty := .int) (N' := 12) (a0 := (12, .inl (fun _ => 0))) hx hb (hT _ q_3) rfl hK hP hD hS hA (fun _ => rfl) (by decide) (by decide) (Nat.le_of_ble_eq_true rfl) (Nat.le_of_ble_eq_true rfl) (Nat.le_of_ble_eq_true rfl) dX8_init_31 0 rfl (fun n_2 H hP hD hS => ?_)
  have hP : va_P D classes [(h0, .inr (8, [.int 0, .int 0, .int 0, .int 0, .int 0, .int 12, .int 5, .int 1, .int 0, .ref n_1, .null, .null, .null, .null, .null, .null, .null, .null])), (n_1, .inl (cs 0, 12, .inl (fun _ => 0))), (n_2, .inl (cs 0, 12, .inl (fun _ => 0)))] H := hP
  have hD : va_D A [(h0, .inr (8, [.int 0, .int 0, .int 0, .int 0, .int 0, .int 12, .int 5, .int 1, .int 0, .ref n_1, .null, .null, .null, .null, .null, .null, .null, .null])), (n_1, .inl (cs 0, 12, .inl (fun _ => 0))), (n_2, .inl (cs 0, 12, .inl (fun _ => 0)))] := hD
  refine W.widen (k := 2) (n := 24) (Nat.le_of_ble_eq_true rfl) (Nat.le_of_ble_eq_true rfl) ?_
  refine va_putF (D := D) (ci := 8) (v := .ref n_2) (ty := .array .int) (C := RX8) (T := TX8) (N := 18) hx hb hT i_X8 tyX8 tyX8_ok nmX8 hown hK hP hD hS 0 rfl rfl 10 (by decide) (hT _ q_13) (fun _ h9 => h9) rfl hin rfl (by decide +kernel) rfl rfl (Nat.le_of_ble_eq_true rfl) dX8_init_33 (fun H locs hP hD hS => ?_)
  have hP : va_P D classes [(h0, .inr (8, [.int 0, .int 0, .int 0, .int 0, .int 0, .int 12, .int 5, .int 1, .int 0, .ref n_1, .ref n_2, .null, .null, .null, .null, .null, .null, .null])), (n_1, .inl (cs 0, 12, .inl (fun _ => 0))), (n_2, .inl (cs 0, 12, .inl (fun _ => 0)))] H := hP
  have hD : va_D A [(h0, .inr (8, [.int 0, .int 0, .int 0, .int 0, .int 0, .int 12, .int 5, .int 1, .int 0, .ref n_1, .ref n_2, .null, .null, .null, .null, .null, .null, .null])), (n_1, .inl (cs 0, 12, .inl (fun _ => 0))), (n_2, .inl (cs 0, 12, .inl (fun _ => 0)))] := hD
  refine lv_aload_n hx hb dX8_init_36 rfl (lv_at hl 0 rfl) ?_
  refine lv_bipush (v := 12) hx hb dX8_init_37 (by decide) ?_
  refine hz_newa (atype := .int) (ty := .int) (N' := 12) (a0 := (12, .inl (fun _ => 0))) hx hb (hT _ q_3) rfl hK hP hD hS hA (fun _ => rfl) (by decide) (by decide) (Nat.le_of_ble_eq_true rfl) (Nat.le_of_ble_eq_true rfl) (Nat.le_of_ble_eq_true rfl) dX8_init_39 0 rfl (fun n_3 H hP hD hS => ?_)
  have hP : va_P D classes [(h0, .inr (8, [.int 0, .int 0, .int 0, .int 0, .int 0, .int 12, .int 5, .int 1, .int 0, .ref n_1, .ref n_2, .null, .null, .null, .null, .null, .null, .null])), (n_1, .inl (cs 0, 12, .inl (fun _ => 0))), (n_2, .inl (cs 0, 12, .inl (fun _ => 0))), (n_3, .inl (cs 0, 12, .inl (fun _ => 0)))] H := hP
  have hD : va_D A [(h0, .inr (8, [.int 0, .int 0, .int 0, .int 0, .int 0, .int 12, .int 5, .int 1, .int 0, .ref n_1, .ref n_2, .null, .null, .null, .null, .null, .null, .null])), (n_1, .inl (cs 0, 12, .inl (fun _ => 0))), (n_2, .inl (cs 0, 12, .inl (fun _ => 0))), (n_3, .inl (cs 0, 12, .inl (fun _ => 0)))] := hD
  refine W.widen (k := 3) (n := 36) (Nat.le_of_ble_eq_true rfl) (Nat.le_of_ble_eq_true rfl) ?_
  refine va_putF (D := D) (ci := 8) (v := .ref n_3) (ty := .array .int) (C := RX8) (T := TX8) (N := 18) hx hb hT i_X8 tyX8 tyX8_ok nmX8 hown hK hP hD hS 0 rfl rfl 11 (by decide) (hT _ q_14) (fun _ h9 => h9) rfl hin rfl (by decide +kernel) rfl rfl (Nat.le_of_ble_eq_true rfl) dX8_init_41 (fun H locs hP hD hS => ?_)
  have hP : va_P D classes [(h0, .inr (8, [.int 0, .int 0, .int 0, .int 0, .int 0, .int 12, .int 5, .int 1, .int 0, .ref n_1, .ref n_2, .ref n_3, .null, .null, .null, .null, .null, .null])), (n_1, .inl (cs 0, 12, .inl (fun _ => 0))), (n_2, .inl (cs 0, 12, .inl (fun _ => 0))), (n_3, .inl (cs 0, 12, .inl (fun _ => 0)))] H := hP
  have hD : va_D A [(h0, .inr (8, [.int 0, .int 0, .int 0, .int 0, .int 0, .int 12, .int 5, .int 1, .int 0, .ref n_1, .ref n_2, .ref n_3, .null, .null, .null, .null, .null, .null])), (n_1, .inl (cs 0, 12, .inl (fun _ => 0))), (n_2, .inl (cs 0, 12, .inl (fun _ => 0))), (n_3, .inl (cs 0, 12, .inl (fun _ => 0)))] := hD
  refine lv_aload_n hx hb dX8_init_44 rfl (lv_at hl 0 rfl) ?_
  refine lv_bipush (v := 12) hx hb dX8_init_45 (by decide) ?_
  refine hz_newa (atype := .int) (ty := .int) (N' := 12) (a0 := (12, .inl (fun _ => 0))) hx hb (hT _ q_3) rfl hK hP hD hS hA (fun _ => rfl) (by decide) (by decide) (Nat.le_of_ble_eq_true rfl) (Nat.le_of_ble_eq_true rfl) (Nat.le_of_ble_eq_true rfl) dX8_init_47 0 rfl (fun n_4 H hP hD hS => ?_)
  have hP : va_P D classes [(h0, .inr (8, [.int 0, .int 0, .int 0, .int 0, .int 0, .int 12, .int 5, .int 1, .int 0, .ref n_1, .ref n_2, .ref n_3, .null, .null, .null, .null, .null, .null])), (n_1, .inl (cs 0, 12, .inl (fun _ => 0))), (n_2, .inl (cs 0, 12, .inl (fun _ => 0))), (n_3, .inl (cs 0, 12, .inl (fun _ => 0))), (n_4, .inl (cs 0, 12, .inl (fun _ => 0)))] H := hP
  have hD : va_D A [(h0, .inr (8, [.int 0, .int 0, .int 0, .int 0, .int 0, .int 12, .int 5, .int 1, .int 0, .ref n_1, .ref n_2, .ref n_3, .null, .null, .null, .null, .null, .null])), (n_1, .inl (cs 0, 12, .inl (fun _ => 0))), (n_2, .inl (cs 0, 12, .inl (fun _ => 0))), (n_3, .inl (cs 0, 12, .inl (fun _ => 0))), (n_4, .inl (cs 0, 12, .inl (fun _ => 0)))] := hD
  refine W.widen (k := 4) (n := 48) (Nat.le_of_ble_eq_true rfl) (Nat.le_of_ble_eq_true rfl) ?_
  refine va_putF (D := D) (ci := 8) (v := .ref n_4) (ty := .array .int) (C := RX8) (T := TX8) (N := 18) hx hb hT i_X8 tyX8 tyX8_ok nmX8 hown hK hP hD hS 0 rfl rfl 12 (by decide) (hT _ q_15) (fun _ h9 => h9) rfl hin rfl (by decide +kernel) rfl rfl (Nat.le_of_ble_eq_true rfl) dX8_init_49 (fun H locs hP hD hS => ?_)
  have hP : va_P D classes [(h0, .inr (8, [.int 0, .int 0, .int 0, .int 0, .int 0, .int 12, .int 5, .int 1, .int 0, .ref n_1, .ref n_2, .ref n_3, .ref n_4, .null, .null, .null, .null, .null])), (n_1, .inl (cs 0, 12, .inl (fun _ => 0))), (n_2, .inl (cs 0, 12, .inl (fun _ => 0))), (n_3, .inl (cs 0, 12, .inl (fun _ => 0))), (n_4, .inl (cs 0, 12, .inl (fun _ => 0)))] H := hP
  have hD : va_D A [(h0, .inr (8, [.int 0, .int 0, .int 0, .int 0, .int 0, .int 12, .int 5, .int 1, .int 0, .ref n_1, .ref n_2, .ref n_3, .ref n_4, .null, .null, .null, .null, .null])), (n_1, .inl (cs 0, 12, .inl (fun _ => 0))), (n_2, .inl (cs 0, 12, .inl (fun _ => 0))), (n_3, .inl (cs 0, 12, .inl (fun _ => 0))), (n_4, .inl (cs 0, 12, .inl (fun _ => 0)))] := hD
  refine lv_aload_n hx hb dX8_init_52 rfl (lv_at hl 0 rfl) ?_
  refine lv_iconst (v := 4) hx hb dX8_init_53 (by decide) ?_
  refine hz_newa (atype := .int) (ty := .int) (N' := 4) (a0 := (4, .inl (fun _ => 0))) hx hb (hT _ q_3) rfl hK hP hD hS hA (fun _ => rfl) (by decide) (by decide) (Nat.le_of_ble_eq_true rfl) (Nat.le_of_ble_eq_true rfl) (Nat.le_of_ble_eq_true rfl) dX8_init_54 0 rfl (fun n_5 H hP hD hS => ?_)
  have hP : va_P D classes [(h0, .inr (8, [.int 0, .int 0, .int 0, .int 0, .int 0, .int 12, .int 5, .int 1, .int 0, .ref n_1, .ref n_2, .ref n_3, .ref n_4, .null, .null, .null, .null, .null])), (n_1, .inl (cs 0, 12, .inl (fun _ => 0))), (n_2, .inl (cs 0, 12, .inl (fun _ => 0))), (n_3, .inl (cs 0, 12, .inl (fun _ => 0))), (n_4, .inl (cs 0, 12, .inl (fun _ => 0))), (n_5, .inl (cs 0, 4, .inl (fun _ => 0)))] H := hP
  have hD : va_D A [(h0, .inr (8, [.int 0, .int 0, .int 0, .int 0, .int 0, .int 12, .int 5, .int 1, .int 0, .ref n_1, .ref n_2, .ref n_3, .ref n_4, .null, .null, .null, .null, .null])), (n_1, .inl (cs 0, 12, .inl (fun _ => 0))), (n_2, .inl (cs 0, 12, .inl (fun _ => 0))), (n_3, .inl (cs 0, 12, .inl (fun _ => 0))), (n_4, .inl (cs 0, 12, .inl (fun _ => 0))), (n_5, .inl (cs 0, 4, .inl (fun _ => 0)))] := hD
  refine W.widen (k := 5) (n := 52) (Nat.le_of_ble_eq_true rfl) (Nat.le_of_ble_eq_true rfl) ?_
  refine va_putF (D := D) (ci := 8) (v := .ref n_5) (ty := .array .int) (C := RX8) (T := TX8) (N := 18) hx hb hT i_X8 tyX8 tyX8_ok nmX8 hown hK hP hD hS 0 rfl rfl 13 (by decide) (hT _ q_16) (fun _ h9 => h9) rfl hin rfl (by decide +kernel) rfl rfl (Nat.le_of_ble_eq_true rfl) dX8_init_56 (fun H locs hP hD hS => ?_)
  have hP : va_P D classes [(h0, .inr (8, [.int 0, .int 0, .int 0, .int 0, .int 0, .int 12, .int 5, .int 1, .int 0, .ref n_1, .ref n_2, .ref n_3, .ref n_4, .ref n_5, .null, .null, .null, .null])), (n_1, .inl (cs 0, 12, .inl (fun _ => 0))), (n_2, .inl (cs 0, 12, .inl (fun _ => 0))), (n_3, .inl (cs 0, 12, .inl (fun _ => 0))), (n_4, .inl (cs 0, 12, .inl (fun _ => 0))), (n_5, .inl (cs 0, 4, .inl (fun _ => 0)))] H := hP
  have hD : va_D A [(h0, .inr (8, [.int 0, .int 0, .int 0, .int 0, .int 0, .int 12, .int 5, .int 1, .int 0, .ref n_1, .ref n_2, .ref n_3, .ref n_4, .ref n_5, .null, .null, .null, .null])), (n_1, .inl (cs 0, 12, .inl (fun _ => 0))), (n_2, .inl (cs 0, 12, .inl (fun _ => 0))), (n_3, .inl (cs 0, 12, .inl (fun _ => 0))), (n_4, .inl (cs 0, 12, .inl (fun _ => 0))), (n_5, .inl (cs 0, 4, .inl (fun _ => 0)))] := hD
  refine lv_aload_n hx hb dX8_init_59 rfl (lv_at hl 0 rfl) ?_
  refine lv_iconst (v := 4) hx hb dX8_init_60 (by decide) ?_
  refine hz_newa (atype := .int) (ty := .int) (N' := 4) (a0 := (4, .inl (fun _ => 0))) hx hb (hT _ q_3) rfl hK hP hD hS hA (fun _ => rfl) (by decide) (by decide) (Nat.le_of_ble_eq_true rfl) (Nat.le_of_ble_eq_true rfl) (Nat.le_of_ble_eq_true rfl) dX8_init_61 0 rfl (fun n_6 H hP hD hS => ?_)
  have hP : va_P D classes [(h0, .inr (8, [.int 0, .int 0, .int 0, .int 0, .int 0, .int 12, .int 5, .int 1, .int 0, .ref n_1, .ref n_2, .ref n_3, .ref n_4, .ref n_5, .null, .null, .null, .null])), (n_1, .inl (cs 0, 12, .inl (fun _ => 0))), (n_2, .inl (cs 0, 12, .inl (fun _ => 0))), (n_3, .inl (cs 0, 12, .inl (fun _ => 0))), (n_4, .inl (cs 0, 12, .inl (fun _ => 0))), (n_5, .inl (cs 0, 4, .inl (fun _ => 0))), (n_6, .inl (cs 0, 4, .inl (fun _ => 0)))] H := hP
  have hD : va_D A [(h0, .inr (8, [.int 0, .int 0, .int 0, .int 0, .int 0, .int 12, .int 5, .int 1, .int 0, .ref n_1, .ref n_2, .ref n_3, .ref n_4, .ref n_5, .null, .null, .null, .null])), (n_1, .inl (cs 0, 12, .inl (fun _ => 0))), (n_2, .inl (cs 0, 12, .inl (fun _ => 0))), (n_3, .inl (cs 0, 12, .inl (fun _ => 0))), (n_4, .inl (cs 0, 12, .inl (fun _ => 0))), (n_5, .inl (cs 0, 4, .inl (fun _ => 0))), (n_6, .inl (cs 0, 4, .inl (fun _ => 0)))] := hD
  refine W.widen (k := 6) (n := 56) (Nat.le_of_ble_eq_true rfl) (Nat.le_of_ble_eq_true rfl) ?_
  refine va_putF (D := D) (ci := 8) (v := .ref n_6) (ty := .array .int) (C := RX8) (T := TX8) (N := 18) hx hb hT i_X8 tyX8 tyX8_ok nmX8 hown hK hP hD hS 0 rfl rfl 14 (by decide) (hT _ q_17) (fun _ h9 => h9) rfl hin rfl (by decide +kernel) rfl rfl (Nat.le_of_ble_eq_true rfl) dX8_init_63 (fun H locs hP hD hS => ?_)
  have hP : va_P D classes [(h0, .inr (8, [.int 0, .int 0, .int 0, .int 0, .int 0, .int 12, .int 5, .int 1, .int 0, .ref n_1, .ref n_2, .ref n_3, .ref n_4, .ref n_5, .ref n_6, .null, .null, .null])), (n_1, .inl (cs 0, 12, .inl (fun _ => 0))), (n_2, .inl (cs 0, 12, .inl (fun _ => 0))), (n_3, .inl (cs 0, 12, .inl (fun _ => 0))), (n_4, .inl (cs 0, 12, .inl (fun _ => 0))), (n_5, .inl (cs 0, 4, .inl (fun _ => 0))), (n_6, .inl (cs 0, 4, .inl (fun _ => 0)))] H := hP
  have hD : va_D A [(h0, .inr (8, [.int 0, .int 0, .int 0, .int 0, .int 0, .int 12, .int 5, .int 1, .int 0, .ref n_1, .ref n_2, .ref n_3, .ref n_4, .ref n_5, .ref n_6, .null, .null, .null])), (n_1, .inl (cs 0, 12, .inl (fun _ => 0))), (n_2, .inl (cs 0, 12, .inl (fun _ => 0))), (n_3, .inl (cs 0, 12, .inl (fun _ => 0))), (n_4, .inl (cs 0, 12, .inl (fun _ => 0))), (n_5, .inl (cs 0, 4, .inl (fun _ => 0))), (n_6, .inl (cs 0, 4, .inl (fun _ => 0)))] := hD
  refine lv_aload_n hx hb dX8_init_66 rfl (lv_at hl 0 rfl) ?_
  refine lv_iconst (v := 4) hx hb dX8_init_67 (by decide) ?_
  refine hz_newa (atype := .int) (ty := .int) (N' := 4) (a0 := (4, .inl (fun _ => 0))) hx hb (hT _ q_3) rfl hK hP hD hS hA (fun _ => rfl) (by decide) (by decide) (Nat.le_of_ble_eq_true rfl) (Nat.le_of_ble_eq_true rfl) (Nat.le_of_ble_eq_true rfl) dX8_init_68 0 rfl (fun n_7 H hP hD hS => ?_)
  have hP : va_P D classes [(h0, .inr (8, [.int 0, .int 0, .int 0, .int 0, .int 0, .int 12, .int 5, .int 1, .int 0, .ref n_1, .ref n_2, .ref n_3, .ref n_4, .ref n_5, .ref n_6, .null, .null, .null])), (n_1, .inl (cs 0, 12, .inl (fun _ => 0))), (n_2, .inl (cs 0, 12, .inl (fun _ => 0))), (n_3, .inl (cs 0, 12, .inl (fun _ => 0))), (n_4, .inl (cs 0, 12, .inl (fun _ => 0))), (n_5, .inl (cs 0, 4, .inl (fun _ => 0))), (n_6, .inl (cs 0, 4, .inl (fun _ => 0))), (n_7, .inl (cs 0, 4, .inl (fun _ => 0)))] H := hP
  have hD : va_D A [(h0, .inr (8, [.int 0, .int 0, .int 0, .int 0, .int 0, .int 12, .int 5, .int 1, .int 0, .ref n_1, .ref n_2, .ref n_3, .ref n_4, .ref n_5, .ref n_6, .null, .null, .null])), (n_1, .inl (cs 0, 12, .inl (fun _ => 0))), (n_2, .inl (cs 0, 12, .inl (fun _ => 0))), (n_3, .inl (cs 0, 12, .inl (fun _ => 0))), (n_4, .inl (cs 0, 12, .inl (fun _ => 0))), (n_5, .inl (cs 0, 4, .inl (fun _ => 0))), (n_6, .inl (cs 0, 4, .inl (fun _ => 0))), (n_7, .inl (cs 0, 4, .inl (fun _ => 0)))] := hD
  refine W.widen (k := 7) (n := 60) (Nat.le_of_ble_eq_true rfl) (Nat.le_of_ble_eq_true rfl) ?_
  refine va_putF (D := D) (ci := 8) (v := .ref n_7) (ty := .array .int) (C := RX8) (T := TX8) (N := 18) hx hb hT i_X8 tyX8 tyX8_ok nmX8 hown hK hP hD hS 0 rfl rfl 15 (by decide) (hT _ q_18) (fun _ h9 => h9) rfl hin rfl (by decide +kernel) rfl rfl (Nat.le_of_ble_eq_true rfl) dX8_init_70 (fun H locs hP hD hS => ?_)
  have hP : va_P D classes [(h0, .inr (8, [.int 0, .int 0, .int 0, .int 0, .int 0, .int 12, .int 5, .int 1, .int 0, .ref n_1, .ref n_2, .ref n_3, .ref n_4, .ref n_5, .ref n_6, .ref n_7, .null, .null])), (n_1, .inl (cs 0, 12, .inl (fun _ => 0))), (n_2, .inl (cs 0, 12, .inl (fun _ => 0))), (n_3, .inl (cs 0, 12, .inl (fun _ => 0))), (n_4, .inl (cs 0, 12, .inl (fun _ => 0))), (n_5, .inl (cs 0, 4, .inl (fun _ => 0))), (n_6, .inl (cs 0, 4, .inl (fun _ => 0))), (n_7, .inl (cs 0, 4, .inl (fun _ => 0)))] H := hP
  have hD : va_D A [(h0, .inr (8, [.int 0, .int 0, .int 0, .int 0, .int 0, .int 12, .int 5, .int 1, .int 0, .ref n_1, .ref n_2, .ref n_3, .ref n_4, .ref n_5, .ref n_6, .ref n_7, .null, .null])), (n_1, .inl (cs 0, 12, .inl (fun _ => 0))), (n_2, .inl (cs 0, 12, .inl (fun _ => 0))), (n_3, .inl (cs 0, 12, .inl (fun _ => 0))), (n_4, .inl (cs 0, 12, .inl (fun _ => 0))), (n_5, .inl (cs 0, 4, .inl (fun _ => 0))), (n_6, .inl (cs 0, 4, .inl (fun _ => 0))), (n_7, .inl (cs 0, 4, .inl (fun _ => 0)))] := hD
  refine lv_aload_n hx hb dX8_init_73 rfl (lv_at hl 0 rfl) ?_
  refine lv_bipush (v := 12) hx hb dX8_init_74 (by decide) ?_
  refine hz_newa (atype := .int) (ty := .int) (N' := 12) (a0 := (12, .inl (fun _ => 0))) hx hb (hT _ q_3) rfl hK hP hD hS hA (fun _ => rfl) (by decide) (by decide) (Nat.le_of_ble_eq_true rfl) (Nat.le_of_ble_eq_true rfl) (Nat.le_of_ble_eq_true rfl) dX8_init_76 0 rfl (fun n_8 H hP hD hS => ?_)
  have hP : va_P D classes [(h0, .inr (8, [.int 0, .int 0, .int 0, .int 0, .int 0, .int 12, .int 5, .int 1, .int 0, .ref n_1, .ref n_2, .ref n_3, .ref n_4, .ref n_5, .ref n_6, .ref n_7, .null, .null])), (n_1, .inl (cs 0, 12, .inl (fun _ => 0))), (n_2, .inl (cs 0, 12, .inl (fun _ => 0))), (n_3, .inl (cs 0, 12, .inl (fun _ => 0))), (n_4, .inl (cs 0, 12, .inl (fun _ => 0))), (n_5, .inl (cs 0, 4, .inl (fun _ => 0))), (n_6, .inl (cs 0, 4, .inl (fun _ => 0))), (n_7, .inl (cs 0, 4, .inl (fun _ => 0))), (n_8, .inl (cs 0, 12, .inl (fun _ => 0)))] H := hP
  have hD : va_D A [(h0, .inr (8, [.int 0, .int 0, .int 0, .int 0, .int 0, .int 12, .int 5, .int 1, .int 0, .ref n_1, .ref n_2, .ref n_3, .ref n_4, .ref n_5, .ref n_6, .ref n_7, .null, .null])), (n_1, .inl (cs 0, 12, .inl (fun _ => 0))), (n_2, .inl (cs 0, 12, .inl (fun _ => 0))), (n_3, .inl (cs 0, 12, .inl (fun _ => 0))), (n_4, .inl (cs 0, 12, .inl (fun _ => 0))), (n_5, .inl (cs 0, 4, .inl (fun _ => 0))), (n_6, .inl (cs 0, 4, .inl (fun _ => 0))), (n_7, .inl (cs 0, 4, .inl (fun _ => 0))), (n_8, .inl (cs 0, 12, .inl (fun _ => 0)))] := hD
  refine W.widen (k := 8) (n := 72) (Nat.le_of_ble_eq_true rfl) (Nat.le_of_ble_eq_true rfl) ?_
  refine va_putF (D := D) (ci := 8) (v := .ref n_8) (ty := .array .int) (C := RX8) (T := TX8) (N := 18) hx hb hT i_X8 tyX8 tyX8_ok nmX8 hown hK hP hD hS 0 rfl rfl 16 (by decide) (hT _ q_19) (fun _ h9 => h9) rfl hin rfl (by decide +kernel) rfl rfl (Nat.le_of_ble_eq_true rfl) dX8_init_78 (fun H locs hP hD hS => ?_)
  have hP : va_P D classes [(h0, .inr (8, [.int 0, .int 0, .int 0, .int 0, .int 0, .int 12, .int 5, .int 1, .int 0, .ref n_1, .ref n_2, .ref n_3, .ref n_4, .ref n_5, .ref n_6, .ref n_7, .ref n_8, .null])), (n_1, .inl (cs 0, 12, .inl (fun _ => 0))), (n_2, .inl (cs 0, 12, .inl (fun _ => 0))), (n_3, .inl (cs 0, 12, .inl (fun _ => 0))), (n_4, .inl (cs 0, 12, .inl (fun _ => 0))), (n_5, .inl (cs 0, 4, .inl (fun _ => 0))), (n_6, .inl (cs 0, 4, .inl (fun _ => 0))), (n_7, .inl (cs 0, 4, .inl (fun _ => 0))), (n_8, .inl (cs 0, 12, .inl (fun _ => 0)))] H := hP
  have hD : va_D A [(h0, .inr (8, [.int 0, .int 0, .int 0, .int 0, .int 0, .int 12, .int 5, .int 1, .int 0, .ref n_1, .ref n_2, .ref n_3, .ref n_4, .ref n_5, .ref n_6, .ref n_7, .ref n_8, .null])), (n_1, .inl (cs 0, 12, .inl (fun _ => 0))), (n_2, .inl (cs 0, 12, .inl (fun _ => 0))), (n_3, .inl (cs 0, 12, .inl (fun _ => 0))), (n_4, .inl (cs 0, 12, .inl (fun _ => 0))), (n_5, .inl (cs 0, 4, .inl (fun _ => 0))), (n_6, .inl (cs 0, 4, .inl (fun _ => 0))), (n_7, .inl (cs 0, 4, .inl (fun _ => 0))), (n_8, .inl (cs 0, 12, .inl (fun _ => 0)))] := hD
  refine lv_aload_n hx hb dX8_init_81 rfl (lv_at hl 0 rfl) ?_
  refine lv_bipush (v := 12) hx hb dX8_init_82 (by decide) ?_
  refine hz_newa (atype := .int) (ty := .int) (N' := 12) (a0 := (12, .inl (fun _ => 0))) hx hb (hT _ q_3) rfl hK hP hD hS hA (fun _ => rfl) (by decide) (by decide) (Nat.le_of_ble_eq_true rfl) (Nat.le_of_ble_eq_true rfl) (Nat.le_of_ble_eq_true rfl) dX8_init_84 0 rfl (fun n_9 H hP hD hS => ?_)
  have hP : va_P D classes [(h0, .inr (8, [.int 0, .int 0, .int 0, .int 0, .int 0, .int 12, .int 5, .int 1, .int 0, .ref n_1, .ref n_2, .ref n_3, .ref n_4, .ref n_5, .ref n_6, .ref n_7, .ref n_8, .null])), (n_1, .inl (cs 0, 12, .inl (fun _ => 0))), (n_2, .inl (cs 0, 12, .inl (fun _ => 0))), (n_3, .inl (cs 0, 12, .inl (fun _ => 0))), (n_4, .inl (cs 0, 12, .inl (fun _ => 0))), (n_5, .inl (cs 0, 4, .inl (fun _ => 0))), (n_6, .inl (cs 0, 4, .inl (fun _ => 0))), (n_7, .inl (cs 0, 4, .inl (fun _ => 0))), (n_8, .inl (cs 0, 12, .inl (fun _ => 0))), (n_9, .inl (cs 0, 12, .inl (fun _ => 0)))] H := hP
  have hD : va_D A [(h0, .inr (8, [.int 0, .int 0, .int 0, .int 0, .int 0, .int 12, .int 5, .int 1, .int 0, .ref n_1, .ref n_2, .ref n_3, .ref n_4, .ref n_5, .ref n_6, .ref n_7, .ref n_8, .null])), (n_1, .inl (cs 0, 12, .inl (fun _ => 0))), (n_2, .inl (cs 0, 12, .inl (fun _ => 0))), (n_3, .inl (cs 0, 12, .inl (fun _ => 0))), (n_4, .inl (cs 0, 12, .inl (fun _ => 0))), (n_5, .inl (cs 0, 4, .inl (fun _ => 0))), (n_6, .inl (cs 0, 4, .inl (fun _ => 0))), (n_7, .inl (cs 0, 4, .inl (fun _ => 0))), (n_8, .inl (cs 0, 12, .inl (fun _ => 0))), (n_9, .inl (cs 0, 12, .inl (fun _ => 0)))] := hD
  refine W.widen (k := 9) (n := 84) (Nat.le_of_ble_eq_true rfl) (Nat.le_of_ble_eq_true rfl) ?_
  refine va_putF (D := D) (ci := 8) (v := .ref n_9) (ty := .array .int) (C := RX8) (T := TX8) (N := 18) hx hb hT i_X8 tyX8 tyX8_ok nmX8 hown hK hP hD hS 0 rfl rfl 17 (by decide) (hT _ q_20) (fun _ h9 => h9) rfl hin rfl (by decide +kernel) rfl rfl (Nat.le_of_ble_eq_true rfl) dX8_init_86 (fun H locs hP hD hS => ?_)
  have hP : va_P D classes [(h0, .inr (8, [.int 0, .int 0, .int 0, .int 0, .int 0, .int 12, .int 5, .int 1, .int 0, .ref n_1, .ref n_2, .ref n_3, .ref n_4, .ref n_5, .ref n_6, .ref n_7, .ref n_8, .ref n_9])), (n_1, .inl (cs 0, 12, .inl (fun _ => 0))), (n_2, .inl (cs 0, 12, .inl (fun _ => 0))), (n_3, .inl (cs 0, 12, .inl (fun _ => 0))), (n_4, .inl (cs 0, 12, .inl (fun _ => 0))), (n_5, .inl (cs 0, 4, .inl (fun _ => 0))), (n_6, .inl (cs 0, 4, .inl (fun _ => 0))), (n_7, .inl (cs 0, 4, .inl (fun _ => 0))), (n_8, .inl (cs 0, 12, .inl (fun _ => 0))), (n_9, .inl (cs 0, 12, .inl (fun _ => 0)))] H := hP
  have hD : va_D A [(h0, .inr (8, [.int 0, .int 0, .int 0, .int 0, .int 0, .int 12, .int 5, .int 1, .int 0, .ref n_1, .ref n_2, .ref n_3, .ref n_4, .ref n_5, .ref n_6, .ref n_7, .ref n_8, .ref n_9])), (n_1, .inl (cs 0, 12, .inl (fun _ => 0))), (n_2, .inl (cs 0, 12, .inl (fun _ => 0))), (n_3, .inl (cs 0, 12, .inl (fun _ => 0))), (n_4, .inl (cs 0, 12, .inl (fun _ => 0))), (n_5, .inl (cs 0, 4, .inl (fun _ => 0))), (n_6, .inl (cs 0, 4, .inl (fun _ => 0))), (n_7, .inl (cs 0, 4, .inl (fun _ => 0))), (n_8, .inl (cs 0, 12, .inl (fun _ => 0))), (n_9, .inl (cs 0, 12, .inl (fun _ => 0)))] := hD
  exact W.vret hx hb hr (fun t ht hW => ⟨⟨(), rfl, trivial, (fun k => match k with | 0 => n_1 | 1 => n_2 | 2 => n_3 | 3 => n_4 | 4 => n_5 | 5 => n_6 | 6 => n_7 | 7 => n_8 | 8 => n_9 | _ => 0), by rw [ht]; exact hP.sub [0] rfl, hD.sub [0] (by decide) rfl⟩, hS.F ht⟩) hS.2.2 dX8_init_89
theorem dX6_init_0 : decode cX6_init 0 = .ok (.aload_n 0, 1) := by decide +kernel
theorem dX6_init_1 : decode cX6_init 1 = .ok (.invokespecial 3, 3) := by decide +kernel
theorem dX6_init_4 : decode cX6_init 4 = .ok (.aload_n 0, 1) := by decide +kernel
theorem dX6_init_5 : decode cX6_init 5 = .ok (.iconst 4, 1) := by decide +kernel
theorem dX6_init_6 : decode cX6_init 6 = .ok (.newarray .int, 2) := by decide +kernel
theorem dX6_init_8 : decode cX6_init 8 = .ok (.putfield 9, 3) := by decide +kernel
theorem dX6_init_11 : decode cX6_init 11 = .ok (.aload_n 0, 1) := by decide +kernel
theorem dX6_init_12 : decode cX6_init 12 = .ok (.iconst 4, 1) := by decide +kernel
theorem dX6_init_13 : decode cX6_init 13 = .ok (.newarray .int, 2) := by decide +kernel
theorem dX6_init_15 : decode cX6_init 15 = .ok (.putfield 15, 3) := by decide +kernel
theorem dX6_init_18 : decode cX6_init 18 = .ok (.aload_n 0, 1) := by decide +kernel
theorem dX6_init_19 : decode cX6_init 19 = .ok (.iconst 4, 1) := by decide +kernel
theorem dX6_init_20 : decode cX6_init 20 = .ok (.newarray .int, 2) := by decide +kernel
theorem dX6_init_22 : decode cX6_init 22 = .ok (.putfield 18, 3) := by decide +kernel
theorem dX6_init_25 : decode cX6_init 25 = .ok (.aload_n 0, 1) := by decide +kernel
theorem dX6_init_26 : decode cX6_init 26 = .ok (.iconst 4, 1) := by decide +kernel
theorem dX6_init_27 : decode cX6_init 27 = .ok (.newarray .int, 2) := by decide +kernel
theorem dX6_init_29 : decode cX6_init 29 = .ok (.putfield 21, 3) := by decide +kernel
theorem dX6_init_32 : decode cX6_init 32 = .ok (.aload_n 0, 1) := by decide +kernel
theorem dX6_init_33 : decode cX6_init 33 = .ok (.bipush 8, 2) := by decide +kernel
theorem dX6_init_35 : decode cX6_init 35 = .ok (.newarray .int, 2) := by decide +kernel
theorem dX6_init_37 : decode cX6_init 37 = .ok (.putfield 24, 3) := by decide +kernel
theorem dX6_init_40 : decode cX6_init 40 = .ok (.return_, 1) := by decide +kernel
set_option maxHeartbeats 4000000 in
set_option maxRecDepth 100000 in
theorem c_X6_init (l : Launch) (D : va_G) (cs : Nat → ClassId) (kK kV : Nat → Nat) (h0 : Nat) (sz : Nat) : Met l yX6_init (hz_w yX6_init cX6_init 1 none) ({ frames := 1, cells := 5, slots := 24, locals := 12 }) (va_Pc [.ref h0] (hz_C D cs kK kV sz [(h0, .inr (6, [.int 0, .null, .null, .null, .null, .null]))])) (va_Qv (fun (_ : Unit) => True) (fun _ t => ∃ (g : Nat → Nat), va_P D classes [(h0, .inr (6, [.int 0, .ref (g 0), .ref (g 1), .ref (g 2), .ref (g 3), .ref (g 4)])), (g 0, .inl (cs 0, 4, .inl (fun _ => 0))), (g 1, .inl (cs 0, 4, .inl (fun _ => 0))), (g 2, .inl (cs 0, 4, .inl (fun _ => 0))), (g 3, .inl (cs 0, 4, .inl (fun _ => 0))), (g 4, .inl (cs 0, 8, .inl (fun _ => 0)))] t.heap ∧ va_D (va_A [(h0, .inr (6, [.int 0, .null, .null, .null, .null, .null]))] sz) [(h0, .inr (6, [.int 0, .ref (g 0), .ref (g 1), .ref (g 2), .ref (g 3), .ref (g 4)])), (g 0, .inl (cs 0, 4, .inl (fun _ => 0))), (g 1, .inl (cs 0, 4, .inl (fun _ => 0))), (g 2, .inl (cs 0, 4, .inl (fun _ => 0))), (g 3, .inl (cs 0, 4, .inl (fun _ => 0))), (g 4, .inl (cs 0, 8, .inl (fun _ => 0)))]) (va_A [(h0, .inr (6, [.int 0, .null, .null, .null, .null, .null]))] sz)) 5 24 (va_A [(h0, .inr (6, [.int 0, .null, .null, .null, .null, .null]))] sz) := by
  refine Met.ofW (cc := cX6_init) (maxL := 1) (ret := none) (by decide) rfl ?_
  intro p e s m args below meth c s₁ B hml hv
  obtain ⟨rfl, hsz, hP, hD0, hE⟩ := hv
  have hx := B.exec
  have hb := B.bytes
  have hr := B.returns
  have hT : ∀ w ∈ TB, w.before _ s = true := fun w h => atoms_spec (ws := hz_w yX6_init cX6_init 1 none) B.pre w (List.mem_cons_of_mem _ h)
  have hown : s.vm.findClass RX6 = some m.cls := findClass_of_methodNamed B.named
  have hlocks := B.notSynchronized
  have hin : meth.name = "<init>" := (name_of_methodNamed B.named B.method).1
  clear B
  subst hsz
  have hD := hD0.self (sz := s.heap.size)
  generalize hAe : va_A [(h0, .inr (6, [.int 0, .null, .null, .null, .null, .null]))] s.heap.size = A at hD hE ⊢
  have hA : ∀ q : Nat, s.heap.size ≤ q → A q := fun q h => by rw [← hAe]; exact Or.inr h
  clear hAe hD0
  have hS : va_S A s.heap s.heap [] := va_S.rf
  have hK := hE.1
  have hl := lv_entry ([.ref h0]) (n := 1) (Nat.le_of_ble_eq_true rfl)
  rw [lg_entry_eq]
  generalize (lg_sl ([.ref h0]) ++ List.replicate (1 - (lg_sl ([.ref h0])).length) Slot.unset).toArray = ls at hl ⊢
  have hl : lv_has ls 1 [(0, .ref h0)] := hl
  obtain ⟨H, eH⟩ : ∃ z, z = s.heap := ⟨_, rfl⟩
  have hP : va_P D classes [(h0, .inr (6, [.int 0, .null, .null, .null, .null, .null]))] H := by rw [eH]; exact hP
  have hS : va_S A s.heap H [] := by rw [eH]; exact hS
  rw [← eH]
  clear eH
  refine lv_aload_n hx hb dX6_init_0 rfl (lv_at hl 0 rfl) ?_
  refine W.objInit hx hb hown (hT _ q_21) (hT _ q_1) (hT _ q_2) rfl (by rw [hml]; exact hl.1) rfl dX6_init_1 (Nat.le_of_ble_eq_true rfl) (Nat.le_of_ble_eq_true rfl) ?_
  refine W.eq (g2 := F0 m 4 ls []) rfl ?_
  refine lv_aload_n hx hb dX6_init_4 rfl (lv_at hl 0 rfl) ?_
  refine lv_iconst (v := 4) hx hb dX6_init_5 (by decide) ?_
  refine hz_newa (atype := .int) (ty := .int) (N' := 4) (a0 := (4, .inl (fun _ => 0))) hx hb (hT _ q_3) rfl hK hP hD hS hA (fun _ => rfl) (by decide) (by decide) (Nat.le_of_ble_eq_true rfl) (Nat.le_of_ble_eq_true rfl) (Nat.le_of_ble_eq_true rfl) dX6_init_6 0 rfl (fun n_1 H hP hD hS => ?_)
  have hP : va_P D classes [(h0, .inr (6, [.int 0, .null, .null, .null, .null, .null])), (n_1, .inl (cs 0, 4, .inl (fun _ => 0)))] H := hP
  have hD : va_D A [(h0, .inr (6, [.int 0, .null, .null, .null, .null, .null])), (n_1, .inl (cs 0, 4, .inl (fun _ => 0)))] := hD
  refine W.widen (k := 1) (n := 4) (Nat.le_of_ble_eq_true rfl) (Nat.le_of_ble_eq_true rfl) ?_
  refine va_putF (D := D) (ci := 6) (v := .ref n_1) (ty := .array .int) (C := RX6) (T := TX6) (N := 6) hx hb hT i_X6 tyX6 tyX6_ok nmX6 hown hK hP hD hS 0 rfl rfl 1 (by decide) (hT _ q_22) (fun _ h9 => h9) rfl hin rfl (by decide +kernel) rfl rfl (Nat.le_of_ble_eq_true rfl) dX6_init_8 (fun H locs hP hD hS => ?_)
  have hP : va_P D classes [(h0, .inr (6, [.int 0, .ref n_1, .null, .null, .null, .null])), (n_1, .inl (cs 0, 4, .inl (fun _ => 0)))] H := hP
  have hD : va_D A [(h0, .inr (6, [.int 0, .ref n_1, .null, .null, .null, .null])), (n_1, .inl (cs 0, 4, .inl (fun _ => 0)))] := hD
  refine lv_aload_n hx hb dX6_init_11 rfl (lv_at hl 0 rfl) ?_
  refine lv_iconst (v := 4) hx hb dX6_init_12 (by decide) ?_
  refine hz_newa (atype := .int) (ty := .int) (N' := 4) (a0 := (4, .inl (fun _ => 0))) hx hb (hT _ q_3) rfl hK hP hD hS hA (fun _ => rfl) (by decide) (by decide) (Nat.le_of_ble_eq_true rfl) (Nat.le_of_ble_eq_true rfl) (Nat.le_of_ble_eq_true rfl) dX6_init_13 0 rfl (fun n_2 H hP hD hS => ?_)
  have hP : va_P D classes [(h0, .inr (6, [.int 0, .ref n_1, .null, .null, .null, .null])), (n_1, .inl (cs 0, 4, .inl (fun _ => 0))), (n_2, .inl (cs 0, 4, .inl (fun _ => 0)))] H := hP
  have hD : va_D A [(h0, .inr (6, [.int 0, .ref n_1, .null, .null, .null, .null])), (n_1, .inl (cs 0, 4, .inl (fun _ => 0))), (n_2, .inl (cs 0, 4, .inl (fun _ => 0)))] := hD
  refine W.widen (k := 2) (n := 8) (Nat.le_of_ble_eq_true rfl) (Nat.le_of_ble_eq_true rfl) ?_
  refine va_putF (D := D) (ci := 6) (v := .ref n_2) (ty := .array .int) (C := RX6) (T := TX6) (N := 6) hx hb hT i_X6 tyX6 tyX6_ok nmX6 hown hK hP hD hS 0 rfl rfl 2 (by decide) (hT _ q_23) (fun _ h9 => h9) rfl hin rfl (by decide +kernel) rfl rfl (Nat.le_of_ble_eq_true rfl) dX6_init_15 (fun H locs hP hD hS => ?_)
  have hP : va_P D classes [(h0, .inr (6, [.int 0, .ref n_1, .ref n_2, .null, .null, .null])), (n_1, .inl (cs 0, 4, .inl (fun _ => 0))), (n_2, .inl (cs 0, 4, .inl (fun _ => 0)))] H := hP
  have hD : va_D A [(h0, .inr (6, [.int 0, .ref n_1, .ref n_2, .null, .null, .null])), (n_1, .inl (cs 0, 4, .inl (fun _ => 0))), (n_2, .inl (cs 0, 4, .inl (fun _ => 0)))] := hD
  refine lv_aload_n hx hb dX6_init_18 rfl (lv_at hl 0 rfl) ?_
  refine lv_iconst (v := 4) hx hb dX6_init_19 (by decide) ?_
  refine hz_newa (atype := .int) (ty := .int) (N' := 4) (a0 := (4, .inl (fun _ => 0))) hx hb (hT _ q_3) rfl hK hP hD hS hA (fun _ => rfl) (by decide) (by decide) (Nat.le_of_ble_eq_true rfl) (Nat.le_of_ble_eq_true rfl) (Nat.le_of_ble_eq_true rfl) dX6_init_20 0 rfl (fun n_3 H hP hD hS => ?_)
  have hP : va_P D classes [(h0, .inr (6, [.int 0, .ref n_1, .ref n_2, .null, .null, .null])), (n_1, .inl (cs 0, 4, .inl (fun _ => 0))), (n_2, .inl (cs 0, 4, .inl (fun _ => 0))), (n_3, .inl (cs 0, 4, .inl (fun _ => 0)))] H := hP
  have hD : va_D A [(h0, .inr (6, [.int 0, .ref n_1, .ref n_2, .null, .null, .null])), (n_1, .inl (cs 0, 4, .inl (fun _ => 0))), (n_2, .inl (cs 0, 4, .inl (fun _ => 0))), (n_3, .inl (cs 0, 4, .inl (fun _ => 0)))] := hD
  refine W.widen (k := 3) (n := 12) (Nat.le_of_ble_eq_true rfl) (Nat.le_of_ble_eq_true rfl) ?_
  refine va_putF (D := D) (ci := 6) (v := .ref n_3) (ty := .array .int) (C := RX6) (T := TX6) (N := 6) hx hb hT i_X6 tyX6 tyX6_ok nmX6 hown hK hP hD hS 0 rfl rfl 3 (by decide) (hT _ q_24) (fun _ h9 => h9) rfl hin rfl (by decide +kernel) rfl rfl (Nat.le_of_ble_eq_true rfl) dX6_init_22 (fun H locs hP hD hS => ?_)
  have hP : va_P D classes [(h0, .inr (6, [.int 0, .ref n_1, .ref n_2, .ref n_3, .null, .null])), (n_1, .inl (cs 0, 4, .inl (fun _ => 0))), (n_2, .inl (cs 0, 4, .inl (fun _ => 0))), (n_3, .inl (cs 0, 4, .inl (fun _ => 0)))] H := hP
  have hD : va_D A [(h0, .inr (6, [.int 0, .ref n_1, .ref n_2, .ref n_3, .null, .null])), (n_1, .inl (cs 0, 4, .inl (fun _ => 0))), (n_2, .inl (cs 0, 4, .inl (fun _ => 0))), (n_3, .inl (cs 0, 4, .inl (fun _ => 0)))] := hD
  refine lv_aload_n hx hb dX6_init_25 rfl (lv_at hl 0 rfl) ?_
  refine lv_iconst (v := 4) hx hb dX6_init_26 (by decide) ?_
  refine hz_newa (atype := .int) (ty := .int) (N' := 4) (a0 := (4, .inl (fun _ => 0))) hx hb (hT _ q_3) rfl hK hP hD hS hA (fun _ => rfl) (by decide) (by decide) (Nat.le_of_ble_eq_true rfl) (Nat.le_of_ble_eq_true rfl) (Nat.le_of_ble_eq_true rfl) dX6_init_27 0 rfl (fun n_4 H hP hD hS => ?_)
  have hP : va_P D classes [(h0, .inr (6, [.int 0, .ref n_1, .ref n_2, .ref n_3, .null, .null])), (n_1, .inl (cs 0, 4, .inl (fun _ => 0))), (n_2, .inl (cs 0, 4, .inl (fun _ => 0))), (n_3, .inl (cs 0, 4, .inl (fun _ => 0))), (n_4, .inl (cs 0, 4, .inl (fun _ => 0)))] H := hP
  have hD : va_D A [(h0, .inr (6, [.int 0, .ref n_1, .ref n_2, .ref n_3, .null, .null])), (n_1, .inl (cs 0, 4, .inl (fun _ => 0))), (n_2, .inl (cs 0, 4, .inl (fun _ => 0))), (n_3, .inl (cs 0, 4, .inl (fun _ => 0))), (n_4, .inl (cs 0, 4, .inl (fun _ => 0)))] := hD
  refine W.widen (k := 4) (n := 16) (Nat.le_of_ble_eq_true rfl) (Nat.le_of_ble_eq_true rfl) ?_
  refine va_putF (D := D) (ci := 6) (v := .ref n_4) (ty := .array .int) (C := RX6) (T := TX6) (N := 6) hx hb hT i_X6 tyX6 tyX6_ok nmX6 hown hK hP hD hS 0 rfl rfl 4 (by decide) (hT _ q_25) (fun _ h9 => h9) rfl hin rfl (by decide +kernel) rfl rfl (Nat.le_of_ble_eq_true rfl) dX6_init_29 (fun H locs hP hD hS => ?_)
  have hP : va_P D classes [(h0, .inr (6, [.int 0, .ref n_1, .ref n_2, .ref n_3, .ref n_4, .null])), (n_1, .inl (cs 0, 4, .inl (fun _ => 0))), (n_2, .inl (cs 0, 4, .inl (fun _ => 0))), (n_3, .inl (cs 0, 4, .inl (fun _ => 0))), (n_4, .inl (cs 0, 4, .inl (fun _ => 0)))] H := hP
  have hD : va_D A [(h0, .inr (6, [.int 0, .ref n_1, .ref n_2, .ref n_3, .ref n_4, .null])), (n_1, .inl (cs 0, 4, .inl (fun _ => 0))), (n_2, .inl (cs 0, 4, .inl (fun _ => 0))), (n_3, .inl (cs 0, 4, .inl (fun _ => 0))), (n_4, .inl (cs 0, 4, .inl (fun _ => 0)))] := hD
  refine lv_aload_n hx hb dX6_init_32 rfl (lv_at hl 0 rfl) ?_
  refine lv_bipush (v := 8) hx hb dX6_init_33 (by decide) ?_
  refine hz_newa (atype := .int) (ty := .int) (N' := 8) (a0 := (8, .inl (fun _ => 0))) hx hb (hT _ q_3) rfl hK hP hD hS hA (fun _ => rfl) (by decide) (by decide) (Nat.le_of_ble_eq_true rfl) (Nat.le_of_ble_eq_true rfl) (Nat.le_of_ble_eq_true rfl) dX6_init_35 0 rfl (fun n_5 H hP hD hS => ?_)
  have hP : va_P D classes [(h0, .inr (6, [.int 0, .ref n_1, .ref n_2, .ref n_3, .ref n_4, .null])), (n_1, .inl (cs 0, 4, .inl (fun _ => 0))), (n_2, .inl (cs 0, 4, .inl (fun _ => 0))), (n_3, .inl (cs 0, 4, .inl (fun _ => 0))), (n_4, .inl (cs 0, 4, .inl (fun _ => 0))), (n_5, .inl (cs 0, 8, .inl (fun _ => 0)))] H := hP
  have hD : va_D A [(h0, .inr (6, [.int 0, .ref n_1, .ref n_2, .ref n_3, .ref n_4, .null])), (n_1, .inl (cs 0, 4, .inl (fun _ => 0))), (n_2, .inl (cs 0, 4, .inl (fun _ => 0))), (n_3, .inl (cs 0, 4, .inl (fun _ => 0))), (n_4, .inl (cs 0, 4, .inl (fun _ => 0))), (n_5, .inl (cs 0, 8, .inl (fun _ => 0)))] := hD
  refine W.widen (k := 5) (n := 24) (Nat.le_of_ble_eq_true rfl) (Nat.le_of_ble_eq_true rfl) ?_
  refine va_putF (D := D) (ci := 6) (v := .ref n_5) (ty := .array .int) (C := RX6) (T := TX6) (N := 6) hx hb hT i_X6 tyX6 tyX6_ok nmX6 hown hK hP hD hS 0 rfl rfl 5 (by decide) (hT _ q_26) (fun _ h9 => h9) rfl hin rfl (by decide +kernel) rfl rfl (Nat.le_of_ble_eq_true rfl) dX6_init_37 (fun H locs hP hD hS => ?_)
  have hP : va_P D classes [(h0, .inr (6, [.int 0, .ref n_1, .ref n_2, .ref n_3, .ref n_4, .ref n_5])), (n_1, .inl (cs 0, 4, .inl (fun _ => 0))), (n_2, .inl (cs 0, 4, .inl (fun _ => 0))), (n_3, .inl (cs 0, 4, .inl (fun _ => 0))), (n_4, .inl (cs 0, 4, .inl (fun _ => 0))), (n_5, .inl (cs 0, 8, .inl (fun _ => 0)))] H := hP
  have hD : va_D A [(h0, .inr (6, [.int 0, .ref n_1, .ref n_2, .ref n_3, .ref n_4, .ref n_5])), (n_1, .inl (cs 0, 4, .inl (fun _ => 0))), (n_2, .inl (cs 0, 4, .inl (fun _ => 0))), (n_3, .inl (cs 0, 4, .inl (fun _ => 0))), (n_4, .inl (cs 0, 4, .inl (fun _ => 0))), (n_5, .inl (cs 0, 8, .inl (fun _ => 0)))] := hD
  exact W.vret hx hb hr (fun t ht hW => ⟨⟨(), rfl, trivial, (fun k => match k with | 0 => n_1 | 1 => n_2 | 2 => n_3 | 3 => n_4 | 4 => n_5 | _ => 0), by rw [ht]; exact hP.sub [0, 1, 2, 3, 4, 5] rfl, hD.sub [0, 1, 2, 3, 4, 5] (by decide) rfl⟩, hS.F ht⟩) hS.2.2 dX6_init_40
theorem dX9_init_0 : decode cX9_init 0 = .ok (.aload_n 0, 1) := by decide +kernel
theorem dX9_init_1 : decode cX9_init 1 = .ok (.invokespecial 3, 3) := by decide +kernel
theorem dX9_init_4 : decode cX9_init 4 = .ok (.aload_n 0, 1) := by decide +kernel
theorem dX9_init_5 : decode cX9_init 5 = .ok (.bipush 12, 2) := by decide +kernel
theorem dX9_init_7 : decode cX9_init 7 = .ok (.newarray .int, 2) := by decide +kernel
theorem dX9_init_9 : decode cX9_init 9 = .ok (.putfield 11, 3) := by decide +kernel
theorem dX9_init_12 : decode cX9_init 12 = .ok (.aload_n 0, 1) := by decide +kernel
theorem dX9_init_13 : decode cX9_init 13 = .ok (.bipush 12, 2) := by decide +kernel
theorem dX9_init_15 : decode cX9_init 15 = .ok (.newarray .int, 2) := by decide +kernel
theorem dX9_init_17 : decode cX9_init 17 = .ok (.putfield 15, 3) := by decide +kernel
theorem dX9_init_20 : decode cX9_init 20 = .ok (.aload_n 0, 1) := by decide +kernel
theorem dX9_init_21 : decode cX9_init 21 = .ok (.bipush 12, 2) := by decide +kernel
theorem dX9_init_23 : decode cX9_init 23 = .ok (.newarray .int, 2) := by decide +kernel
theorem dX9_init_25 : decode cX9_init 25 = .ok (.putfield 18, 3) := by decide +kernel
theorem dX9_init_28 : decode cX9_init 28 = .ok (.aload_n 0, 1) := by decide +kernel
theorem dX9_init_29 : decode cX9_init 29 = .ok (.bipush 12, 2) := by decide +kernel
theorem dX9_init_31 : decode cX9_init 31 = .ok (.newarray .boolean, 2) := by decide +kernel
theorem dX9_init_33 : decode cX9_init 33 = .ok (.putfield 21, 3) := by decide +kernel
theorem dX9_init_36 : decode cX9_init 36 = .ok (.return_, 1) := by decide +kernel
set_option maxHeartbeats 4000000 in
set_option maxRecDepth 100000 in
theorem c_X9_init (l : Launch) (D : va_G) (cs : Nat → ClassId) (kK kV : Nat → Nat) (h0 : Nat) (sz : Nat) : Met l yX9_init (hz_w yX9_init cX9_init 1 none) ({ frames := 1, cells := 4, slots := 48, locals := 12 }) (va_Pc [.ref h0] (hz_C D cs kK kV sz [(h0, .inr (9, [.int 0, .int 0, .int 0, .null, .null, .null, .null]))])) (va_Qv (fun (_ : Unit) => True) (fun _ t => ∃ (g : Nat → Nat), va_P D classes [(h0, .inr (9, [.int 0, .int 0, .int 0, .ref (g 0), .ref (g 1), .ref (g 2), .ref (g 3)])), (g 1, .inl (cs 0, 12, .inl (fun _ => 0))), (g 2, .inl (cs 0, 12, .inl (fun _ => 0))), (g 3, .inl (cs 2, 12, .inl (fun _ => 0)))] t.heap ∧ va_D (va_A [(h0, .inr (9, [.int 0, .int 0, .int 0, .null, .null, .null, .null]))] sz) [(h0, .inr (9, [.int 0, .int 0, .int 0, .ref (g 0), .ref (g 1), .ref (g 2), .ref (g 3)])), (g 1, .inl (cs 0, 12, .inl (fun _ => 0))), (g 2, .inl (cs 0, 12, .inl (fun _ => 0))), (g 3, .inl (cs 2, 12, .inl (fun _ => 0)))]) (va_A [(h0, .inr (9, [.int 0, .int 0, .int 0, .null, .null, .null, .null]))] sz)) 4 48 (va_A [(h0, .inr (9, [.int 0, .int 0, .int 0, .null, .null, .null, .null]))] sz) := by
  refine Met.ofW (cc := cX9_init) (maxL := 1) (ret := none) (by decide) rfl ?_
  intro p e s m args below meth c s₁ B hml hv
  obtain ⟨rfl, hsz, hP, hD0, hE⟩ := hv
  have hx := B.exec
  have hb := B.bytes
  have hr := B.returns
  have hT : ∀ w ∈ TB, w.before _ s = true := fun w h => atoms_spec (ws := hz_w yX9_init cX9_init 1 none) B.pre w (List.mem_cons_of_mem _ h)
  have hown : s.vm.findClass RX9 = some m.cls := findClass_of_methodNamed B.named
  have hlocks := B.notSynchronized
  have hin : meth.name = "<init>" := (name_of_methodNamed B.named B.method).1
  clear B
  subst hsz
  have hD := hD0.self (sz := s.heap.size)
  generalize hAe : va_A [(h0, .inr (9, [.int 0, .int 0, .int 0, .null, .null, .null, .null]))] s.heap.size = A at hD hE ⊢
  have hA : ∀ q : Nat, s.heap.size ≤ q → A q := fun q h => by rw [← hAe]; exact Or.inr h
  clear hAe hD0
  have hS : va_S A s.heap s.heap [] := va_S.rf
  have hK := hE.1
  have hl := lv_entry ([.ref h0]) (n := 1) (Nat.le_of_ble_eq_true rfl)
  rw [lg_entry_eq]
  generalize (lg_sl ([.ref h0]) ++ List.replicate (1 - (lg_sl ([.ref h0])).length) Slot.unset).toArray = ls at hl ⊢
  have hl : lv_has ls 1 [(0, .ref h0)] := hl
  obtain ⟨H, eH⟩ : ∃ z, z = s.heap := ⟨_, rfl⟩
  have hP : va_P D classes [(h0, .inr (9, [.int 0, .int 0, .int 0, .null, .null, .null, .null]))] H := by rw [eH]; exact hP
  have hS : va_S A s.heap H [] := by rw [eH]; exact hS
  rw [← eH]
  clear eH
  refine lv_aload_n hx hb dX9_init_0 rfl (lv_at hl 0 rfl) ?_
  refine W.objInit hx hb hown (hT _ q_27) (hT _ q_1) (hT _ q_2) rfl (by rw [hml]; exact hl.1) rfl dX9_init_1 (Nat.le_of_ble_eq_true rfl) (Nat.le_of_ble_eq_true rfl) ?_
  refine W.eq (g2 := F0 m 4 ls []) rfl ?_
  refine lv_aload_n hx hb dX9_init_4 rfl (lv_at hl 0 rfl) ?_
  refine lv_bipush (v := 12) hx hb dX9_init_5 (by decide) ?_
  refine hz_newa (atype := .int) (ty := .int) (N' := 12) (a0 := (12, .inl (fun _ => 0))) hx hb (hT _ q_3) rfl hK hP hD hS hA (fun _ => rfl) (by decide) (by decide) (Nat.le_of_ble_eq_true rfl) (Nat.le_of_ble_eq_true rfl) (Nat.le_of_ble_eq_true rfl) dX9_init_7 0 rfl (fun n_1 H hP hD hS => ?_)
  have hP : va_P D classes [(h0, .inr (9, [.int 0, .int 0, .int 0, .null, .null, .null, .null])), (n_1, .inl (cs 0, 12, .inl (fun _ => 0)))] H := hP
  have hD : va_D A [(h0, .inr (9, [.int 0, .int 0, .int 0, .null, .null, .null, .null])), (n_1, .inl (cs 0, 12, .inl (fun _ => 0)))] := hD
  refine W.widen (k := 1) (n := 12) (Nat.le_of_ble_eq_true rfl) (Nat.le_of_ble_eq_true rfl) ?_
  refine va_putF (D := D) (ci := 9) (v := .ref n_1) (ty := .array .int) (C := RX9) (T := TX9) (N := 7) hx hb hT i_X9 tyX9 tyX9_ok nmX9 hown hK hP hD hS 0 rfl rfl 3 (by decide) (hT _ q_28) (fun _ h9 => h9) rfl hin rfl (by decide +kernel) rfl rfl (Nat.le_of_ble_eq_true rfl) dX9_init_9 (fun H locs hP hD hS => ?_)
  have hP : va_P D classes [(h0, .inr (9, [.int 0, .int 0, .int 0, .ref n_1, .null, .null, .null])), (n_1, .inl (cs 0, 12, .inl (fun _ => 0)))] H := hP
  have hD : va_D A [(h0, .inr (9, [.int 0, .int 0, .int 0, .ref n_1, .null, .null, .null])), (n_1, .inl (cs 0, 12, .inl (fun _ => 0)))] := hD
  refine lv_aload_n hx hb dX9_init_12 rfl (lv_at hl 0 rfl) ?_
  refine lv_bipush (v := 12) hx hb dX9_init_13 (by decide) ?_
  refine hz_newa (atype := .int) (ty := .int) (N' := 12) (a0 := (12, .inl (fun _ => 0))) hx hb (hT _ q_3) rfl hK hP hD hS hA (fun _ => rfl) (by decide) (by decide) (Nat.le_of_ble_eq_true rfl) (Nat.le_of_ble_eq_true rfl) (Nat.le_of_ble_eq_true rfl) dX9_init_15 0 rfl (fun n_2 H hP hD hS => ?_)
  have hP : va_P D classes [(h0, .inr (9, [.int 0, .int 0, .int 0, .ref n_1, .null, .null, .null])), (n_1, .inl (cs 0, 12, .inl (fun _ => 0))), (n_2, .inl (cs 0, 12, .inl (fun _ => 0)))] H := hP
  have hD : va_D A [(h0, .inr (9, [.int 0, .int 0, .int 0, .ref n_1, .null, .null, .null])), (n_1, .inl (cs 0, 12, .inl (fun _ => 0))), (n_2, .inl (cs 0, 12, .inl (fun _ => 0)))] := hD
  refine W.widen (k := 2) (n := 24) (Nat.le_of_ble_eq_true rfl) (Nat.le_of_ble_eq_true rfl) ?_
  refine va_putF (D := D) (ci := 9) (v := .ref n_2) (ty := .array .int) (C := RX9) (T := TX9) (N := 7) hx hb hT i_X9 tyX9 tyX9_ok nmX9 hown hK hP hD hS 0 rfl rfl 4 (by decide) (hT _ q_29) (fun _ h9 => h9) rfl hin rfl (by decide +kernel) rfl rfl (Nat.le_of_ble_eq_true rfl) dX9_init_17 (fun H locs hP hD hS => ?_)
  have hP : va_P D classes [(h0, .inr (9, [.int 0, .int 0, .int 0, .ref n_1, .ref n_2, .null, .null])), (n_1, .inl (cs 0, 12, .inl (fun _ => 0))), (n_2, .inl (cs 0, 12, .inl (fun _ => 0)))] H := hP
  have hD : va_D A [(h0, .inr (9, [.int 0, .int 0, .int 0, .ref n_1, .ref n_2, .null, .null])), (n_1, .inl (cs 0, 12, .inl (fun _ => 0))), (n_2, .inl (cs 0, 12, .inl (fun _ => 0)))] := hD
  refine lv_aload_n hx hb dX9_init_20 rfl (lv_at hl 0 rfl) ?_
  refine lv_bipush (v := 12) hx hb dX9_init_21 (by decide) ?_
  refine hz_newa (atype := .int) (ty := .int) (N' := 12) (a0 := (12, .inl (fun _ => 0))) hx hb (hT _ q_3) rfl hK hP hD hS hA (fun _ => rfl) (by decide) (by decide) (Nat.le_of_ble_eq_true rfl) (Nat.le_of_ble_eq_true rfl) (Nat.le_of_ble_eq_true rfl) dX9_init_23 0 rfl (fun n_3 H hP hD hS => ?_)
  have hP : va_P D classes [(h0, .inr (9, [.int 0, .int 0, .int 0, .ref n_1, .ref n_2, .null, .null])), (n_1, .inl (cs 0, 12, .inl (fun _ => 0))), (n_2, .inl (cs 0, 12, .inl (fun _ => 0))), (n_3, .inl (cs 0, 12, .inl (fun _ => 0)))] H := hP
  have hD : va_D A [(h0, .inr (9, [.int 0, .int 0, .int 0, .ref n_1, .ref n_2, .null, .null])), (n_1, .inl (cs 0, 12, .inl (fun _ => 0))), (n_2, .inl (cs 0, 12, .inl (fun _ => 0))), (n_3, .inl (cs 0, 12, .inl (fun _ => 0)))] := hD
  refine W.widen (k := 3) (n := 36) (Nat.le_of_ble_eq_true rfl) (Nat.le_of_ble_eq_true rfl) ?_
  refine va_putF (D := D) (ci := 9) (v := .ref n_3) (ty := .array .int) (C := RX9) (T := TX9) (N := 7) hx hb hT i_X9 tyX9 tyX9_ok nmX9 hown hK hP hD hS 0 rfl rfl 5 (by decide) (hT _ q_30) (fun _ h9 => h9) rfl hin rfl (by decide +kernel) rfl rfl (Nat.le_of_ble_eq_true rfl) dX9_init_25 (fun H locs hP hD hS => ?_)
  have hP : va_P D classes [(h0, .inr (9, [.int 0, .int 0, .int 0, .ref n_1, .ref n_2, .ref n_3, .null])), (n_1, .inl (cs 0, 12, .inl (fun _ => 0))), (n_2, .inl (cs 0, 12, .inl (fun _ => 0))), (n_3, .inl (cs 0, 12, .inl (fun _ => 0)))] H := hP
  have hD : va_D A [(h0, .inr (9, [.int 0, .int 0, .int 0, .ref n_1, .ref n_2, .ref n_3, .null])), (n_1, .inl (cs 0, 12, .inl (fun _ => 0))), (n_2, .inl (cs 0, 12, .inl (fun _ => 0))), (n_3, .inl (cs 0, 12, .inl (fun _ => 0)))] := hD
  refine lv_aload_n hx hb dX9_init_28 rfl (lv_at hl 0 rfl) ?_
  refine lv_bipush (v := 12) hx hb dX9_init_29 (by decide) ?_
  refine hz_newa (atype := .boolean) (ty := .boolean) (N' := 12) (a0 := (12, .inl (fun _ => 0))) hx hb (hT _ q_31) rfl hK hP hD hS hA (fun _ => rfl) (by decide) (by decide) (Nat.le_of_ble_eq_true rfl) (Nat.le_of_ble_eq_true rfl) (Nat.le_of_ble_eq_true rfl) dX9_init_31 2 rfl (fun n_4 H hP hD hS => ?_)
  have hP : va_P D classes [(h0, .inr (9, [.int 0, .int 0, .int 0, .ref n_1, .ref n_2, .ref n_3, .null])), (n_1, .inl (cs 0, 12, .inl (fun _ => 0))), (n_2, .inl (cs 0, 12, .inl (fun _ => 0))), (n_3, .inl (cs 0, 12, .inl (fun _ => 0))), (n_4, .inl (cs 2, 12, .inl (fun _ => 0)))] H := hP
  have hD : va_D A [(h0, .inr (9, [.int 0, .int 0, .int 0, .ref n_1, .ref n_2, .ref n_3, .null])), (n_1, .inl (cs 0, 12, .inl (fun _ => 0))), (n_2, .inl (cs 0, 12, .inl (fun _ => 0))), (n_3, .inl (cs 0, 12, .inl (fun _ => 0))), (n_4, .inl (cs 2, 12, .inl (fun _ => 0)))] := hD
  refine W.widen (k := 4) (n := 48) (Nat.le_of_ble_eq_true rfl) (Nat.le_of_ble_eq_true rfl) ?_
  refine va_putF (D := D) (ci := 9) (v := .ref n_4) (ty := .array .boolean) (C := RX9) (T := TX9) (N := 7) hx hb hT i_X9 tyX9 tyX9_ok nmX9 hown hK hP hD hS 0 rfl rfl 6 (by decide) (hT _ q_32) (fun _ h9 => h9) rfl hin rfl (by decide +kernel) rfl rfl (Nat.le_of_ble_eq_true rfl) dX9_init_33 (fun H locs hP hD hS => ?_)
  have hP : va_P D classes [(h0, .inr (9, [.int 0, .int 0, .int 0, .ref n_1, .ref n_2, .ref n_3, .ref n_4])), (n_1, .inl (cs 0, 12, .inl (fun _ => 0))), (n_2, .inl (cs 0, 12, .inl (fun _ => 0))), (n_3, .inl (cs 0, 12, .inl (fun _ => 0))), (n_4, .inl (cs 2, 12, .inl (fun _ => 0)))] H := hP
  have hD : va_D A [(h0, .inr (9, [.int 0, .int 0, .int 0, .ref n_1, .ref n_2, .ref n_3, .ref n_4])), (n_1, .inl (cs 0, 12, .inl (fun _ => 0))), (n_2, .inl (cs 0, 12, .inl (fun _ => 0))), (n_3, .inl (cs 0, 12, .inl (fun _ => 0))), (n_4, .inl (cs 2, 12, .inl (fun _ => 0)))] := hD
  exact W.vret hx hb hr (fun t ht hW => ⟨⟨(), rfl, trivial, (fun k => match k with | 0 => n_1 | 1 => n_2 | 2 => n_3 | 3 => n_4 | _ => 0), by rw [ht]; exact hP.sub [0, 2, 3, 4] rfl, hD.sub [0, 2, 3, 4] (by decide) rfl⟩, hS.F ht⟩) hS.2.2 dX9_init_36
theorem dX3_init_0 : decode cX3_init 0 = .ok (.aload_n 0, 1) := by decide +kernel
theorem dX3_init_1 : decode cX3_init 1 = .ok (.invokespecial 3, 3) := by decide +kernel
theorem dX3_init_4 : decode cX3_init 4 = .ok (.aload_n 0, 1) := by decide +kernel
theorem dX3_init_5 : decode cX3_init 5 = .ok (.sipush 4096, 3) := by decide +kernel
theorem dX3_init_8 : decode cX3_init 8 = .ok (.newarray .int, 2) := by decide +kernel
theorem dX3_init_10 : decode cX3_init 10 = .ok (.putfield 11, 3) := by decide +kernel
theorem dX3_init_13 : decode cX3_init 13 = .ok (.return_, 1) := by decide +kernel
set_option maxHeartbeats 4000000 in
set_option maxRecDepth 100000 in
theorem c_X3_init (l : Launch) (D : va_G) (cs : Nat → ClassId) (kK kV : Nat → Nat) (h0 : Nat) (sz : Nat) : Met l yX3_init (hz_w yX3_init cX3_init 1 none) ({ frames := 1, cells := 1, slots := 4096, locals := 12 }) (va_Pc [.ref h0] (hz_C D cs kK kV sz [(h0, .inr (3, [.null, .null]))])) (va_Qv (fun (_ : Unit) => True) (fun _ t => ∃ (g : Nat → Nat), va_P D classes [(h0, .inr (3, [.null, .ref (g 0)]))] t.heap ∧ va_D (va_A [(h0, .inr (3, [.null, .null]))] sz) [(h0, .inr (3, [.null, .ref (g 0)]))]) (va_A [(h0, .inr (3, [.null, .null]))] sz)) 1 4096 (va_A [(h0, .inr (3, [.null, .null]))] sz) := by
  refine Met.ofW (cc := cX3_init) (maxL := 1) (ret := none) (by decide) rfl ?_
  intro p e s m args below meth c s₁ B hml hv
  obtain ⟨rfl, hsz, hP, hD0, hE⟩ := hv
  have hx := B.exec
  have hb := B.bytes
  have hr := B.returns
  have hT : ∀ w ∈ TB, w.before _ s = true := fun w h => atoms_spec (ws := hz_w yX3_init cX3_init 1 none) B.pre w (List.mem_cons_of_mem _ h)
  have hown : s.vm.findClass RX3 = some m.cls := findClass_of_methodNamed B.named
  have hlocks := B.notSynchronized
  have hin : meth.name = "<init>" := (name_of_methodNamed B.named B.method).1
  clear B
  subst hsz
  have hD := hD0.self (sz := s.heap.size)
  generalize hAe : va_A [(h0, .inr (3, [.null, .null]))] s.heap.size = A at hD hE ⊢
  have hA : ∀ q : Nat, s.heap.size ≤ q → A q := fun q h => by rw [← hAe]; exact Or.inr h
  clear hAe hD0
  have hS : va_S A s.heap s.heap [] := va_S.rf
  have hK := hE.1
  have hl := lv_entry ([.ref h0]) (n := 1) (Nat.le_of_ble_eq_true rfl)
  rw [lg_entry_eq]
  generalize (lg_sl ([.ref h0]) ++ List.replicate (1 - (lg_sl ([.ref h0])).length) Slot.unset).toArray = ls at hl ⊢
  have hl : lv_has ls 1 [(0, .ref h0)] := hl
  obtain ⟨H, eH⟩ : ∃ z, z = s.heap := ⟨_, rfl⟩
  have hP : va_P D classes [(h0, .inr (3, [.null, .null]))] H := by rw [eH]; exact hP
  have hS : va_S A s.heap H [] := by rw [eH]; exact hS
  rw [← eH]
  clear eH
  refine lv_aload_n hx hb dX3_init_0 rfl (lv_at hl 0 rfl) ?_
  refine W.objInit hx hb hown (hT _ q_33) (hT _ q_1) (hT _ q_2) rfl (by rw [hml]; exact hl.1) rfl dX3_init_1 (Nat.le_of_ble_eq_true rfl) (Nat.le_of_ble_eq_true rfl) ?_
  refine W.eq (g2 := F0 m 4 ls []) rfl ?_
  refine lv_aload_n hx hb dX3_init_4 rfl (lv_at hl 0 rfl) ?_
  refine lv_sipush (v := 4096) hx hb dX3_init_5 (by decide) ?_
  refine hz_newa (atype := .int) (ty := .int) (N' := 4096) (a0 := (4096, .inl (fun _ => 0))) hx hb (hT _ q_3) rfl hK hP hD hS hA (fun _ => rfl) (by decide) (by decide) (Nat.le_of_ble_eq_true rfl) (Nat.le_of_ble_eq_true rfl) (Nat.le_of_ble_eq_true rfl) dX3_init_8 0 rfl (fun n_1 H hP hD hS => ?_)
  have hP : va_P D classes [(h0, .inr (3, [.null, .null])), (n_1, .inl (cs 0, 4096, .inl (fun _ => 0)))] H := hP
  have hD : va_D A [(h0, .inr (3, [.null, .null])), (n_1, .inl (cs 0, 4096, .inl (fun _ => 0)))] := hD
  refine W.widen (k := 1) (n := 4096) (Nat.le_of_ble_eq_true rfl) (Nat.le_of_ble_eq_true rfl) ?_
  refine va_putF (D := D) (ci := 3) (v := .ref n_1) (ty := .array .int) (C := RX3) (T := TX3) (N := 2) hx hb hT i_X3 tyX3 tyX3_ok nmX3 hown hK hP hD hS 0 rfl rfl 1 (by decide) (hT _ q_34) (fun _ h9 => h9) rfl hin rfl (by decide +kernel) rfl rfl (Nat.le_of_ble_eq_true rfl) dX3_init_10 (fun H locs hP hD hS => ?_)
  have hP : va_P D classes [(h0, .inr (3, [.null, .ref n_1])), (n_1, .inl (cs 0, 4096, .inl (fun _ => 0)))] H := hP
  have hD : va_D A [(h0, .inr (3, [.null, .ref n_1])), (n_1, .inl (cs 0, 4096, .inl (fun _ => 0)))] := hD
  exact W.vret hx hb hr (fun t ht hW => ⟨⟨(), rfl, trivial, (fun k => match k with | 0 => n_1 | _ => 0), by rw [ht]; exact hP.sub [0] rfl, hD.sub [0] (by decide) rfl⟩, hS.F ht⟩) hS.2.2 dX3_init_13
theorem dX10_init_0 : decode cX10_init 0 = .ok (.aload_n 0, 1) := by decide +kernel
theorem dX10_init_1 : decode cX10_init 1 = .ok (.invokespecial 3, 3) := by decide +kernel
theorem dX10_init_4 : decode cX10_init 4 = .ok (.aload_n 0, 1) := by decide +kernel
theorem dX10_init_5 : decode cX10_init 5 = .ok (.sipush 2048, 3) := by decide +kernel
theorem dX10_init_8 : decode cX10_init 8 = .ok (.newarray .int, 2) := by decide +kernel
theorem dX10_init_10 : decode cX10_init 10 = .ok (.putfield 11, 3) := by decide +kernel
theorem dX10_init_13 : decode cX10_init 13 = .ok (.aload_n 0, 1) := by decide +kernel
theorem dX10_init_14 : decode cX10_init 14 = .ok (.sipush 2048, 3) := by decide +kernel
theorem dX10_init_17 : decode cX10_init 17 = .ok (.newarray .int, 2) := by decide +kernel
theorem dX10_init_19 : decode cX10_init 19 = .ok (.putfield 15, 3) := by decide +kernel
theorem dX10_init_22 : decode cX10_init 22 = .ok (.aload_n 0, 1) := by decide +kernel
theorem dX10_init_23 : decode cX10_init 23 = .ok (.sipush 256, 3) := by decide +kernel
theorem dX10_init_26 : decode cX10_init 26 = .ok (.newarray .int, 2) := by decide +kernel
theorem dX10_init_28 : decode cX10_init 28 = .ok (.putfield 18, 3) := by decide +kernel
theorem dX10_init_31 : decode cX10_init 31 = .ok (.aload_n 0, 1) := by decide +kernel
theorem dX10_init_32 : decode cX10_init 32 = .ok (.bipush 12, 2) := by decide +kernel
theorem dX10_init_34 : decode cX10_init 34 = .ok (.newarray .int, 2) := by decide +kernel
theorem dX10_init_36 : decode cX10_init 36 = .ok (.putfield 21, 3) := by decide +kernel
theorem dX10_init_39 : decode cX10_init 39 = .ok (.return_, 1) := by decide +kernel
set_option maxHeartbeats 4000000 in
set_option maxRecDepth 100000 in
theorem c_X10_init (l : Launch) (D : va_G) (cs : Nat → ClassId) (kK kV : Nat → Nat) (h0 : Nat) (sz : Nat) : Met l yX10_init (hz_w yX10_init cX10_init 1 none) ({ frames := 1, cells := 4, slots := 4364, locals := 12 }) (va_Pc [.ref h0] (hz_C D cs kK kV sz [(h0, .inr (10, [.null, .null, .null, .null, .null, .null, .int 0, .int 0, .int 0, .int 0, .int 0]))])) (va_Qv (fun (_ : Unit) => True) (fun _ t => ∃ (g : Nat → Nat), va_P D classes [(h0, .inr (10, [.ref (g 0), .ref (g 1), .ref (g 2), .ref (g 3), .null, .null, .int 0, .int 0, .int 0, .int 0, .int 0]))] t.heap ∧ va_D (va_A [(h0, .inr (10, [.null, .null, .null, .null, .null, .null, .int 0, .int 0, .int 0, .int 0, .int 0]))] sz) [(h0, .inr (10, [.ref (g 0), .ref (g 1), .ref (g 2), .ref (g 3), .null, .null, .int 0, .int 0, .int 0, .int 0, .int 0]))]) (va_A [(h0, .inr (10, [.null, .null, .null, .null, .null, .null, .int 0, .int 0, .int 0, .int 0, .int 0]))] sz)) 4 4364 (va_A [(h0, .inr (10, [.null, .null, .null, .null, .null, .null, .int 0, .int 0, .int 0, .int 0, .int 0]))] sz) := by
  refine Met.ofW (cc := cX10_init) (maxL := 1) (ret := none) (by decide) rfl ?_
  intro p e s m args below meth c s₁ B hml hv
  obtain ⟨rfl, hsz, hP, hD0, hE⟩ := hv
  have hx := B.exec
  have hb := B.bytes
  have hr := B.returns
  have hT : ∀ w ∈ TB, w.before _ s = true := fun w h => atoms_spec (ws := hz_w yX10_init cX10_init 1 none) B.pre w (List.mem_cons_of_mem _ h)
  have hown : s.vm.findClass RX10 = some m.cls := findClass_of_methodNamed B.named
  have hlocks := B.notSynchronized
  have hin : meth.name = "<init>" := (name_of_methodNamed B.named B.method).1
  clear B
  subst hsz
  have hD := hD0.self (sz := s.heap.size)
  generalize hAe : va_A [(h0, .inr (10, [.null, .null, .null, .null, .null, .null, .int 0, .int 0, .int 0, .int 0, .int 0]))] s.heap.size = A at hD hE ⊢
  have hA : ∀ q : Nat, s.heap.size ≤ q → A q := fun q h => by rw [← hAe]; exact Or.inr h
  clear hAe hD0
  have hS : va_S A s.heap s.heap [] := va_S.rf
  have hK := hE.1
  have hl := lv_entry ([.ref h0]) (n := 1) (Nat.le_of_ble_eq_true rfl)
  rw [lg_entry_eq]
  generalize (lg_sl ([.ref h0]) ++ List.replicate (1 - (lg_sl ([.ref h0])).length) Slot.unset).toArray = ls at hl ⊢
  have hl : lv_has ls 1 [(0, .ref h0)] := hl
  obtain ⟨H, eH⟩ : ∃ z, z = s.heap := ⟨_, rfl⟩
  have hP : va_P D classes [(h0, .inr (10, [.null, .null, .null, .null, .null, .null, .int 0, .int 0, .int 0, .int 0, .int 0]))] H := by rw [eH]; exact hP
  have hS : va_S A s.heap H [] := by rw [eH]; exact hS
  rw [← eH]
  clear eH
  refine lv_aload_n hx hb dX10_init_0 rfl (lv_at hl 0 rfl) ?_
  refine W.objInit hx hb hown (hT _ q_35) (hT _ q_1) (hT _ q_2) rfl (by rw [hml]; exact hl.1) rfl dX10_init_1 (Nat.le_of_ble_eq_true rfl) (Nat.le_of_ble_eq_true rfl) ?_
  refine W.eq (g2 := F0 m 4 ls []) rfl ?_
  refine lv_aload_n hx hb dX10_init_4 rfl (lv_at hl 0 rfl) ?_
  refine lv_sipush (v := 2048) hx hb dX10_init_5 (by decide) ?_
  refine hz_newa (atype := .int) (ty := .int) (N' := 2048) (a0 := (2048, .inl (fun _ => 0))) hx hb (hT _ q_3) rfl hK hP hD hS hA (fun _ => rfl) (by decide) (by decide) (Nat.le_of_ble_eq_true rfl) (Nat.le_of_ble_eq_true rfl) (Nat.le_of_ble_eq_true rfl) dX10_init_8 0 rfl (fun n_1 H hP hD hS => ?_)
  have hP : va_P D classes [(h0, .inr (10, [.null, .null, .null, .null, .null, .null, .int 0, .int 0, .int 0, .int 0, .int 0])), (n_1, .inl (cs 0, 2048, .inl (fun _ => 0)))] H := hP
  have hD : va_D A [(h0, .inr (10, [.null, .null, .null, .null, .null, .null, .int 0, .int 0, .int 0, .int 0, .int 0])), (n_1, .inl (cs 0, 2048, .inl (fun _ => 0)))] := hD
  refine W.widen (k := 1) (n := 2048) (Nat.le_of_ble_eq_true rfl) (Nat.le_of_ble_eq_true rfl) ?_
  refine va_put (D := D) (ci := 10) (v := .ref n_1) (ty := .array .int) (C := RX10) (T := TX10) (N := 11) hx hb hT i_X10 tyX10 tyX10_ok nmX10 hown hK hP hD hS 0 rfl rfl 0 (by decide) (hT _ q_36) (fun _ h9 => h9) rfl (by decide +kernel) rfl rfl (Nat.le_of_ble_eq_true rfl) dX10_init_10 (fun H locs hP hD hS => ?_)
  have hP : va_P D classes [(h0, .inr (10, [.ref n_1, .null, .null, .null, .null, .null, .int 0, .int 0, .int 0, .int 0, .int 0])), (n_1, .inl (cs 0, 2048, .inl (fun _ => 0)))] H := hP
  have hD : va_D A [(h0, .inr (10, [.ref n_1, .null, .null, .null, .null, .null, .int 0, .int 0, .int 0, .int 0, .int 0])), (n_1, .inl (cs 0, 2048, .inl (fun _ => 0)))] := hD
  refine lv_aload_n hx hb dX10_init_13 rfl (lv_at hl 0 rfl) ?_
  refine lv_sipush (v := 2048) hx hb dX10_init_14 (by decide) ?_
  refine hz_newa (atype := .int) (ty := .int) (N' := 2048) (a0 := (2048, .inl (fun _ => 0))) hx hb (hT _ q_3) rfl hK hP hD hS hA (fun _ => rfl) (by decide) (by decide) (Nat.le_of_ble_eq_true rfl) (Nat.le_of_ble_eq_true rfl) (Nat.le_of_ble_eq_true rfl) dX10_init_17 0 rfl (fun n_2 H hP hD hS => ?_)
  have hP : va_P D classes [(h0, .inr (10, [.ref n_1, .null, .null, .null, .null, .null, .int 0, .int 0, .int 0, .int 0, .int 0])), (n_1, .inl (cs 0, 2048, .inl (fun _ => 0))), (n_2, .inl (cs 0, 2048, .inl (fun _ => 0)))] H := hP
  have hD : va_D A [(h0, .inr (10, [.ref n_1, .null, .null, .null, .null, .null, .int 0, .int 0, .int 0, .int 0, .int 0])), (n_1, .inl (cs 0, 2048, .inl (fun _ => 0))), (n_2, .inl (cs 0, 2048, .inl (fun _ => 0)))] := hD
  refine W.widen (k := 2) (n := 4096) (Nat.le_of_ble_eq_true rfl) (Nat.le_of_ble_eq_true rfl) ?_
  refine va_put (D := D) (ci := 10) (v := .ref n_2) (ty := .array .int) (C := RX10) (T := TX10) (N := 11) hx hb hT i_X10 tyX10 tyX10_ok nmX10 hown hK hP hD hS 0 rfl rfl 1 (by decide) (hT _ q_37) (fun _ h9 => h9) rfl (by decide +kernel) rfl rfl (Nat.le_of_ble_eq_true rfl) dX10_init_19 (fun H locs hP hD hS => ?_)
  have hP : va_P D classes [(h0, .inr (10, [.ref n_1, .ref n_2, .null, .null, .null, .null, .int 0, .int 0, .int 0, .int 0, .int 0])), (n_1, .inl (cs 0, 2048, .inl (fun _ => 0))), (n_2, .inl (cs 0, 2048, .inl (fun _ => 0)))] H := hP
  have hD : va_D A [(h0, .inr (10, [.ref n_1, .ref n_2, .null, .null, .null, .null, .int 0, .int 0, .int 0, .int 0, .int 0])), (n_1, .inl (cs 0, 2048, .inl (fun _ => 0))), (n_2, .inl (cs 0, 2048, .inl (fun _ => 0)))] := hD
  refine lv_aload_n hx hb dX10_init_22 rfl (lv_at hl 0 rfl) ?_
  refine lv_sipush (v := 256) hx hb dX10_init_23 (by decide) ?_
  refine hz_newa (atype := .int) (ty := .int) (N' := 256) (a0 := (256, .inl (fun _ => 0))) hx hb (hT _ q_3) rfl hK hP hD hS hA (fun _ => rfl) (by decide) (by decide) (Nat.le_of_ble_eq_true rfl) (Nat.le_of_ble_eq_true rfl) (Nat.le_of_ble_eq_true rfl) dX10_init_26 0 rfl (fun n_3 H hP hD hS => ?_)
  have hP : va_P D classes [(h0, .inr (10, [.ref n_1, .ref n_2, .null, .null, .null, .null, .int 0, .int 0, .int 0, .int 0, .int 0])), (n_1, .inl (cs 0, 2048, .inl (fun _ => 0))), (n_2, .inl (cs 0, 2048, .inl (fun _ => 0))), (n_3, .inl (cs 0, 256, .inl (fun _ => 0)))] H := hP
  have hD : va_D A [(h0, .inr (10, [.ref n_1, .ref n_2, .null, .null, .null, .null, .int 0, .int 0, .int 0, .int 0, .int 0])), (n_1, .inl (cs 0, 2048, .inl (fun _ => 0))), (n_2, .inl (cs 0, 2048, .inl (fun _ => 0))), (n_3, .inl (cs 0, 256, .inl (fun _ => 0)))] := hD
  refine W.widen (k := 3) (n := 4352) (Nat.le_of_ble_eq_true rfl) (Nat.le_of_ble_eq_true rfl) ?_
  refine va_putF (D := D) (ci := 10) (v := .ref n_3) (ty := .array .int) (C := RX10) (T := TX10) (N := 11) hx hb hT i_X10 tyX10 tyX10_ok nmX10 hown hK hP hD hS 0 rfl rfl 2 (by decide) (hT _ q_38) (fun _ h9 => h9) rfl hin rfl (by decide +kernel) rfl rfl (Nat.le_of_ble_eq_true rfl) dX10_init_28 (fun H locs hP hD hS => ?_)
  have hP : va_P D classes [(h0, .inr (10, [.ref n_1, .ref n_2, .ref n_3, .null, .null, .null, .int 0, .int 0, .int 0, .int 0, .int 0])), (n_1, .inl (cs 0, 2048, .inl (fun _ => 0))), (n_2, .inl (cs 0, 2048, .inl (fun _ => 0))), (n_3, .inl (cs 0, 256, .inl (fun _ => 0)))] H := hP
  have hD : va_D A [(h0, .inr (10, [.ref n_1, .ref n_2, .ref n_3, .null, .null, .null, .int 0, .int 0, .int 0, .int 0, .int 0])), (n_1, .inl (cs 0, 2048, .inl (fun _ => 0))), (n_2, .inl (cs 0, 2048, .inl (fun _ => 0))), (n_3, .inl (cs 0, 256, .inl (fun _ => 0)))] := hD
  refine lv_aload_n hx hb dX10_init_31 rfl (lv_at hl 0 rfl) ?_
  refine lv_bipush (v := 12) hx hb dX10_init_32 (by decide) ?_
  refine hz_newa (atype := .int) (ty := .int) (N' := 12) (a0 := (12, .inl (fun _ => 0))) hx hb (hT _ q_3) rfl hK hP hD hS hA (fun _ => rfl) (by decide) (by decide) (Nat.le_of_ble_eq_true rfl) (Nat.le_of_ble_eq_true rfl) (Nat.le_of_ble_eq_true rfl) dX10_init_34 0 rfl (fun n_4 H hP hD hS => ?_)
  have hP : va_P D classes [(h0, .inr (10, [.ref n_1, .ref n_2, .ref n_3, .null, .null, .null, .int 0, .int 0, .int 0, .int 0, .int 0])), (n_1, .inl (cs 0, 2048, .inl (fun _ => 0))), (n_2, .inl (cs 0, 2048, .inl (fun _ => 0))), (n_3, .inl (cs 0, 256, .inl (fun _ => 0))), (n_4, .inl (cs 0, 12, .inl (fun _ => 0)))] H := hP
  have hD : va_D A [(h0, .inr (10, [.ref n_1, .ref n_2, .ref n_3, .null, .null, .null, .int 0, .int 0, .int 0, .int 0, .int 0])), (n_1, .inl (cs 0, 2048, .inl (fun _ => 0))), (n_2, .inl (cs 0, 2048, .inl (fun _ => 0))), (n_3, .inl (cs 0, 256, .inl (fun _ => 0))), (n_4, .inl (cs 0, 12, .inl (fun _ => 0)))] := hD
  refine W.widen (k := 4) (n := 4364) (Nat.le_of_ble_eq_true rfl) (Nat.le_of_ble_eq_true rfl) ?_
  refine va_putF (D := D) (ci := 10) (v := .ref n_4) (ty := .array .int) (C := RX10) (T := TX10) (N := 11) hx hb hT i_X10 tyX10 tyX10_ok nmX10 hown hK hP hD hS 0 rfl rfl 3 (by decide) (hT _ q_39) (fun _ h9 => h9) rfl hin rfl (by decide +kernel) rfl rfl (Nat.le_of_ble_eq_true rfl) dX10_init_36 (fun H locs hP hD hS => ?_)
  have hP : va_P D classes [(h0, .inr (10, [.ref n_1, .ref n_2, .ref n_3, .ref n_4, .null, .null, .int 0, .int 0, .int 0, .int 0, .int 0])), (n_1, .inl (cs 0, 2048, .inl (fun _ => 0))), (n_2, .inl (cs 0, 2048, .inl (fun _ => 0))), (n_3, .inl (cs 0, 256, .inl (fun _ => 0))), (n_4, .inl (cs 0, 12, .inl (fun _ => 0)))] H := hP
  have hD : va_D A [(h0, .inr (10, [.ref n_1, .ref n_2, .ref n_3, .ref n_4, .null, .null, .int 0, .int 0, .int 0, .int 0, .int 0])), (n_1, .inl (cs 0, 2048, .inl (fun _ => 0))), (n_2, .inl (cs 0, 2048, .inl (fun _ => 0))), (n_3, .inl (cs 0, 256, .inl (fun _ => 0))), (n_4, .inl (cs 0, 12, .inl (fun _ => 0)))] := hD
  exact W.vret hx hb hr (fun t ht hW => ⟨⟨(), rfl, trivial, (fun k => match k with | 0 => n_1 | 1 => n_2 | 2 => n_3 | 3 => n_4 | _ => 0), by rw [ht]; exact hP.sub [0] rfl, hD.sub [0] (by decide) rfl⟩, hS.F ht⟩) hS.2.2 dX10_init_39
theorem dX2_init_0 : decode cX2_init 0 = .ok (.aload_n 0, 1) := by decide +kernel
theorem dX2_init_1 : decode cX2_init 1 = .ok (.invokespecial 3, 3) := by decide +kernel
theorem dX2_init_4 : decode cX2_init 4 = .ok (.aload_n 0, 1) := by decide +kernel
theorem dX2_init_5 : decode cX2_init 5 = .ok (.bipush 60, 2) := by decide +kernel
theorem dX2_init_7 : decode cX2_init 7 = .ok (.newarray .long, 2) := by decide +kernel
theorem dX2_init_9 : decode cX2_init 9 = .ok (.putfield 11, 3) := by decide +kernel
theorem dX2_init_12 : decode cX2_init 12 = .ok (.aload_n 0, 1) := by decide +kernel
theorem dX2_init_13 : decode cX2_init 13 = .ok (.bipush 13, 2) := by decide +kernel
theorem dX2_init_15 : decode cX2_init 15 = .ok (.newarray .int, 2) := by decide +kernel
theorem dX2_init_17 : decode cX2_init 17 = .ok (.putfield 17, 3) := by decide +kernel
theorem dX2_init_20 : decode cX2_init 20 = .ok (.return_, 1) := by decide +kernel
set_option maxHeartbeats 4000000 in
set_option maxRecDepth 100000 in
theorem c_X2_init (l : Launch) (D : va_G) (cs : Nat → ClassId) (kK kV : Nat → Nat) (h0 : Nat) (sz : Nat) : Met l yX2_init (hz_w yX2_init cX2_init 1 none) ({ frames := 1, cells := 2, slots := 73, locals := 12 }) (va_Pc [.ref h0] (hz_C D cs kK kV sz [(h0, .inr (2, [.null, .null, .null, .null, .null, .int 0, .int 0, .int 0, .int 0, .int 0]))])) (va_Qv (fun (_ : Unit) => True) (fun _ t => ∃ (g : Nat → Nat), va_P D classes [(h0, .inr (2, [.ref (g 0), .null, .null, .null, .ref (g 1), .int 0, .int 0, .int 0, .int 0, .int 0]))] t.heap ∧ va_D (va_A [(h0, .inr (2, [.null, .null, .null, .null, .null, .int 0, .int 0, .int 0, .int 0, .int 0]))] sz) [(h0, .inr (2, [.ref (g 0), .null, .null, .null, .ref (g 1), .int 0, .int 0, .int 0, .int 0, .int 0]))]) (va_A [(h0, .inr (2, [.null, .null, .null, .null, .null, .int 0, .int 0, .int 0, .int 0, .int 0]))] sz)) 2 73 (va_A [(h0, .inr (2, [.null, .null, .null, .null, .null, .int 0, .int 0, .int 0, .int 0, .int 0]))] sz) := by
  refine Met.ofW (cc := cX2_init) (maxL := 1) (ret := none) (by decide) rfl ?_
  intro p e s m args below meth c s₁ B hml hv
  obtain ⟨rfl, hsz, hP, hD0, hE⟩ := hv
  have hx := B.exec
  have hb := B.bytes
  have hr := B.returns
  have hT : ∀ w ∈ TB, w.before _ s = true := fun w h => atoms_spec (ws := hz_w yX2_init cX2_init 1 none) B.pre w (List.mem_cons_of_mem _ h)
  have hown : s.vm.findClass RX2 = some m.cls := findClass_of_methodNamed B.named
  have hlocks := B.notSynchronized
  have hin : meth.name = "<init>" := (name_of_methodNamed B.named B.method).1
  clear B
  subst hsz
  have hD := hD0.self (sz := s.heap.size)
  generalize hAe : va_A [(h0, .inr (2, [.null, .null, .null, .null, .null, .int 0, .int 0, .int 0, .int 0, .int 0]))] s.heap.size = A at hD hE ⊢
  have hA : ∀ q : Nat, s.heap.size ≤ q → A q := fun q h => by rw [← hAe]; exact Or.inr h
  clear hAe hD0
  have hS : va_S A s.heap s.heap [] := va_S.rf
  have hK := hE.1
  have hl := lv_entry ([.ref h0]) (n := 1) (Nat.le_of_ble_eq_true rfl)
  rw [lg_entry_eq]
  generalize (lg_sl ([.ref h0]) ++ List.replicate (1 - (lg_sl ([.ref h0])).length) Slot.unset).toArray = ls at hl ⊢
  have hl : lv_has ls 1 [(0, .ref h0)] := hl
  obtain ⟨H, eH⟩ : ∃ z, z = s.heap := ⟨_, rfl⟩
  have hP : va_P D classes [(h0, .inr (2, [.null, .null, .null, .null, .null, .int 0, .int 0, .int 0, .int 0, .int 0]))] H := by rw [eH]; exact hP
  have hS : va_S A s.heap H [] := by rw [eH]; exact hS
  rw [← eH]
  clear eH
  refine lv_aload_n hx hb dX2_init_0 rfl (lv_at hl 0 rfl) ?_
  refine W.objInit hx hb hown (hT _ q_40) (hT _ q_1) (hT _ q_2) rfl (by rw [hml]; exact hl.1) rfl dX2_init_1 (Nat.le_of_ble_eq_true rfl) (Nat.le_of_ble_eq_true rfl) ?_
  refine W.eq (g2 := F0 m 4 ls []) rfl ?_
  refine lv_aload_n hx hb dX2_init_4 rfl (lv_at hl 0 rfl) ?_
  refine lv_bipush (v := 60) hx hb dX2_init_5 (by decide) ?_
  refine hz_newa (atype := .long) (ty := .long) (N' := 60) (a0 := (60, .inr (.inl (fun _ => 0)))) hx hb (hT _ q_41) rfl hK hP hD hS hA (fun _ => rfl) (by decide) (by decide) (Nat.le_of_ble_eq_true rfl) (Nat.le_of_ble_eq_true rfl) (Nat.le_of_ble_eq_true rfl) dX2_init_7 3 rfl (fun n_1 H hP hD hS => ?_)
  have hP : va_P D classes [(h0, .inr (2, [.null, .null, .null, .null, .null, .int 0, .int 0, .int 0, .int 0, .int 0])), (n_1, .inl (cs 3, 60, .inr (.inl (fun _ => 0))))] H := hP
  have hD : va_D A [(h0, .inr (2, [.null, .null, .null, .null, .null, .int 0, .int 0, .int 0, .int 0, .int 0])), (n_1, .inl (cs 3, 60, .inr (.inl (fun _ => 0))))] := hD
  refine W.widen (k := 1) (n := 60) (Nat.le_of_ble_eq_true rfl) (Nat.le_of_ble_eq_true rfl) ?_
  refine va_putF (D := D) (ci := 2) (v := .ref n_1) (ty := .array .long) (C := RX2) (T := TX2) (N := 10) hx hb hT i_X2 tyX2 tyX2_ok nmX2 hown hK hP hD hS 0 rfl rfl 0 (by decide) (hT _ q_42) (fun _ h9 => h9) rfl hin rfl (by decide +kernel) rfl rfl (Nat.le_of_ble_eq_true rfl) dX2_init_9 (fun H locs hP hD hS => ?_)
  have hP : va_P D classes [(h0, .inr (2, [.ref n_1, .null, .null, .null, .null, .int 0, .int 0, .int 0, .int 0, .int 0])), (n_1, .inl (cs 3, 60, .inr (.inl (fun _ => 0))))] H := hP
  have hD : va_D A [(h0, .inr (2, [.ref n_1, .null, .null, .null, .null, .int 0, .int 0, .int 0, .int 0, .int 0])), (n_1, .inl (cs 3, 60, .inr (.inl (fun _ => 0))))] := hD
  refine lv_aload_n hx hb dX2_init_12 rfl (lv_at hl 0 rfl) ?_
  refine lv_bipush (v := 13) hx hb dX2_init_13 (by decide) ?_
  refine hz_newa (atype := .int) (ty := .int) (N' := 13) (a0 := (13, .inl (fun _ => 0))) hx hb (hT _ q_3) rfl hK hP hD hS hA (fun _ => rfl) (by decide) (by decide) (Nat.le_of_ble_eq_true rfl) (Nat.le_of_ble_eq_true rfl) (Nat.le_of_ble_eq_true rfl) dX2_init_15 0 rfl (fun n_2 H hP hD hS => ?_)
  have hP : va_P D classes [(h0, .inr (2, [.ref n_1, .null, .null, .null, .null, .int 0, .int 0, .int 0, .int 0, .int 0])), (n_1, .inl (cs 3, 60, .inr (.inl (fun _ => 0)))), (n_2, .inl (cs 0, 13, .inl (fun _ => 0)))] H := hP
  have hD : va_D A [(h0, .inr (2, [.ref n_1, .null, .null, .null, .null, .int 0, .int 0, .int 0, .int 0, .int 0])), (n_1, .inl (cs 3, 60, .inr (.inl (fun _ => 0)))), (n_2, .inl (cs 0, 13, .inl (fun _ => 0)))] := hD
  refine W.widen (k := 2) (n := 73) (Nat.le_of_ble_eq_true rfl) (Nat.le_of_ble_eq_true rfl) ?_
  refine va_putF (D := D) (ci := 2) (v := .ref n_2) (ty := .array .int) (C := RX2) (T := TX2) (N := 10) hx hb hT i_X2 tyX2 tyX2_ok nmX2 hown hK hP hD hS 0 rfl rfl 4 (by decide) (hT _ q_43) (fun _ h9 => h9) rfl hin rfl (by decide +kernel) rfl rfl (Nat.le_of_ble_eq_true rfl) dX2_init_17 (fun H locs hP hD hS => ?_)
  have hP : va_P D classes [(h0, .inr (2, [.ref n_1, .null, .null, .null, .ref n_2, .int 0, .int 0, .int 0, .int 0, .int 0])), (n_1, .inl (cs 3, 60, .inr (.inl (fun _ => 0)))), (n_2, .inl (cs 0, 13, .inl (fun _ => 0)))] H := hP
  have hD : va_D A [(h0, .inr (2, [.ref n_1, .null, .null, .null, .ref n_2, .int 0, .int 0, .int 0, .int 0, .int 0])), (n_1, .inl (cs 3, 60, .inr (.inl (fun _ => 0)))), (n_2, .inl (cs 0, 13, .inl (fun _ => 0)))] := hD
  exact W.vret hx hb hr (fun t ht hW => ⟨⟨(), rfl, trivial, (fun k => match k with | 0 => n_1 | 1 => n_2 | _ => 0), by rw [ht]; exact hP.sub [0] rfl, hD.sub [0] (by decide) rfl⟩, hS.F ht⟩) hS.2.2 dX2_init_20
theorem dX4_init_0 : decode cX4_init 0 = .ok (.aload_n 0, 1) := by decide +kernel
theorem dX4_init_1 : decode cX4_init 1 = .ok (.invokespecial 1, 3) := by decide +kernel
theorem dX4_init_4 : decode cX4_init 4 = .ok (.aload_n 0, 1) := by decide +kernel
theorem dX4_init_5 : decode cX4_init 5 = .ok (.bipush 12, 2) := by decide +kernel
theorem dX4_init_7 : decode cX4_init 7 = .ok (.newarray .int, 2) := by decide +kernel
theorem dX4_init_9 : decode cX4_init 9 = .ok (.putfield 9, 3) := by decide +kernel
theorem dX4_init_12 : decode cX4_init 12 = .ok (.aload_n 0, 1) := by decide +kernel
theorem dX4_init_13 : decode cX4_init 13 = .ok (.bipush 12, 2) := by decide +kernel
theorem dX4_init_15 : decode cX4_init 15 = .ok (.newarray .int, 2) := by decide +kernel
theorem dX4_init_17 : decode cX4_init 17 = .ok (.putfield 13, 3) := by decide +kernel
theorem dX4_init_20 : decode cX4_init 20 = .ok (.aload_n 0, 1) := by decide +kernel
theorem dX4_init_21 : decode cX4_init 21 = .ok (.bipush 12, 2) := by decide +kernel
theorem dX4_init_23 : decode cX4_init 23 = .ok (.newarray .int, 2) := by decide +kernel
theorem dX4_init_25 : decode cX4_init 25 = .ok (.putfield 16, 3) := by decide +kernel
theorem dX4_init_28 : decode cX4_init 28 = .ok (.aload_n 0, 1) := by decide +kernel
theorem dX4_init_29 : decode cX4_init 29 = .ok (.bipush 12, 2) := by decide +kernel
theorem dX4_init_31 : decode cX4_init 31 = .ok (.newarray .int, 2) := by decide +kernel
theorem dX4_init_33 : decode cX4_init 33 = .ok (.putfield 19, 3) := by decide +kernel
theorem dX4_init_36 : decode cX4_init 36 = .ok (.aload_n 0, 1) := by decide +kernel
theorem dX4_init_37 : decode cX4_init 37 = .ok (.iconst 0, 1) := by decide +kernel
theorem dX4_init_38 : decode cX4_init 38 = .ok (.newarray .int, 2) := by decide +kernel
theorem dX4_init_40 : decode cX4_init 40 = .ok (.putfield 22, 3) := by decide +kernel
theorem dX4_init_43 : decode cX4_init 43 = .ok (.return_, 1) := by decide +kernel
set_option maxHeartbeats 4000000 in
set_option maxRecDepth 100000 in
theorem c_X4_init (l : Launch) (D : va_G) (cs : Nat → ClassId) (kK kV : Nat → Nat) (h0 : Nat) (sz : Nat) : Met l yX4_init (hz_w yX4_init cX4_init 1 none) ({ frames := 1, cells := 5, slots := 48, locals := 12 }) (va_Pc [.ref h0] (hz_C D cs kK kV sz [(h0, .inr (4, [.int 0, .null, .null, .null, .null, .null]))])) (va_Qv (fun (_ : Unit) => True) (fun _ t => ∃ (g : Nat → Nat), va_P D classes [(h0, .inr (4, [.int 0, .ref (g 0), .ref (g 1), .ref (g 2), .ref (g 3), .ref (g 4)]))] t.heap ∧ va_D (va_A [(h0, .inr (4, [.int 0, .null, .null, .null, .null, .null]))] sz) [(h0, .inr (4, [.int 0, .ref (g 0), .ref (g 1), .ref (g 2), .ref (g 3), .ref (g 4)]))]) (va_A [(h0, .inr (4, [.int 0, .null, .null, .null, .null, .null]))] sz)) 5 48 (va_A [(h0, .inr (4, [.int 0, .null, .null, .null, .null, .null]))] sz) := by
  refine Met.ofW (cc := cX4_init) (maxL := 1) (ret := none) (by decide) rfl ?_
  intro p e s m args below meth c s₁ B hml hv
  obtain ⟨rfl, hsz, hP, hD0, hE⟩ := hv
  have hx := B.exec
  have hb := B.bytes
  have hr := B.returns
  have hT : ∀ w ∈ TB, w.before _ s = true := fun w h => atoms_spec (ws := hz_w yX4_init cX4_init 1 none) B.pre w (List.mem_cons_of_mem _ h)
  have hown : s.vm.findClass RX4 = some m.cls := findClass_of_methodNamed B.named
  have hlocks := B.notSynchronized
  have hin : meth.name = "<init>" := (name_of_methodNamed B.named B.method).1
  clear B
  subst hsz
  have hD := hD0.self (sz := s.heap.size)
  generalize hAe : va_A [(h0, .inr (4, [.int 0, .null, .null, .null, .null, .null]))] s.heap.size = A at hD hE ⊢
  have hA : ∀ q : Nat, s.heap.size ≤ q → A q := fun q h => by rw [← hAe]; exact Or.inr h
  clear hAe hD0
  have hS : va_S A s.heap s.heap [] := va_S.rf
  have hK := hE.1
  have hl := lv_entry ([.ref h0]) (n := 1) (Nat.le_of_ble_eq_true rfl)
  rw [lg_entry_eq]
  generalize (lg_sl ([.ref h0]) ++ List.replicate (1 - (lg_sl ([.ref h0])).length) Slot.unset).toArray = ls at hl ⊢
  have hl : lv_has ls 1 [(0, .ref h0)] := hl
  obtain ⟨H, eH⟩ : ∃ z, z = s.heap := ⟨_, rfl⟩
  have hP : va_P D classes [(h0, .inr (4, [.int 0, .null, .null, .null, .null, .null]))] H := by rw [eH]; exact hP
  have hS : va_S A s.heap H [] := by rw [eH]; exact hS
  rw [← eH]
  clear eH
  refine lv_aload_n hx hb dX4_init_0 rfl (lv_at hl 0 rfl) ?_
  refine W.objInit hx hb hown (hT _ q_44) (hT _ q_1) (hT _ q_2) rfl (by rw [hml]; exact hl.1) rfl dX4_init_1 (Nat.le_of_ble_eq_true rfl) (Nat.le_of_ble_eq_true rfl) ?_
  refine W.eq (g2 := F0 m 4 ls []) rfl ?_
  refine lv_aload_n hx hb dX4_init_4 rfl (lv_at hl 0 rfl) ?_
  refine lv_bipush (v := 12) hx hb dX4_init_5 (by decide) ?_
  refine hz_newa (atype := .int) (ty := .int) (N' := 12) (a0 := (12, .inl (fun _ => 0))) hx hb (hT _ q_3) rfl hK hP hD hS hA (fun _ => rfl) (by decide) (by decide) (Nat.le_of_ble_eq_true rfl) (Nat.le_of_ble_eq_true rfl) (Nat.le_of_ble_eq_true rfl) dX4_init_7 0 rfl (fun n_1 H hP hD hS => ?_)
  have hP : va_P D classes [(h0, .inr (4, [.int 0, .null, .null, .null, .null, .null])), (n_1, .inl (cs 0, 12, .inl (fun _ => 0)))] H := hP
  have hD : va_D A [(h0, .inr (4, [.int 0, .null, .null, .null, .null, .null])), (n_1, .inl (cs 0, 12, .inl (fun _ => 0)))] := hD
  refine W.widen (k := 1) (n := 12) (Nat.le_of_ble_eq_true rfl) (Nat.le_of_ble_eq_true rfl) ?_
  refine va_putF (D := D) (ci := 4) (v := .ref n_1) (ty := .array .int) (C := RX4) (T := TX4) (N := 6) hx hb hT i_X4 tyX4 tyX4_ok nmX4 hown hK hP hD hS 0 rfl rfl 1 (by decide) (hT _ q_45) (fun _ h9 => h9) rfl hin rfl (by decide +kernel) rfl rfl (Nat.le_of_ble_eq_true rfl) dX4_init_9 (fun H locs hP hD hS => ?_)
  have hP : va_P D classes [(h0, .inr (4, [.int 0, .ref n_1, .null, .null, .null, .null])), (n_1, .inl (cs 0, 12, .inl (fun _ => 0)))] H := hP
  have hD : va_D A [(h0, .inr (4, [.int 0, .ref n_1, .null, .null, .null, .null])), (n_1, .inl (cs 0, 12, .inl (fun _ => 0)))] := hD
  refine lv_aload_n hx hb dX4_init_12 rfl (lv_at hl 0 rfl) ?_
  refine lv_bipush (v := 12) hx hb dX4_init_13 (by decide) ?_
  refine hz_newa (atype := .int) (ty := .int) (N' := 12) (a0 := (12, .inl (fun _ => 0))) hx hb (hT _ q_3) rfl hK hP hD hS hA (fun _ => rfl) (by decide) (by decide) (Nat.le_of_ble_eq_true rfl) (Nat.le_of_ble_eq_true rfl) (Nat.le_of_ble_eq_true rfl) dX4_init_15 0 rfl (fun n_2 H hP hD hS => ?_)
  have hP : va_P D classes [(h0, .inr (4, [.int 0, .ref n_1, .null, .null, .null, .null])), (n_1, .inl (cs 0, 12, .inl (fun _ => 0))), (n_2, .inl (cs 0, 12, .inl (fun _ => 0)))] H := hP
  have hD : va_D A [(h0, .inr (4, [.int 0, .ref n_1, .null, .null, .null, .null])), (n_1, .inl (cs 0, 12, .inl (fun _ => 0))), (n_2, .inl (cs 0, 12, .inl (fun _ => 0)))] := hD
  refine W.widen (k := 2) (n := 24) (Nat.le_of_ble_eq_true rfl) (Nat.le_of_ble_eq_true rfl) ?_
  refine va_putF (D := D) (ci := 4) (v := .ref n_2) (ty := .array .int) (C := RX4) (T := TX4) (N := 6) hx hb hT i_X4 tyX4 tyX4_ok nmX4 hown hK hP hD hS 0 rfl rfl 2 (by decide) (hT _ q_46) (fun _ h9 => h9) rfl hin rfl (by decide +kernel) rfl rfl (Nat.le_of_ble_eq_true rfl) dX4_init_17 (fun H locs hP hD hS => ?_)
  have hP : va_P D classes [(h0, .inr (4, [.int 0, .ref n_1, .ref n_2, .null, .null, .null])), (n_1, .inl (cs 0, 12, .inl (fun _ => 0))), (n_2, .inl (cs 0, 12, .inl (fun _ => 0)))] H := hP
  have hD : va_D A [(h0, .inr (4, [.int 0, .ref n_1, .ref n_2, .null, .null, .null])), (n_1, .inl (cs 0, 12, .inl (fun _ => 0))), (n_2, .inl (cs 0, 12, .inl (fun _ => 0)))] := hD
  refine lv_aload_n hx hb dX4_init_20 rfl (lv_at hl 0 rfl) ?_
  refine lv_bipush (v := 12) hx hb dX4_init_21 (by decide) ?_
  refine hz_newa (atype := .int) (ty := .int) (N' := 12) (a0 := (12, .inl (fun _ => 0))) hx hb (hT _ q_3) rfl hK hP hD hS hA (fun _ => rfl) (by decide) (by decide) (Nat.le_of_ble_eq_true rfl) (Nat.le_of_ble_eq_true rfl) (Nat.le_of_ble_eq_true rfl) dX4_init_23 0 rfl (fun n_3 H hP hD hS => ?_)
  have hP : va_P D classes [(h0, .inr (4, [.int 0, .ref n_1, .ref n_2, .null, .null, .null])), (n_1, .inl (cs 0, 12, .inl (fun _ => 0))), (n_2, .inl (cs 0, 12, .inl (fun _ => 0))), (n_3, .inl (cs 0, 12, .inl (fun _ => 0)))] H := hP
  have hD : va_D A [(h0, .inr (4, [.int 0, .ref n_1, .ref n_2, .null, .null, .null])), (n_1, .inl (cs 0, 12, .inl (fun _ => 0))), (n_2, .inl (cs 0, 12, .inl (fun _ => 0))), (n_3, .inl (cs 0, 12, .inl (fun _ => 0)))] := hD
  refine W.widen (k := 3) (n := 36) (Nat.le_of_ble_eq_true rfl) (Nat.le_of_ble_eq_true rfl) ?_
  refine va_putF (D := D) (ci := 4) (v := .ref n_3) (ty := .array .int) (C := RX4) (T := TX4) (N := 6) hx hb hT i_X4 tyX4 tyX4_ok nmX4 hown hK hP hD hS 0 rfl rfl 3 (by decide) (hT _ q_47) (fun _ h9 => h9) rfl hin rfl (by decide +kernel) rfl rfl (Nat.le_of_ble_eq_true rfl) dX4_init_25 (fun H locs hP hD hS => ?_)
  have hP : va_P D classes [(h0, .inr (4, [.int 0, .ref n_1, .ref n_2, .ref n_3, .null, .null])), (n_1, .inl (cs 0, 12, .inl (fun _ => 0))), (n_2, .inl (cs 0, 12, .inl (fun _ => 0))), (n_3, .inl (cs 0, 12, .inl (fun _ => 0)))] H := hP
  have hD : va_D A [(h0, .inr (4, [.int 0, .ref n_1, .ref n_2, .ref n_3, .null, .null])), (n_1, .inl (cs 0, 12, .inl (fun _ => 0))), (n_2, .inl (cs 0, 12, .inl (fun _ => 0))), (n_3, .inl (cs 0, 12, .inl (fun _ => 0)))] := hD
  refine lv_aload_n hx hb dX4_init_28 rfl (lv_at hl 0 rfl) ?_
  refine lv_bipush (v := 12) hx hb dX4_init_29 (by decide) ?_
  refine hz_newa (atype := .int) (ty := .int) (N' := 12) (a0 := (12, .inl (fun _ => 0))) hx hb (hT _ q_3) rfl hK hP hD hS hA (fun _ => rfl) (by decide) (by decide) (Nat.le_of_ble_eq_true rfl) (Nat.le_of_ble_eq_true rfl) (Nat.le_of_ble_eq_true rfl) dX4_init_31 0 rfl (fun n_4 H hP hD hS => ?_)
  have hP : va_P D classes [(h0, .inr (4, [.int 0, .ref n_1, .ref n_2, .ref n_3, .null, .null])), (n_1, .inl (cs 0, 12, .inl (fun _ => 0))), (n_2, .inl (cs 0, 12, .inl (fun _ => 0))), (n_3, .inl (cs 0, 12, .inl (fun _ => 0))), (n_4, .inl (cs 0, 12, .inl (fun _ => 0)))] H := hP
  have hD : va_D A [(h0, .inr (4, [.int 0, .ref n_1, .ref n_2, .ref n_3, .null, .null])), (n_1, .inl (cs 0, 12, .inl (fun _ => 0))), (n_2, .inl (cs 0, 12, .inl (fun _ => 0))), (n_3, .inl (cs 0, 12, .inl (fun _ => 0))), (n_4, .inl (cs 0, 12, .inl (fun _ => 0)))] := hD
  refine W.widen (k := 4) (n := 48) (Nat.le_of_ble_eq_true rfl) (Nat.le_of_ble_eq_true rfl) ?_
  refine va_putF (D := D) (ci := 4) (v := .ref n_4) (ty := .array .int) (C := RX4) (T := TX4) (N := 6) hx hb hT i_X4 tyX4 tyX4_ok nmX4 hown hK hP hD hS 0 rfl rfl 4 (by decide) (hT _ q_48) (fun _ h9 => h9) rfl hin rfl (by decide +kernel) rfl rfl (Nat.le_of_ble_eq_true rfl) dX4_init_33 (fun H locs hP hD hS => ?_)
  have hP : va_P D classes [(h0, .inr (4, [.int 0, .ref n_1, .ref n_2, .ref n_3, .ref n_4, .null])), (n_1, .inl (cs 0, 12, .inl (fun _ => 0))), (n_2, .inl (cs 0, 12, .inl (fun _ => 0))), (n_3, .inl (cs 0, 12, .inl (fun _ => 0))), (n_4, .inl (cs 0, 12, .inl (fun _ => 0)))] H := hP
  have hD : va_D A [(h0, .inr (4, [.int 0, .ref n_1, .ref n_2, .ref n_3, .ref n_4, .null])), (n_1, .inl (cs 0, 12, .inl (fun _ => 0))), (n_2, .inl (cs 0, 12, .inl (fun _ => 0))), (n_3, .inl (cs 0, 12, .inl (fun _ => 0))), (n_4, .inl (cs 0, 12, .inl (fun _ => 0)))] := hD
  refine lv_aload_n hx hb dX4_init_36 rfl (lv_at hl 0 rfl) ?_
  refine lv_iconst (v := 0) hx hb dX4_init_37 (by decide) ?_
  refine hz_newa (atype := .int) (ty := .int) (N' := 0) (a0 := (0, .inl (fun _ => 0))) hx hb (hT _ q_3) rfl hK hP hD hS hA (fun _ => rfl) (by decide) (by decide) (Nat.le_of_ble_eq_true rfl) (Nat.le_of_ble_eq_true rfl) (Nat.le_of_ble_eq_true rfl) dX4_init_38 0 rfl (fun n_5 H hP hD hS => ?_)
  have hP : va_P D classes [(h0, .inr (4, [.int 0, .ref n_1, .ref n_2, .ref n_3, .ref n_4, .null])), (n_1, .inl (cs 0, 12, .inl (fun _ => 0))), (n_2, .inl (cs 0, 12, .inl (fun _ => 0))), (n_3, .inl (cs 0, 12, .inl (fun _ => 0))), (n_4, .inl (cs 0, 12, .inl (fun _ => 0))), (n_5, .inl (cs 0, 0, .inl (fun _ => 0)))] H := hP
  have hD : va_D A [(h0, .inr (4, [.int 0, .ref n_1, .ref n_2, .ref n_3, .ref n_4, .null])), (n_1, .inl (cs 0, 12, .inl (fun _ => 0))), (n_2, .inl (cs 0, 12, .inl (fun _ => 0))), (n_3, .inl (cs 0, 12, .inl (fun _ => 0))), (n_4, .inl (cs 0, 12, .inl (fun _ => 0))), (n_5, .inl (cs 0, 0, .inl (fun _ => 0)))] := hD
  refine W.widen (k := 5) (n := 48) (Nat.le_of_ble_eq_true rfl) (Nat.le_of_ble_eq_true rfl) ?_
  refine va_put (D := D) (ci := 4) (v := .ref n_5) (ty := .array .int) (C := RX4) (T := TX4) (N := 6) hx hb hT i_X4 tyX4 tyX4_ok nmX4 hown hK hP hD hS 0 rfl rfl 5 (by decide) (hT _ q_49) (fun _ h9 => h9) rfl (by decide +kernel) rfl rfl (Nat.le_of_ble_eq_true rfl) dX4_init_40 (fun H locs hP hD hS => ?_)
  have hP : va_P D classes [(h0, .inr (4, [.int 0, .ref n_1, .ref n_2, .ref n_3, .ref n_4, .ref n_5])), (n_1, .inl (cs 0, 12, .inl (fun _ => 0))), (n_2, .inl (cs 0, 12, .inl (fun _ => 0))), (n_3, .inl (cs 0, 12, .inl (fun _ => 0))), (n_4, .inl (cs 0, 12, .inl (fun _ => 0))), (n_5, .inl (cs 0, 0, .inl (fun _ => 0)))] H := hP
  have hD : va_D A [(h0, .inr (4, [.int 0, .ref n_1, .ref n_2, .ref n_3, .ref n_4, .ref n_5])), (n_1, .inl (cs 0, 12, .inl (fun _ => 0))), (n_2, .inl (cs 0, 12, .inl (fun _ => 0))), (n_3, .inl (cs 0, 12, .inl (fun _ => 0))), (n_4, .inl (cs 0, 12, .inl (fun _ => 0))), (n_5, .inl (cs 0, 0, .inl (fun _ => 0)))] := hD
  exact W.vret hx hb hr (fun t ht hW => ⟨⟨(), rfl, trivial, (fun k => match k with | 0 => n_1 | 1 => n_2 | 2 => n_3 | 3 => n_4 | 4 => n_5 | _ => 0), by rw [ht]; exact hP.sub [0] rfl, hD.sub [0] (by decide) rfl⟩, hS.F ht⟩) hS.2.2 dX4_init_43
theorem dX1_init_0 : decode cX1_init 0 = .ok (.aload_n 0, 1) := by decide +kernel
theorem dX1_init_1 : decode cX1_init 1 = .ok (.invokespecial 1, 3) := by decide +kernel
theorem dX1_init_4 : decode cX1_init 4 = .ok (.aload_n 0, 1) := by decide +kernel
theorem dX1_init_5 : decode cX1_init 5 = .ok (.new 7, 3) := by decide +kernel
theorem dX1_init_8 : decode cX1_init 8 = .ok (.dup, 1) := by decide +kernel
theorem dX1_init_9 : decode cX1_init 9 = .ok (.invokespecial 9, 3) := by decide +kernel
theorem dX1_init_12 : decode cX1_init 12 = .ok (.putfield 10, 3) := by decide +kernel
theorem dX1_init_15 : decode cX1_init 15 = .ok (.aload_n 0, 1) := by decide +kernel
theorem dX1_init_16 : decode cX1_init 16 = .ok (.new 16, 3) := by decide +kernel
theorem dX1_init_19 : decode cX1_init 19 = .ok (.dup, 1) := by decide +kernel
theorem dX1_init_20 : decode cX1_init 20 = .ok (.invokespecial 18, 3) := by decide +kernel
theorem dX1_init_23 : decode cX1_init 23 = .ok (.putfield 19, 3) := by decide +kernel
theorem dX1_init_26 : decode cX1_init 26 = .ok (.return_, 1) := by decide +kernel
set_option maxHeartbeats 4000000 in
set_option maxRecDepth 100000 in
theorem c_X1_init (l : Launch) (D : va_G) (cs : Nat → ClassId) (kK kV : Nat → Nat) (h0 : Nat) (sz : Nat) : Met l yX1_init (hz_w yX1_init cX1_init 1 none) ({ frames := 2, cells := 11, slots := 85, locals := 32 }) (va_Pc [.ref h0] (hz_C D cs kK kV sz [(h0, .inr (1, [.null, .null, .null, .int 0]))])) (va_Qv (fun (_ : Unit) => True) (fun _ t => ∃ (g : Nat → Nat), va_P D classes [(h0, .inr (1, [.null, .ref (g 0), .ref (g 6), .int 0])), (g 0, .inr (6, [.int 0, .ref (g 1), .ref (g 2), .ref (g 3), .ref (g 4), .ref (g 5)])), (g 1, .inl (cs 0, 4, .inl (fun _ => 0))), (g 2, .inl (cs 0, 4, .inl (fun _ => 0))), (g 3, .inl (cs 0, 4, .inl (fun _ => 0))), (g 4, .inl (cs 0, 4, .inl (fun _ => 0))), (g 5, .inl (cs 0, 8, .inl (fun _ => 0))), (g 6, .inr (9, [.int 0, .int 0, .int 0, .ref (g 7), .ref (g 8), .ref (g 9), .ref (g 10)])), (g 8, .inl (cs 0, 12, .inl (fun _ => 0))), (g 9, .inl (cs 0, 12, .inl (fun _ => 0))), (g 10, .inl (cs 2, 12, .inl (fun _ => 0)))] t.heap ∧ va_D (va_A [(h0, .inr (1, [.null, .null, .null, .int 0]))] sz) [(h0, .inr (1, [.null, .ref (g 0), .ref (g 6), .int 0])), (g 0, .inr (6, [.int 0, .ref (g 1), .ref (g 2), .ref (g 3), .ref (g 4), .ref (g 5)])), (g 1, .inl (cs 0, 4, .inl (fun _ => 0))), (g 2, .inl (cs 0, 4, .inl (fun _ => 0))), (g 3, .inl (cs 0, 4, .inl (fun _ => 0))), (g 4, .inl (cs 0, 4, .inl (fun _ => 0))), (g 5, .inl (cs 0, 8, .inl (fun _ => 0))), (g 6, .inr (9, [.int 0, .int 0, .int 0, .ref (g 7), .ref (g 8), .ref (g 9), .ref (g 10)])), (g 8, .inl (cs 0, 12, .inl (fun _ => 0))), (g 9, .inl (cs 0, 12, .inl (fun _ => 0))), (g 10, .inl (cs 2, 12, .inl (fun _ => 0)))]) (va_A [(h0, .inr (1, [.null, .null, .null, .int 0]))] sz)) 11 85 (va_A [(h0, .inr (1, [.null, .null, .null, .int 0]))] sz) := by
  refine Met.ofW (cc := cX1_init) (maxL := 1) (ret := none) (by decide) rfl ?_
  intro p e s m args below meth c s₁ B hml hv
  obtain ⟨rfl, hsz, hP, hD0, hE⟩ := hv
  have hx := B.exec
  have hb := B.bytes
  have hr := B.returns
  have hT : ∀ w ∈ TB, w.before _ s = true := fun w h => atoms_spec (ws := hz_w yX1_init cX1_init 1 none) B.pre w (List.mem_cons_of_mem _ h)
  have hown : s.vm.findClass RX1 = some m.cls := findClass_of_methodNamed B.named
  have hlocks := B.notSynchronized
  have hin : meth.name = "<init>" := (name_of_methodNamed B.named B.method).1
  clear B
  subst hsz
  have hD := hD0.self (sz := s.heap.size)
  generalize hAe : va_A [(h0, .inr (1, [.null, .null, .null, .int 0]))] s.heap.size = A at hD hE ⊢
  have hA : ∀ q : Nat, s.heap.size ≤ q → A q := fun q h => by rw [← hAe]; exact Or.inr h
  clear hAe hD0
  have hS : va_S A s.heap s.heap [] := va_S.rf
  have hK := hE.1
  have hl := lv_entry ([.ref h0]) (n := 1) (Nat.le_of_ble_eq_true rfl)
  rw [lg_entry_eq]
  generalize (lg_sl ([.ref h0]) ++ List.replicate (1 - (lg_sl ([.ref h0])).length) Slot.unset).toArray = ls at hl ⊢
  have hl : lv_has ls 1 [(0, .ref h0)] := hl
  obtain ⟨H, eH⟩ : ∃ z, z = s.heap := ⟨_, rfl⟩
  have hP : va_P D classes [(h0, .inr (1, [.null, .null, .null, .int 0]))] H := by rw [eH]; exact hP
  have hS : va_S A s.heap H [] := by rw [eH]; exact hS
  rw [← eH]
  clear eH
  refine lv_aload_n hx hb dX1_init_0 rfl (lv_at hl 0 rfl) ?_
  refine W.objInit hx hb hown (hT _ q_50) (hT _ q_1) (hT _ q_2) rfl (by rw [hml]; exact hl.1) rfl dX1_init_1 (Nat.le_of_ble_eq_true rfl) (Nat.le_of_ble_eq_true rfl) ?_
  refine W.eq (g2 := F0 m 4 ls []) rfl ?_
  refine lv_aload_n hx hb dX1_init_4 rfl (lv_at hl 0 rfl) ?_
  refine va_new (D := D) (ci := 6) (fs := [.int 0, .null, .null, .null, .null, .null]) (C := RX6) (T := TX6) (N := 6) hx hb hT i_X6 tyX6 tyX6_ok hown (hT _ q_51) (hT _ q_52) (hT _ q_53) hK hP hD hS hA rfl df_X6 (Nat.le_of_ble_eq_true rfl) (Nat.le_of_ble_eq_true rfl) dX1_init_5 (fun n_1 H hP hD hS => ?_)
  have hP : va_P D classes [(h0, .inr (1, [.null, .null, .null, .int 0])), (n_1, .inr (6, [.int 0, .null, .null, .null, .null, .null]))] H := hP
  have hD : va_D A [(h0, .inr (1, [.null, .null, .null, .int 0])), (n_1, .inr (6, [.int 0, .null, .null, .null, .null, .null]))] := hD
  refine W.widen (k := 1) (n := 6) (Nat.le_of_ble_eq_true rfl) (Nat.le_of_ble_eq_true rfl) ?_
  refine lv_dup hx hb dX1_init_8 rfl ?_
  have hFc := va_free (wc := [(n_1, .inr (6, [.int 0, .null, .null, .null, .null, .null]))]) hD hS hA [1] rfl
  refine va_callv (va_runIN (As := []) (rest := [.ref n_1, .ref h0]) ⟨hx, hb, hml, hown, hT⟩ (c_X6_init l D cs kK kV n_1 H.size) ⟨va_cnB 0 hT (hz_gw q_54) rfl rfl rfl (hE.2.1 12 (by decide)) (hT _ q_53) (by decide +kernel) ⟨(Nat.le_of_ble_eq_true rfl), (Nat.le_of_ble_eq_true rfl)⟩, rfl, hT _ q_55⟩ ⟨hz_C.blind, hz_C.mk (hP.sub (ws' := [(n_1, .inr (6, [.int 0, .null, .null, .null, .null, .null]))]) [1] rfl) (hD.sub (ws' := [(n_1, .inr (6, [.int 0, .null, .null, .null, .null, .null]))]) [1] (by decide) rfl) hE hS hFc⟩ rfl rfl hl.1 rfl (lv_room (Nat.le_of_ble_eq_true rfl)) dX1_init_9 ⟨(Nat.le_of_ble_eq_true rfl), (Nat.le_of_ble_eq_true rfl)⟩) hS (fun q _ h => hFc q h) hFc (fun u t H1 locs ht hvm hw hB hz1 hk1 hS => ?_)
  obtain ⟨g_3, hP1, hD1⟩ := hB
  rw [ht] at hP1
  obtain ⟨hP, hD⟩ := va_join (wr := [(h0, .inr (1, [.null, .null, .null, .int 0]))]) (w1 := [(n_1, .inr (6, [.int 0, .ref (g_3 0), .ref (g_3 1), .ref (g_3 2), .ref (g_3 3), .ref (g_3 4)])), (g_3 0, .inl (cs 0, 4, .inl (fun _ => 0))), (g_3 1, .inl (cs 0, 4, .inl (fun _ => 0))), (g_3 2, .inl (cs 0, 4, .inl (fun _ => 0))), (g_3 3, .inl (cs 0, 4, .inl (fun _ => 0))), (g_3 4, .inl (cs 0, 8, .inl (fun _ => 0)))]) hP hD [1] [0] rfl rfl (by decide) (by decide) hk1 hFc hP1 hD1
  generalize H1 = H at hP hS ⊢
  have hP : va_P D classes [(h0, .inr (1, [.null, .null, .null, .int 0])), (n_1, .inr (6, [.int 0, .ref (g_3 0), .ref (g_3 1), .ref (g_3 2), .ref (g_3 3), .ref (g_3 4)])), (g_3 0, .inl (cs 0, 4, .inl (fun _ => 0))), (g_3 1, .inl (cs 0, 4, .inl (fun _ => 0))), (g_3 2, .inl (cs 0, 4, .inl (fun _ => 0))), (g_3 3, .inl (cs 0, 4, .inl (fun _ => 0))), (g_3 4, .inl (cs 0, 8, .inl (fun _ => 0)))] H := hP
  have hD : va_D A [(h0, .inr (1, [.null, .null, .null, .int 0])), (n_1, .inr (6, [.int 0, .ref (g_3 0), .ref (g_3 1), .ref (g_3 2), .ref (g_3 3), .ref (g_3 4)])), (g_3 0, .inl (cs 0, 4, .inl (fun _ => 0))), (g_3 1, .inl (cs 0, 4, .inl (fun _ => 0))), (g_3 2, .inl (cs 0, 4, .inl (fun _ => 0))), (g_3 3, .inl (cs 0, 4, .inl (fun _ => 0))), (g_3 4, .inl (cs 0, 8, .inl (fun _ => 0)))] := hD
  clear hk1 hFc hP1 hD1 hz1
  refine W.widen (k := 6) (n := 30) (Nat.le_of_ble_eq_true rfl) (Nat.le_of_ble_eq_true rfl) ?_
  refine va_putF (D := D) (ci := 1) (v := .ref n_1) (ty := .object "HalfFair$Scene") (C := RX1) (T := TX1) (N := 4) hx hb hT i_X1 tyX1 tyX1_ok nmX1 hown hK hP hD hS 0 rfl rfl 1 (by decide) (hT _ q_56) (fun _ h9 => h9) rfl hin rfl (by decide +kernel) rfl rfl (Nat.le_of_ble_eq_true rfl) dX1_init_12 (fun H locs hP hD hS => ?_)
  have hP : va_P D classes [(h0, .inr (1, [.null, .ref n_1, .null, .int 0])), (n_1, .inr (6, [.int 0, .ref (g_3 0), .ref (g_3 1), .ref (g_3 2), .ref (g_3 3), .ref (g_3 4)])), (g_3 0, .inl (cs 0, 4, .inl (fun _ => 0))), (g_3 1, .inl (cs 0, 4, .inl (fun _ => 0))), (g_3 2, .inl (cs 0, 4, .inl (fun _ => 0))), (g_3 3, .inl (cs 0, 4, .inl (fun _ => 0))), (g_3 4, .inl (cs 0, 8, .inl (fun _ => 0)))] H := hP
  have hD : va_D A [(h0, .inr (1, [.null, .ref n_1, .null, .int 0])), (n_1, .inr (6, [.int 0, .ref (g_3 0), .ref (g_3 1), .ref (g_3 2), .ref (g_3 3), .ref (g_3 4)])), (g_3 0, .inl (cs 0, 4, .inl (fun _ => 0))), (g_3 1, .inl (cs 0, 4, .inl (fun _ => 0))), (g_3 2, .inl (cs 0, 4, .inl (fun _ => 0))), (g_3 3, .inl (cs 0, 4, .inl (fun _ => 0))), (g_3 4, .inl (cs 0, 8, .inl (fun _ => 0)))] := hD
  refine lv_aload_n hx hb dX1_init_15 rfl (lv_at hl 0 rfl) ?_
  refine va_new (D := D) (ci := 9) (fs := [.int 0, .int 0, .int 0, .null, .null, .null, .null]) (C := RX9) (T := TX9) (N := 7) hx hb hT i_X9 tyX9 tyX9_ok hown (hT _ q_57) (hT _ q_58) (hT _ q_59) hK hP hD hS hA rfl df_X9 (Nat.le_of_ble_eq_true rfl) (Nat.le_of_ble_eq_true rfl) dX1_init_16 (fun n_4 H hP hD hS => ?_)
  have hP : va_P D classes [(h0, .inr (1, [.null, .ref n_1, .null, .int 0])), (n_1, .inr (6, [.int 0, .ref (g_3 0), .ref (g_3 1), .ref (g_3 2), .ref (g_3 3), .ref (g_3 4)])), (g_3 0, .inl (cs 0, 4, .inl (fun _ => 0))), (g_3 1, .inl (cs 0, 4, .inl (fun _ => 0))), (g_3 2, .inl (cs 0, 4, .inl (fun _ => 0))), (g_3 3, .inl (cs 0, 4, .inl (fun _ => 0))), (g_3 4, .inl (cs 0, 8, .inl (fun _ => 0))), (n_4, .inr (9, [.int 0, .int 0, .int 0, .null, .null, .null, .null]))] H := hP
  have hD : va_D A [(h0, .inr (1, [.null, .ref n_1, .null, .int 0])), (n_1, .inr (6, [.int 0, .ref (g_3 0), .ref (g_3 1), .ref (g_3 2), .ref (g_3 3), .ref (g_3 4)])), (g_3 0, .inl (cs 0, 4, .inl (fun _ => 0))), (g_3 1, .inl (cs 0, 4, .inl (fun _ => 0))), (g_3 2, .inl (cs 0, 4, .inl (fun _ => 0))), (g_3 3, .inl (cs 0, 4, .inl (fun _ => 0))), (g_3 4, .inl (cs 0, 8, .inl (fun _ => 0))), (n_4, .inr (9, [.int 0, .int 0, .int 0, .null, .null, .null, .null]))] := hD
  refine W.widen (k := 7) (n := 37) (Nat.le_of_ble_eq_true rfl) (Nat.le_of_ble_eq_true rfl) ?_
  refine lv_dup hx hb dX1_init_19 rfl ?_
  have hFc := va_free (wc := [(n_4, .inr (9, [.int 0, .int 0, .int 0, .null, .null, .null, .null]))]) hD hS hA [7] rfl
  refine va_callv (va_runIN (As := []) (rest := [.ref n_4, .ref h0]) ⟨hx, hb, hml, hown, hT⟩ (c_X9_init l D cs kK kV n_4 H.size) ⟨va_cnB 0 hT (hz_gw q_60) rfl rfl rfl (hE.2.1 13 (by decide)) (hT _ q_59) (by decide +kernel) ⟨(Nat.le_of_ble_eq_true rfl), (Nat.le_of_ble_eq_true rfl)⟩, rfl, hT _ q_61⟩ ⟨hz_C.blind, hz_C.mk (hP.sub (ws' := [(n_4, .inr (9, [.int 0, .int 0, .int 0, .null, .null, .null, .null]))]) [7] rfl) (hD.sub (ws' := [(n_4, .inr (9, [.int 0, .int 0, .int 0, .null, .null, .null, .null]))]) [7] (by decide) rfl) hE hS hFc⟩ rfl rfl hl.1 rfl (lv_room (Nat.le_of_ble_eq_true rfl)) dX1_init_20 ⟨(Nat.le_of_ble_eq_true rfl), (Nat.le_of_ble_eq_true rfl)⟩) hS (fun q _ h => hFc q h) hFc (fun u t H1 locs ht hvm hw hB hz1 hk1 hS => ?_)
  obtain ⟨g_6, hP1, hD1⟩ := hB
  rw [ht] at hP1
  obtain ⟨hP, hD⟩ := va_join (wr := [(h0, .inr (1, [.null, .ref n_1, .null, .int 0])), (n_1, .inr (6, [.int 0, .ref (g_3 0), .ref (g_3 1), .ref (g_3 2), .ref (g_3 3), .ref (g_3 4)])), (g_3 0, .inl (cs 0, 4, .inl (fun _ => 0))), (g_3 1, .inl (cs 0, 4, .inl (fun _ => 0))), (g_3 2, .inl (cs 0, 4, .inl (fun _ => 0))), (g_3 3, .inl (cs 0, 4, .inl (fun _ => 0))), (g_3 4, .inl (cs 0, 8, .inl (fun _ => 0)))]) (w1 := [(n_4, .inr (9, [.int 0, .int 0, .int 0, .ref (g_6 0), .ref (g_6 1), .ref (g_6 2), .ref (g_6 3)])), (g_6 1, .inl (cs 0, 12, .inl (fun _ => 0))), (g_6 2, .inl (cs 0, 12, .inl (fun _ => 0))), (g_6 3, .inl (cs 2, 12, .inl (fun _ => 0)))]) hP hD [7] [0, 1, 2, 3, 4, 5, 6] rfl rfl (by decide) (by decide) hk1 hFc hP1 hD1
  generalize H1 = H at hP hS ⊢
  have hP : va_P D classes [(h0, .inr (1, [.null, .ref n_1, .null, .int 0])), (n_1, .inr (6, [.int 0, .ref (g_3 0), .ref (g_3 1), .ref (g_3 2), .ref (g_3 3), .ref (g_3 4)])), (g_3 0, .inl (cs 0, 4, .inl (fun _ => 0))), (g_3 1, .inl (cs 0, 4, .inl (fun _ => 0))), (g_3 2, .inl (cs 0, 4, .inl (fun _ => 0))), (g_3 3, .inl (cs 0, 4, .inl (fun _ => 0))), (g_3 4, .inl (cs 0, 8, .inl (fun _ => 0))), (n_4, .inr (9, [.int 0, .int 0, .int 0, .ref (g_6 0), .ref (g_6 1), .ref (g_6 2), .ref (g_6 3)])), (g_6 1, .inl (cs 0, 12, .inl (fun _ => 0))), (g_6 2, .inl (cs 0, 12, .inl (fun _ => 0))), (g_6 3, .inl (cs 2, 12, .inl (fun _ => 0)))] H := hP
  have hD : va_D A [(h0, .inr (1, [.null, .ref n_1, .null, .int 0])), (n_1, .inr (6, [.int 0, .ref (g_3 0), .ref (g_3 1), .ref (g_3 2), .ref (g_3 3), .ref (g_3 4)])), (g_3 0, .inl (cs 0, 4, .inl (fun _ => 0))), (g_3 1, .inl (cs 0, 4, .inl (fun _ => 0))), (g_3 2, .inl (cs 0, 4, .inl (fun _ => 0))), (g_3 3, .inl (cs 0, 4, .inl (fun _ => 0))), (g_3 4, .inl (cs 0, 8, .inl (fun _ => 0))), (n_4, .inr (9, [.int 0, .int 0, .int 0, .ref (g_6 0), .ref (g_6 1), .ref (g_6 2), .ref (g_6 3)])), (g_6 1, .inl (cs 0, 12, .inl (fun _ => 0))), (g_6 2, .inl (cs 0, 12, .inl (fun _ => 0))), (g_6 3, .inl (cs 2, 12, .inl (fun _ => 0)))] := hD
  clear hk1 hFc hP1 hD1 hz1
  refine W.widen (k := 11) (n := 85) (Nat.le_of_ble_eq_true rfl) (Nat.le_of_ble_eq_true rfl) ?_
  refine va_putF (D := D) (ci := 1) (v := .ref n_4) (ty := .object "HalfFair$Trials") (C := RX1) (T := TX1) (N := 4) hx hb hT i_X1 tyX1 tyX1_ok nmX1 hown hK hP hD hS 0 rfl rfl 2 (by decide) (hT _ q_62) (fun _ h9 => h9) rfl hin rfl (by decide +kernel) rfl rfl (Nat.le_of_ble_eq_true rfl) dX1_init_23 (fun H locs hP hD hS => ?_)
  have hP : va_P D classes [(h0, .inr (1, [.null, .ref n_1, .ref n_4, .int 0])), (n_1, .inr (6, [.int 0, .ref (g_3 0), .ref (g_3 1), .ref (g_3 2), .ref (g_3 3), .ref (g_3 4)])), (g_3 0, .inl (cs 0, 4, .inl (fun _ => 0))), (g_3 1, .inl (cs 0, 4, .inl (fun _ => 0))), (g_3 2, .inl (cs 0, 4, .inl (fun _ => 0))), (g_3 3, .inl (cs 0, 4, .inl (fun _ => 0))), (g_3 4, .inl (cs 0, 8, .inl (fun _ => 0))), (n_4, .inr (9, [.int 0, .int 0, .int 0, .ref (g_6 0), .ref (g_6 1), .ref (g_6 2), .ref (g_6 3)])), (g_6 1, .inl (cs 0, 12, .inl (fun _ => 0))), (g_6 2, .inl (cs 0, 12, .inl (fun _ => 0))), (g_6 3, .inl (cs 2, 12, .inl (fun _ => 0)))] H := hP
  have hD : va_D A [(h0, .inr (1, [.null, .ref n_1, .ref n_4, .int 0])), (n_1, .inr (6, [.int 0, .ref (g_3 0), .ref (g_3 1), .ref (g_3 2), .ref (g_3 3), .ref (g_3 4)])), (g_3 0, .inl (cs 0, 4, .inl (fun _ => 0))), (g_3 1, .inl (cs 0, 4, .inl (fun _ => 0))), (g_3 2, .inl (cs 0, 4, .inl (fun _ => 0))), (g_3 3, .inl (cs 0, 4, .inl (fun _ => 0))), (g_3 4, .inl (cs 0, 8, .inl (fun _ => 0))), (n_4, .inr (9, [.int 0, .int 0, .int 0, .ref (g_6 0), .ref (g_6 1), .ref (g_6 2), .ref (g_6 3)])), (g_6 1, .inl (cs 0, 12, .inl (fun _ => 0))), (g_6 2, .inl (cs 0, 12, .inl (fun _ => 0))), (g_6 3, .inl (cs 2, 12, .inl (fun _ => 0)))] := hD
  exact W.vret hx hb hr (fun t ht hW => ⟨⟨(), rfl, trivial, (fun k => match k with | 0 => n_1 | 1 => g_3 0 | 2 => g_3 1 | 3 => g_3 2 | 4 => g_3 3 | 5 => g_3 4 | 6 => n_4 | 7 => g_6 0 | 8 => g_6 1 | 9 => g_6 2 | 10 => g_6 3 | _ => 0), by rw [ht]; exact hP.sub [0, 1, 2, 3, 4, 5, 6, 7, 8, 9, 10] rfl, hD.sub [0, 1, 2, 3, 4, 5, 6, 7, 8, 9, 10] (by decide) rfl⟩, hS.F ht⟩) hS.2.2 dX1_init_26
