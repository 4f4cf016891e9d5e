theorem dX12_see_0 : decode cX12_see 0 = .ok (.aload_n 0, 1) := by decide +kernel
theorem dX12_see_1 : decode cX12_see 1 = .ok (.getfield 81, 3) := by decide +kernel
theorem dX12_see_4 : decode cX12_see 4 = .ok (.aload_n 0, 1) := by decide +kernel
theorem dX12_see_5 : decode cX12_see 5 = .ok (.getfield 70, 3) := by decide +kernel
theorem dX12_see_8 : decode cX12_see 8 = .ok (.if_icmp .ge 30, 3) := by decide +kernel
theorem dX12_see_38 : decode cX12_see 38 = .ok (.aload_n 0, 1) := by decide +kernel
theorem dX12_see_39 : decode cX12_see 39 = .ok (.getfield 81, 3) := by decide +kernel
theorem dX12_see_42 : decode cX12_see 42 = .ok (.aload_n 0, 1) := by decide +kernel
theorem dX12_see_43 : decode cX12_see 43 = .ok (.getfield 70, 3) := by decide +kernel
theorem dX12_see_46 : decode cX12_see 46 = .ok (.if_icmp .ge 19, 3) := by decide +kernel
theorem dX12_see_65 : decode cX12_see 65 = .ok (.iconst (-1), 1) := by decide +kernel
theorem dX12_see_66 : decode cX12_see 66 = .ok (.ireturn, 1) := by decide +kernel
set_option maxHeartbeats 4000000 in
set_option maxRecDepth 100000 in
theorem c_X12_see (l : Launch) (D : va_G) (cs : Nat → ClassId) (kK kV : Nat → Nat) (g : Nat → Nat) (wr : Int32) (tx : Int32) : Met l yX12_see (hz_w yX12_see cX12_see 1 (some .int)) ({ frames := 0, cells := 0, slots := 0, locals := 0 }) (va_Pc [.ref (g 0)] (hz_P D cs kK kV [(g 0, .inr (12, [.ref (g 1), .int 0, .int 0, .ref (g 2), .ref (g 3), .ref (g 4), .ref (g 5), .ref (g 6), .int 0, .int wr, .int 0, .int tx, .int 0, .int 0, .int 0, .ref (g 7), .int 0, .ref (g 8), .int 0, .ref (g 9), .ref (g 10), .int 0, .ref (g 11), .ref (g 12), .ref (g 13), .int 0, .int 0, .ref (g 14), .ref (g 15), .int 0, .int 0, .int 0, .ref (g 16), .long 0, .ref (g 17), .ref (g 18), .ref (g 19)]))])) (va_Qi (fun (r : Int32) (_ : Unit) => r = -1) (fun _ t => True) (fun _ => False)) 0 0 (fun _ => False) := by
  refine Met.ofW (cc := cX12_see) (maxL := 1) (ret := (some .int)) (by decide) rfl ?_
  intro p e s m args below meth c s₁ B hml hv
  obtain ⟨rfl, hP, hE⟩ := hv
  have hx := B.exec
  have hb := B.bytes
  have hr := B.returns
  have hT : ∀ w ∈ TB, w.before _ s = true := fun w h => atoms_spec (ws := hz_w yX12_see cX12_see 1 (some .int)) B.pre w (List.mem_cons_of_mem _ h)
  have hown : s.vm.findClass RX12 = some m.cls := findClass_of_methodNamed B.named
  have hlocks := B.notSynchronized
  clear B
  have hS : va_S (fun _ => False) s.heap s.heap [] := va_S.rf
  have hP : va_P D classes [(g 0, .inr (12, [.ref (g 1), .int 0, .int 0, .ref (g 2), .ref (g 3), .ref (g 4), .ref (g 5), .ref (g 6), .int 0, .int wr, .int 0, .int tx, .int 0, .int 0, .int 0, .ref (g 7), .int 0, .ref (g 8), .int 0, .ref (g 9), .ref (g 10), .int 0, .ref (g 11), .ref (g 12), .ref (g 13), .int 0, .int 0, .ref (g 14), .ref (g 15), .int 0, .int 0, .int 0, .ref (g 16), .long 0, .ref (g 17), .ref (g 18), .ref (g 19)]))] s.heap := hP
  have hK := hE.1
  have hl := lv_entry ([.ref (g 0)]) (n := 1) (Nat.le_of_ble_eq_true rfl)
  rw [lg_entry_eq]
  generalize (lg_sl ([.ref (g 0)]) ++ List.replicate (1 - (lg_sl ([.ref (g 0)])).length) Slot.unset).toArray = ls at hl ⊢
  have hl : lv_has ls 1 [(0, .ref (g 0))] := hl
  obtain ⟨H, eH⟩ : ∃ z, z = s.heap := ⟨_, rfl⟩
  have hP : va_P D classes [(g 0, .inr (12, [.ref (g 1), .int 0, .int 0, .ref (g 2), .ref (g 3), .ref (g 4), .ref (g 5), .ref (g 6), .int 0, .int wr, .int 0, .int tx, .int 0, .int 0, .int 0, .ref (g 7), .int 0, .ref (g 8), .int 0, .ref (g 9), .ref (g 10), .int 0, .ref (g 11), .ref (g 12), .ref (g 13), .int 0, .int 0, .ref (g 14), .ref (g 15), .int 0, .int 0, .int 0, .ref (g 16), .long 0, .ref (g 17), .ref (g 18), .ref (g 19)]))] H := by rw [eH]; exact hP
  have hS : va_S (fun _ => False) s.heap H [] := by rw [eH]; exact hS
  rw [← eH]
  clear eH
  refine lv_aload_n hx hb dX12_see_0 rfl (lv_at hl 0 rfl) ?_
  refine va_get (D := D) (ci := 12) (v := .int 0) (C := RX12) (T := TX12) (N := 37) hx hb hT i_X12 hown hK hP 0 rfl rfl 8 (by decide) (hT _ q_289) (fun _ h9 => h9) rfl dX12_see_1 ?_
  refine lv_aload_n hx hb dX12_see_4 rfl (lv_at hl 0 rfl) ?_
  refine va_get (D := D) (ci := 12) (v := .int 0) (C := RX12) (T := TX12) (N := 37) hx hb hT i_X12 hown hK hP 0 rfl rfl 1 (by decide) (hT _ q_283) (fun _ h9 => h9) rfl dX12_see_5 ?_
  refine lv_icmp_ge (tgt := 38) hx hb dX12_see_8 (by decide) (fun _ => ?_) (fun z => absurd (by decide) z)
  refine lv_aload_n hx hb dX12_see_38 rfl (lv_at hl 0 rfl) ?_
  refine va_get (D := D) (ci := 12) (v := .int 0) (C := RX12) (T := TX12) (N := 37) hx hb hT i_X12 hown hK hP 0 rfl rfl 8 (by decide) (hT _ q_289) (fun _ h9 => h9) rfl dX12_see_39 ?_
  refine lv_aload_n hx hb dX12_see_42 rfl (lv_at hl 0 rfl) ?_
  refine va_get (D := D) (ci := 12) (v := .int 0) (C := RX12) (T := TX12) (N := 37) hx hb hT i_X12 hown hK hP 0 rfl rfl 1 (by decide) (hT _ q_283) (fun _ h9 => h9) rfl dX12_see_43 ?_
  refine lv_icmp_ge (tgt := 65) hx hb dX12_see_46 (by decide) (fun _ => ?_) (fun z => absurd (by decide) z)
  refine lv_iconst (v := -1) hx hb dX12_see_65 (by decide) ?_
  exact W.iret (v := -1) hx hb hr (fun t ht hW => ⟨⟨-1, (), rfl, rfl, trivial⟩, hS.F ht⟩) hS.2.2 dX12_see_66
theorem dX12_isLetter_0 : decode cX12_isLetter 0 = .ok (.iload_n 1, 1) := by decide +kernel
theorem dX12_isLetter_1 : decode cX12_isLetter 1 = .ok (.aload_n 0, 1) := by decide +kernel
theorem dX12_isLetter_2 : decode cX12_isLetter 2 = .ok (.getfield 70, 3) := by decide +kernel
theorem dX12_isLetter_5 : decode cX12_isLetter 5 = .ok (.if_icmp .ge 29, 3) := by decide +kernel
theorem dX12_isLetter_34 : decode cX12_isLetter 34 = .ok (.iconst 0, 1) := by decide +kernel
theorem dX12_isLetter_35 : decode cX12_isLetter 35 = .ok (.ireturn, 1) := by decide +kernel
set_option maxHeartbeats 4000000 in
set_option maxRecDepth 100000 in
theorem c_X12_isLetter (l : Launch) (D : va_G) (cs : Nat → ClassId) (kK kV : Nat → Nat) (g : Nat → Nat) (wr : Int32) (tx : Int32) : Met l yX12_isLetter (hz_w yX12_isLetter cX12_isLetter 2 (some .boolean)) ({ frames := 0, cells := 0, slots := 0, locals := 0 }) (va_Pc [.ref (g 0), .int 0] (hz_P D cs kK kV [(g 0, .inr (12, [.ref (g 1), .int 0, .int 0, .ref (g 2), .ref (g 3), .ref (g 4), .ref (g 5), .ref (g 6), .int 0, .int wr, .int 0, .int tx, .int 0, .int 0, .int 0, .ref (g 7), .int 0, .ref (g 8), .int 0, .ref (g 9), .ref (g 10), .int 0, .ref (g 11), .ref (g 12), .ref (g 13), .int 0, .int 0, .ref (g 14), .ref (g 15), .int 0, .int 0, .int 0, .ref (g 16), .long 0, .ref (g 17), .ref (g 18), .ref (g 19)]))])) (va_Qi (fun (r : Int32) (_ : Unit) => r = 0) (fun _ t => True) (fun _ => False)) 0 0 (fun _ => False) := by
  refine Met.ofW (cc := cX12_isLetter) (maxL := 2) (ret := (some .boolean)) (by decide) rfl ?_
  intro p e s m args below meth c s₁ B hml hv
  obtain ⟨rfl, hP, hE⟩ := hv
  have hx := B.exec
  have hb := B.bytes
  have hr := B.returns
  have hT : ∀ w ∈ TB, w.before _ s = true := fun w h => atoms_spec (ws := hz_w yX12_isLetter cX12_isLetter 2 (some .boolean)) B.pre w (List.mem_cons_of_mem _ h)
  have hown : s.vm.findClass RX12 = some m.cls := findClass_of_methodNamed B.named
  have hlocks := B.notSynchronized
  clear B
  have hS : va_S (fun _ => False) s.heap s.heap [] := va_S.rf
  have hP : va_P D classes [(g 0, .inr (12, [.ref (g 1), .int 0, .int 0, .ref (g 2), .ref (g 3), .ref (g 4), .ref (g 5), .ref (g 6), .int 0, .int wr, .int 0, .int tx, .int 0, .int 0, .int 0, .ref (g 7), .int 0, .ref (g 8), .int 0, .ref (g 9), .ref (g 10), .int 0, .ref (g 11), .ref (g 12), .ref (g 13), .int 0, .int 0, .ref (g 14), .ref (g 15), .int 0, .int 0, .int 0, .ref (g 16), .long 0, .ref (g 17), .ref (g 18), .ref (g 19)]))] s.heap := hP
  have hK := hE.1
  have hl := lv_entry ([.ref (g 0), .int 0]) (n := 2) (Nat.le_of_ble_eq_true rfl)
  rw [lg_entry_eq]
  generalize (lg_sl ([.ref (g 0), .int 0]) ++ List.replicate (2 - (lg_sl ([.ref (g 0), .int 0])).length) Slot.unset).toArray = ls at hl ⊢
  have hl : lv_has ls 2 [(0, .ref (g 0)), (1, .int 0)] := hl
  obtain ⟨H, eH⟩ : ∃ z, z = s.heap := ⟨_, rfl⟩
  have hP : va_P D classes [(g 0, .inr (12, [.ref (g 1), .int 0, .int 0, .ref (g 2), .ref (g 3), .ref (g 4), .ref (g 5), .ref (g 6), .int 0, .int wr, .int 0, .int tx, .int 0, .int 0, .int 0, .ref (g 7), .int 0, .ref (g 8), .int 0, .ref (g 9), .ref (g 10), .int 0, .ref (g 11), .ref (g 12), .ref (g 13), .int 0, .int 0, .ref (g 14), .ref (g 15), .int 0, .int 0, .int 0, .ref (g 16), .long 0, .ref (g 17), .ref (g 18), .ref (g 19)]))] H := by rw [eH]; exact hP
  have hS : va_S (fun _ => False) s.heap H [] := by rw [eH]; exact hS
  rw [← eH]
  clear eH
  refine lv_iload_n hx hb dX12_isLetter_0 rfl (lv_at hl 1 rfl) ?_
  refine lv_aload_n hx hb dX12_isLetter_1 rfl (lv_at hl 0 rfl) ?_
  refine va_get (D := D) (ci := 12) (v := .int 0) (C := RX12) (T := TX12) (N := 37) hx hb hT i_X12 hown hK hP 0 rfl rfl 1 (by decide) (hT _ q_283) (fun _ h9 => h9) rfl dX12_isLetter_2 ?_
  refine lv_icmp_ge (tgt := 34) hx hb dX12_isLetter_5 (by decide) (fun _ => ?_) (fun z => absurd (by decide) z)
  refine lv_iconst (v := 0) hx hb dX12_isLetter_34 (by decide) ?_
  exact W.zret (v := 0) hx hb hr rfl (fun t ht hW => ⟨⟨0, (), rfl, rfl, trivial⟩, hS.F ht⟩) hS.2.2 dX12_isLetter_35
theorem dX12_isWord_0 : decode cX12_isWord 0 = .ok (.aload_n 0, 1) := by decide +kernel
theorem dX12_isWord_1 : decode cX12_isWord 1 = .ok (.invokevirtual 84, 3) := by decide +kernel
theorem dX12_isWord_4 : decode cX12_isWord 4 = .ok (.pop, 1) := by decide +kernel
theorem dX12_isWord_5 : decode cX12_isWord 5 = .ok (.lconst 0, 1) := by decide +kernel
theorem dX12_isWord_6 : decode cX12_isWord 6 = .ok (.lstore_n 3, 1) := by decide +kernel
theorem dX12_isWord_7 : decode cX12_isWord 7 = .ok (.iconst 0, 1) := by decide +kernel
theorem dX12_isWord_8 : decode cX12_isWord 8 = .ok (.istore 5, 2) := by decide +kernel
theorem dX12_isWord_10 : decode cX12_isWord 10 = .ok (.aload_n 0, 1) := by decide +kernel
theorem dX12_isWord_11 : decode cX12_isWord 11 = .ok (.aload_n 0, 1) := by decide +kernel
theorem dX12_isWord_12 : decode cX12_isWord 12 = .ok (.getfield 81, 3) := by decide +kernel
theorem dX12_isWord_15 : decode cX12_isWord 15 = .ok (.iload 5, 2) := by decide +kernel
theorem dX12_isWord_17 : decode cX12_isWord 17 = .ok (.iadd, 1) := by decide +kernel
theorem dX12_isWord_18 : decode cX12_isWord 18 = .ok (.invokevirtual 88, 3) := by decide +kernel
theorem dX12_isWord_21 : decode cX12_isWord 21 = .ok (.ifCond .eq 35, 3) := by decide +kernel
theorem dX12_isWord_56 : decode cX12_isWord 56 = .ok (.iload 5, 2) := by decide +kernel
theorem dX12_isWord_58 : decode cX12_isWord 58 = .ok (.ifCond .le 20, 3) := by decide +kernel
theorem dX12_isWord_78 : decode cX12_isWord 78 = .ok (.iconst 0, 1) := by decide +kernel
theorem dX12_isWord_79 : decode cX12_isWord 79 = .ok (.ireturn, 1) := by decide +kernel
set_option maxHeartbeats 4000000 in
set_option maxRecDepth 100000 in
theorem c_X12_isWord (l : Launch) (D : va_G) (cs : Nat → ClassId) (kK kV : Nat → Nat) (g : Nat → Nat) (wr : Int32) (tx : Int32) (lw : Int64) : Met l yX12_isWord (hz_w yX12_isWord cX12_isWord 6 (some .boolean)) ({ frames := 1, cells := 0, slots := 0, locals := 21 }) (va_Pc [.ref (g 0), .long lw] (hz_P D cs kK kV [(g 0, .inr (12, [.ref (g 1), .int 0, .int 0, .ref (g 2), .ref (g 3), .ref (g 4), .ref (g 5), .ref (g 6), .int 0, .int wr, .int 0, .int tx, .int 0, .int 0, .int 0, .ref (g 7), .int 0, .ref (g 8), .int 0, .ref (g 9), .ref (g 10), .int 0, .ref (g 11), .ref (g 12), .ref (g 13), .int 0, .int 0, .ref (g 14), .ref (g 15), .int 0, .int 0, .int 0, .ref (g 16), .long 0, .ref (g 17), .ref (g 18), .ref (g 19)]))])) (va_Qi (fun (r : Int32) (_ : Unit) => r = 0) (fun _ t => True) (fun _ => False)) 0 0 (fun _ => False) := by
  refine Met.ofW (cc := cX12_isWord) (maxL := 6) (ret := (some .boolean)) (by decide) rfl ?_
  intro p e s m args below meth c s₁ B hml hv
  obtain ⟨rfl, hP, hE⟩ := hv
  have hx := B.exec
  have hb := B.bytes
  have hr := B.returns
  have hT : ∀ w ∈ TB, w.before _ s = true := fun w h => atoms_spec (ws := hz_w yX12_isWord cX12_isWord 6 (some .boolean)) B.pre w (List.mem_cons_of_mem _ h)
  have hown : s.vm.findClass RX12 = some m.cls := findClass_of_methodNamed B.named
  have hlocks := B.notSynchronized
  clear B
  have hS : va_S (fun _ => False) s.heap s.heap [] := va_S.rf
  have hP : va_P D classes [(g 0, .inr (12, [.ref (g 1), .int 0, .int 0, .ref (g 2), .ref (g 3), .ref (g 4), .ref (g 5), .ref (g 6), .int 0, .int wr, .int 0, .int tx, .int 0, .int 0, .int 0, .ref (g 7), .int 0, .ref (g 8), .int 0, .ref (g 9), .ref (g 10), .int 0, .ref (g 11), .ref (g 12), .ref (g 13), .int 0, .int 0, .ref (g 14), .ref (g 15), .int 0, .int 0, .int 0, .ref (g 16), .long 0, .ref (g 17), .ref (g 18), .ref (g 19)]))] s.heap := hP
  have hK := hE.1
  have hl := lv_entry ([.ref (g 0), .long lw]) (n := 6) (Nat.le_of_ble_eq_true rfl)
  rw [lg_entry_eq]
  generalize (lg_sl ([.ref (g 0), .long lw]) ++ List.replicate (6 - (lg_sl ([.ref (g 0), .long lw])).length) Slot.unset).toArray = ls at hl ⊢
  have hl : lv_has ls 6 [(0, .ref (g 0)), (1, .long lw)] := hl
  obtain ⟨H, eH⟩ : ∃ z, z = s.heap := ⟨_, rfl⟩
  have hP : va_P D classes [(g 0, .inr (12, [.ref (g 1), .int 0, .int 0, .ref (g 2), .ref (g 3), .ref (g 4), .ref (g 5), .ref (g 6), .int 0, .int wr, .int 0, .int tx, .int 0, .int 0, .int 0, .ref (g 7), .int 0, .ref (g 8), .int 0, .ref (g 9), .ref (g 10), .int 0, .ref (g 11), .ref (g 12), .ref (g 13), .int 0, .int 0, .ref (g 14), .ref (g 15), .int 0, .int 0, .int 0, .ref (g 16), .long 0, .ref (g 17), .ref (g 18), .ref (g 19)]))] H := by rw [eH]; exact hP
  have hS : va_S (fun _ => False) s.heap H [] := by rw [eH]; exact hS
  rw [← eH]
  clear eH
  refine lv_aload_n hx hb dX12_isWord_0 rfl (lv_at hl 0 rfl) ?_
  refine va_calli (va_runV (As := []) (rest := []) ⟨hx, hb, hml, hown, hT⟩ (c_X12_see l D cs kK kV g wr tx) (cwV 0 hT (hz_gV q_290 q_291 q_292 q_252 q_293) rfl rfl rfl (by decide +kernel) ⟨(Nat.le_of_ble_eq_true rfl), (Nat.le_of_ble_eq_true rfl)⟩) ⟨hz_P.blind, va_recv hK hP (ci := 12) (q0 := 0) rfl rfl, hz_P.mk (hP.sub (ws' := [(g 0, .inr (12, [.ref (g 1), .int 0, .int 0, .ref (g 2), .ref (g 3), .ref (g 4), .ref (g 5), .ref (g 6), .int 0, .int wr, .int 0, .int tx, .int 0, .int 0, .int 0, .ref (g 7), .int 0, .ref (g 8), .int 0, .ref (g 9), .ref (g 10), .int 0, .ref (g 11), .ref (g 12), .ref (g 13), .int 0, .int 0, .ref (g 14), .ref (g 15), .int 0, .int 0, .int 0, .ref (g 16), .long 0, .ref (g 17), .ref (g 18), .ref (g 19)]))]) [0] rfl) hE hS⟩ rfl rfl hl.1 rfl (lv_room (Nat.le_of_ble_eq_true rfl)) dX12_isWord_1 ⟨(Nat.le_of_ble_eq_true rfl), (Nat.le_of_ble_eq_true rfl)⟩) hS (fun _ _ h => h.elim) (fun _ h => h.elim) (fun r_1 u t H1 locs ht hvm hw hB hz1 hk1 hS => ?_)
  have hP := hz_keep hP hk1
  clear hk1 hB hz1
  generalize H1 = H at hP hS ⊢
  subst hw
  refine lv_pop hx hb dX12_isWord_4 rfl ?_
  refine lv_lconst (v := 0) hx hb dX12_isWord_5 (by decide) ?_
  refine lv_lstore_n (lv' := [(3, .long 0), (0, .ref (g 0)), (1, .long lw)]) hx hb dX12_isWord_6 rfl hl (by decide) rfl (fun ls hl => ?_)
  refine lv_iconst (v := 0) hx hb dX12_isWord_7 (by decide) ?_
  refine lv_istore (lv' := [(5, .int 0), (3, .long 0), (0, .ref (g 0)), (1, .long lw)]) hx hb dX12_isWord_8 hl (by decide) rfl (fun ls hl => ?_)
  refine lv_aload_n hx hb dX12_isWord_10 rfl (lv_at hl 2 rfl) ?_
  refine lv_aload_n hx hb dX12_isWord_11 rfl (lv_at hl 2 rfl) ?_
  refine va_get (D := D) (ci := 12) (v := .int 0) (C := RX12) (T := TX12) (N := 37) hx hb hT i_X12 hown hK hP 0 rfl rfl 8 (by decide) (hT _ q_289) (fun _ h9 => h9) rfl dX12_isWord_12 ?_
  refine lv_iload hx hb dX12_isWord_15 (lv_at hl 0 rfl) ?_
  refine lv_iadd hx hb dX12_isWord_17 ?_
  refine hz_ev 0 (by decide) ?_
  refine va_calli (va_runV (As := [.int 0]) (rest := []) ⟨hx, hb, hml, hown, hT⟩ (c_X12_isLetter l D cs kK kV g wr tx) (cwV 1 hT (hz_gV q_294 q_295 q_296 q_252 q_297) rfl rfl rfl (by decide +kernel) ⟨(Nat.le_of_ble_eq_true rfl), (Nat.le_of_ble_eq_true rfl)⟩) ⟨hz_P.blind, va_recv hK hP (ci := 12) (q0 := 0) rfl rfl, hz_P.mk (hP.sub (ws' := [(g 0, .inr (12, [.ref (g 1), .int 0, .int 0, .ref (g 2), .ref (g 3), .ref (g 4), .ref (g 5), .ref (g 6), .int 0, .int wr, .int 0, .int tx, .int 0, .int 0, .int 0, .ref (g 7), .int 0, .ref (g 8), .int 0, .ref (g 9), .ref (g 10), .int 0, .ref (g 11), .ref (g 12), .ref (g 13), .int 0, .int 0, .ref (g 14), .ref (g 15), .int 0, .int 0, .int 0, .ref (g 16), .long 0, .ref (g 17), .ref (g 18), .ref (g 19)]))]) [0] rfl) hE hS⟩ rfl rfl hl.1 rfl (lv_room (Nat.le_of_ble_eq_true rfl)) dX12_isWord_18 ⟨(Nat.le_of_ble_eq_true rfl), (Nat.le_of_ble_eq_true rfl)⟩) hS (fun _ _ h => h.elim) (fun _ h => h.elim) (fun r_2 u t H1 locs ht hvm hw hB hz1 hk1 hS => ?_)
  have hP := hz_keep hP hk1
  clear hk1 hB hz1
  generalize H1 = H at hP hS ⊢
  subst hw
  refine lv_if_eq (tgt := 56) hx hb dX12_isWord_21 (by decide) (fun _ => ?_) (fun z => absurd (by decide) z)
  refine lv_iload hx hb dX12_isWord_56 (lv_at hl 0 rfl) ?_
  refine lv_if_le (tgt := 78) hx hb dX12_isWord_58 (by decide) (fun _ => ?_) (fun z => absurd (by decide) z)
  refine lv_iconst (v := 0) hx hb dX12_isWord_78 (by decide) ?_
  exact W.zret (v := 0) hx hb hr rfl (fun t ht hW => ⟨⟨0, (), rfl, rfl, trivial⟩, hS.F ht⟩) hS.2.2 dX12_isWord_79
theorem dX12_isFairWord_0 : decode cX12_isFairWord 0 = .ok (.aload_n 0, 1) := by decide +kernel
theorem dX12_isFairWord_1 : decode cX12_isFairWord 1 = .ok (.ldc2_w 218, 3) := by decide +kernel
theorem dX12_isFairWord_4 : decode cX12_isFairWord 4 = .ok (.invokevirtual 92, 3) := by decide +kernel
theorem dX12_isFairWord_7 : decode cX12_isFairWord 7 = .ok (.ifCond .ne 73, 3) := by decide +kernel
theorem dX12_isFairWord_10 : decode cX12_isFairWord 10 = .ok (.aload_n 0, 1) := by decide +kernel
theorem dX12_isFairWord_11 : decode cX12_isFairWord 11 = .ok (.ldc2_w 125, 3) := by decide +kernel
theorem dX12_isFairWord_14 : decode cX12_isFairWord 14 = .ok (.invokevirtual 92, 3) := by decide +kernel
theorem dX12_isFairWord_17 : decode cX12_isFairWord 17 = .ok (.ifCond .ne 63, 3) := by decide +kernel
theorem dX12_isFairWord_20 : decode cX12_isFairWord 20 = .ok (.aload_n 0, 1) := by decide +kernel
theorem dX12_isFairWord_21 : decode cX12_isFairWord 21 = .ok (.ldc2_w 226, 3) := by decide +kernel
theorem dX12_isFairWord_24 : decode cX12_isFairWord 24 = .ok (.invokevirtual 92, 3) := by decide +kernel
theorem dX12_isFairWord_27 : decode cX12_isFairWord 27 = .ok (.ifCond .ne 53, 3) := by decide +kernel
theorem dX12_isFairWord_30 : decode cX12_isFairWord 30 = .ok (.aload_n 0, 1) := by decide +kernel
theorem dX12_isFairWord_31 : decode cX12_isFairWord 31 = .ok (.ldc2_w 113, 3) := by decide +kernel
theorem dX12_isFairWord_34 : decode cX12_isFairWord 34 = .ok (.invokevirtual 92, 3) := by decide +kernel
theorem dX12_isFairWord_37 : decode cX12_isFairWord 37 = .ok (.ifCond .ne 43, 3) := by decide +kernel
theorem dX12_isFairWord_40 : decode cX12_isFairWord 40 = .ok (.aload_n 0, 1) := by decide +kernel
theorem dX12_isFairWord_41 : decode cX12_isFairWord 41 = .ok (.ldc2_w 234, 3) := by decide +kernel
theorem dX12_isFairWord_44 : decode cX12_isFairWord 44 = .ok (.invokevirtual 92, 3) := by decide +kernel
theorem dX12_isFairWord_47 : decode cX12_isFairWord 47 = .ok (.ifCond .ne 33, 3) := by decide +kernel
theorem dX12_isFairWord_50 : decode cX12_isFairWord 50 = .ok (.aload_n 0, 1) := by decide +kernel
theorem dX12_isFairWord_51 : decode cX12_isFairWord 51 = .ok (.ldc2_w 239, 3) := by decide +kernel
theorem dX12_isFairWord_54 : decode cX12_isFairWord 54 = .ok (.invokevirtual 92, 3) := by decide +kernel
theorem dX12_isFairWord_57 : decode cX12_isFairWord 57 = .ok (.ifCond .ne 23, 3) := by decide +kernel
theorem dX12_isFairWord_60 : decode cX12_isFairWord 60 = .ok (.aload_n 0, 1) := by decide +kernel
theorem dX12_isFairWord_61 : decode cX12_isFairWord 61 = .ok (.ldc2_w 247, 3) := by decide +kernel
theorem dX12_isFairWord_64 : decode cX12_isFairWord 64 = .ok (.invokevirtual 92, 3) := by decide +kernel
theorem dX12_isFairWord_67 : decode cX12_isFairWord 67 = .ok (.ifCond .ne 13, 3) := by decide +kernel
theorem dX12_isFairWord_70 : decode cX12_isFairWord 70 = .ok (.aload_n 0, 1) := by decide +kernel
theorem dX12_isFairWord_71 : decode cX12_isFairWord 71 = .ok (.ldc2_w 245, 3) := by decide +kernel
theorem dX12_isFairWord_74 : decode cX12_isFairWord 74 = .ok (.invokevirtual 92, 3) := by decide +kernel
theorem dX12_isFairWord_77 : decode cX12_isFairWord 77 = .ok (.ifCond .eq 7, 3) := by decide +kernel
theorem dX12_isFairWord_84 : decode cX12_isFairWord 84 = .ok (.iconst 0, 1) := by decide +kernel
theorem dX12_isFairWord_85 : decode cX12_isFairWord 85 = .ok (.ireturn, 1) := by decide +kernel
set_option maxHeartbeats 4000000 in
set_option maxRecDepth 100000 in
theorem c_X12_isFairWord (l : Launch) (D : va_G) (cs : Nat → ClassId) (kK kV : Nat → Nat) (g : Nat → Nat) (wr : Int32) (tx : Int32) : Met l yX12_isFairWord (hz_w yX12_isFairWord cX12_isFairWord 1 (some .boolean)) ({ frames := 2, cells := 0, slots := 0, locals := 46 }) (va_Pc [.ref (g 0)] (hz_P D cs kK kV [(g 0, .inr (12, [.ref (g 1), .int 0, .int 0, .ref (g 2), .ref (g 3), .ref (g 4), .ref (g 5), .ref (g 6), .int 0, .int wr, .int 0, .int tx, .int 0, .int 0, .int 0, .ref (g 7), .int 0, .ref (g 8), .int 0, .ref (g 9), .ref (g 10), .int 0, .ref (g 11), .ref (g 12), .ref (g 13), .int 0, .int 0, .ref (g 14), .ref (g 15), .int 0, .int 0, .int 0, .ref (g 16), .long 0, .ref (g 17), .ref (g 18), .ref (g 19)]))])) (va_Qi (fun (r : Int32) (_ : Unit) => r = 0) (fun _ t => True) (fun _ => False)) 0 0 (fun _ => False) := by
  refine Met.ofW (cc := cX12_isFairWord) (maxL := 1) (ret := (some .boolean)) (by decide) rfl ?_
  intro p e s m args below meth c s₁ B hml hv
  obtain ⟨rfl, hP, hE⟩ := hv
  have hx := B.exec
  have hb := B.bytes
  have hr := B.returns
  have hT : ∀ w ∈ TB, w.before _ s = true := fun w h => atoms_spec (ws := hz_w yX12_isFairWord cX12_isFairWord 1 (some .boolean)) B.pre w (List.mem_cons_of_mem _ h)
  have hown : s.vm.findClass RX12 = some m.cls := findClass_of_methodNamed B.named
  have hlocks := B.notSynchronized
  clear B
  have hS : va_S (fun _ => False) s.heap s.heap [] := va_S.rf
  have hP : va_P D classes [(g 0, .inr (12, [.ref (g 1), .int 0, .int 0, .ref (g 2), .ref (g 3), .ref (g 4), .ref (g 5), .ref (g 6), .int 0, .int wr, .int 0, .int tx, .int 0, .int 0, .int 0, .ref (g 7), .int 0, .ref (g 8), .int 0, .ref (g 9), .ref (g 10), .int 0, .ref (g 11), .ref (g 12), .ref (g 13), .int 0, .int 0, .ref (g 14), .ref (g 15), .int 0, .int 0, .int 0, .ref (g 16), .long 0, .ref (g 17), .ref (g 18), .ref (g 19)]))] s.heap := hP
  have hK := hE.1
  have hl := lv_entry ([.ref (g 0)]) (n := 1) (Nat.le_of_ble_eq_true rfl)
  rw [lg_entry_eq]
  generalize (lg_sl ([.ref (g 0)]) ++ List.replicate (1 - (lg_sl ([.ref (g 0)])).length) Slot.unset).toArray = ls at hl ⊢
  have hl : lv_has ls 1 [(0, .ref (g 0))] := hl
  obtain ⟨H, eH⟩ : ∃ z, z = s.heap := ⟨_, rfl⟩
  have hP : va_P D classes [(g 0, .inr (12, [.ref (g 1), .int 0, .int 0, .ref (g 2), .ref (g 3), .ref (g 4), .ref (g 5), .ref (g 6), .int 0, .int wr, .int 0, .int tx, .int 0, .int 0, .int 0, .ref (g 7), .int 0, .ref (g 8), .int 0, .ref (g 9), .ref (g 10), .int 0, .ref (g 11), .ref (g 12), .ref (g 13), .int 0, .int 0, .ref (g 14), .ref (g 15), .int 0, .int 0, .int 0, .ref (g 16), .long 0, .ref (g 17), .ref (g 18), .ref (g 19)]))] H := by rw [eH]; exact hP
  have hS : va_S (fun _ => False) s.heap H [] := by rw [eH]; exact hS
  rw [← eH]
  clear eH
  refine lv_aload_n hx hb dX12_isFairWord_0 rfl (lv_at hl 0 rfl) ?_
  refine lv_ldc2 hx hb hown (hT _ q_298) dX12_isFairWord_1 ?_
  refine va_calli (va_runV (As := [.long 126943687896179]) (rest := []) ⟨hx, hb, hml, hown, hT⟩ (c_X12_isWord l D cs kK kV g wr tx 126943687896179) (cwV 1 hT (hz_gV q_299 q_300 q_301 q_252 q_302) rfl rfl rfl (by decide +kernel) ⟨(Nat.le_of_ble_eq_true rfl), (Nat.le_of_ble_eq_true rfl)⟩) ⟨hz_P.blind, va_recv hK hP (ci := 12) (q0 := 0) rfl rfl, hz_P.mk (hP.sub (ws' := [(g 0, .inr (12, [.ref (g 1), .int 0, .int 0, .ref (g 2), .ref (g 3), .ref (g 4), .ref (g 5), .ref (g 6), .int 0, .int wr, .int 0, .int tx, .int 0, .int 0, .int 0, .ref (g 7), .int 0, .ref (g 8), .int 0, .ref (g 9), .ref (g 10), .int 0, .ref (g 11), .ref (g 12), .ref (g 13), .int 0, .int 0, .ref (g 14), .ref (g 15), .int 0, .int 0, .int 0, .ref (g 16), .long 0, .ref (g 17), .ref (g 18), .ref (g 19)]))]) [0] rfl) hE hS⟩ rfl rfl hl.1 rfl (lv_room (Nat.le_of_ble_eq_true rfl)) dX12_isFairWord_4 ⟨(Nat.le_of_ble_eq_true rfl), (Nat.le_of_ble_eq_true rfl)⟩) hS (fun _ _ h => h.elim) (fun _ h => h.elim) (fun r_1 u t H1 locs ht hvm hw hB hz1 hk1 hS => ?_)
  have hP := hz_keep hP hk1
  clear hk1 hB hz1
  generalize H1 = H at hP hS ⊢
  subst hw
  refine lv_if_ne (tgt := 80) hx hb dX12_isFairWord_7 (by decide) (fun z => absurd (by decide) z) (fun _ => ?_)
  refine lv_aload_n hx hb dX12_isFairWord_10 rfl (lv_at hl 0 rfl) ?_
  refine lv_ldc2 hx hb hown (hT _ q_303) dX12_isFairWord_11 ?_
  refine va_calli (va_runV (As := [.long 1751215206]) (rest := []) ⟨hx, hb, hml, hown, hT⟩ (c_X12_isWord l D cs kK kV g wr tx 1751215206) (cwV 1 hT (hz_gV q_299 q_300 q_301 q_252 q_302) rfl rfl rfl (by decide +kernel) ⟨(Nat.le_of_ble_eq_true rfl), (Nat.le_of_ble_eq_true rfl)⟩) ⟨hz_P.blind, va_recv hK hP (ci := 12) (q0 := 0) rfl rfl, hz_P.mk (hP.sub (ws' := [(g 0, .inr (12, [.ref (g 1), .int 0, .int 0, .ref (g 2), .ref (g 3), .ref (g 4), .ref (g 5), .ref (g 6), .int 0, .int wr, .int 0, .int tx, .int 0, .int 0, .int 0, .ref (g 7), .int 0, .ref (g 8), .int 0, .ref (g 9), .ref (g 10), .int 0, .ref (g 11), .ref (g 12), .ref (g 13), .int 0, .int 0, .ref (g 14), .ref (g 15), .int 0, .int 0, .int 0, .ref (g 16), .long 0, .ref (g 17), .ref (g 18), .ref (g 19)]))]) [0] rfl) hE hS⟩ rfl rfl hl.1 rfl (lv_room (Nat.le_of_ble_eq_true rfl)) dX12_isFairWord_14 ⟨(Nat.le_of_ble_eq_true rfl), (Nat.le_of_ble_eq_true rfl)⟩) hS (fun _ _ h => h.elim) (fun _ h => h.elim) (fun r_2 u t H1 locs ht hvm hw hB hz1 hk1 hS => ?_)
  have hP := hz_keep hP hk1
  clear hk1 hB hz1
  generalize H1 = H at hP hS ⊢
  subst hw
  refine lv_if_ne (tgt := 80) hx hb dX12_isFairWord_17 (by decide) (fun z => absurd (by decide) z) (fun _ => ?_)
  refine lv_aload_n hx hb dX12_isFairWord_20 rfl (lv_at hl 0 rfl) ?_
  refine lv_ldc2 hx hb hown (hT _ q_304) dX12_isFairWord_21 ?_
  refine va_calli (va_runV (As := [.long 112628846781796]) (rest := []) ⟨hx, hb, hml, hown, hT⟩ (c_X12_isWord l D cs kK kV g wr tx 112628846781796) (cwV 1 hT (hz_gV q_299 q_300 q_301 q_252 q_302) rfl rfl rfl (by decide +kernel) ⟨(Nat.le_of_ble_eq_true rfl), (Nat.le_of_ble_eq_true rfl)⟩) ⟨hz_P.blind, va_recv hK hP (ci := 12) (q0 := 0) rfl rfl, hz_P.mk (hP.sub (ws' := [(g 0, .inr (12, [.ref (g 1), .int 0, .int 0, .ref (g 2), .ref (g 3), .ref (g 4), .ref (g 5), .ref (g 6), .int 0, .int wr, .int 0, .int tx, .int 0, .int 0, .int 0, .ref (g 7), .int 0, .ref (g 8), .int 0, .ref (g 9), .ref (g 10), .int 0, .ref (g 11), .ref (g 12), .ref (g 13), .int 0, .int 0, .ref (g 14), .ref (g 15), .int 0, .int 0, .int 0, .ref (g 16), .long 0, .ref (g 17), .ref (g 18), .ref (g 19)]))]) [0] rfl) hE hS⟩ rfl rfl hl.1 rfl (lv_room (Nat.le_of_ble_eq_true rfl)) dX12_isFairWord_24 ⟨(Nat.le_of_ble_eq_true rfl), (Nat.le_of_ble_eq_true rfl)⟩) hS (fun _ _ h => h.elim) (fun _ h => h.elim) (fun r_3 u t H1 locs ht hvm hw hB hz1 hk1 hS => ?_)
  have hP := hz_keep hP hk1
  clear hk1 hB hz1
  generalize H1 = H at hP hS ⊢
  subst hw
  refine lv_if_ne (tgt := 80) hx hb dX12_isFairWord_27 (by decide) (fun z => absurd (by decide) z) (fun _ => ?_)
  refine lv_aload_n hx hb dX12_isFairWord_30 rfl (lv_at hl 0 rfl) ?_
  refine lv_ldc2 hx hb hown (hT _ q_305) dX12_isFairWord_31 ?_
  refine va_calli (va_runV (As := [.long 422877685106]) (rest := []) ⟨hx, hb, hml, hown, hT⟩ (c_X12_isWord l D cs kK kV g wr tx 422877685106) (cwV 1 hT (hz_gV q_299 q_300 q_301 q_252 q_302) rfl rfl rfl (by decide +kernel) ⟨(Nat.le_of_ble_eq_true rfl), (Nat.le_of_ble_eq_true rfl)⟩) ⟨hz_P.blind, va_recv hK hP (ci := 12) (q0 := 0) rfl rfl, hz_P.mk (hP.sub (ws' := [(g 0, .inr (12, [.ref (g 1), .int 0, .int 0, .ref (g 2), .ref (g 3), .ref (g 4), .ref (g 5), .ref (g 6), .int 0, .int wr, .int 0, .int tx, .int 0, .int 0, .int 0, .ref (g 7), .int 0, .ref (g 8), .int 0, .ref (g 9), .ref (g 10), .int 0, .ref (g 11), .ref (g 12), .ref (g 13), .int 0, .int 0, .ref (g 14), .ref (g 15), .int 0, .int 0, .int 0, .ref (g 16), .long 0, .ref (g 17), .ref (g 18), .ref (g 19)]))]) [0] rfl) hE hS⟩ rfl rfl hl.1 rfl (lv_room (Nat.le_of_ble_eq_true rfl)) dX12_isFairWord_34 ⟨(Nat.le_of_ble_eq_true rfl), (Nat.le_of_ble_eq_true rfl)⟩) hS (fun _ _ h => h.elim) (fun _ h => h.elim) (fun r_4 u t H1 locs ht hvm hw hB hz1 hk1 hS => ?_)
  have hP := hz_keep hP hk1
  clear hk1 hB hz1
  generalize H1 = H at hP hS ⊢
  subst hw
  refine lv_if_ne (tgt := 80) hx hb dX12_isFairWord_37 (by decide) (fun z => absurd (by decide) z) (fun _ => ?_)
  refine lv_aload_n hx hb dX12_isFairWord_40 rfl (lv_at hl 0 rfl) ?_
  refine lv_ldc2 hx hb hown (hT _ q_306) dX12_isFairWord_41 ?_
  refine va_calli (va_runV (As := [.long 1668052322]) (rest := []) ⟨hx, hb, hml, hown, hT⟩ (c_X12_isWord l D cs kK kV g wr tx 1668052322) (cwV 1 hT (hz_gV q_299 q_300 q_301 q_252 q_302) rfl rfl rfl (by decide +kernel) ⟨(Nat.le_of_ble_eq_true rfl), (Nat.le_of_ble_eq_true rfl)⟩) ⟨hz_P.blind, va_recv hK hP (ci := 12) (q0 := 0) rfl rfl, hz_P.mk (hP.sub (ws' := [(g 0, .inr (12, [.ref (g 1), .int 0, .int 0, .ref (g 2), .ref (g 3), .ref (g 4), .ref (g 5), .ref (g 6), .int 0, .int wr, .int 0, .int tx, .int 0, .int 0, .int 0, .ref (g 7), .int 0, .ref (g 8), .int 0, .ref (g 9), .ref (g 10), .int 0, .ref (g 11), .ref (g 12), .ref (g 13), .int 0, .int 0, .ref (g 14), .ref (g 15), .int 0, .int 0, .int 0, .ref (g 16), .long 0, .ref (g 17), .ref (g 18), .ref (g 19)]))]) [0] rfl) hE hS⟩ rfl rfl hl.1 rfl (lv_room (Nat.le_of_ble_eq_true rfl)) dX12_isFairWord_44 ⟨(Nat.le_of_ble_eq_true rfl), (Nat.le_of_ble_eq_true rfl)⟩) hS (fun _ _ h => h.elim) (fun _ h => h.elim) (fun r_5 u t H1 locs ht hvm hw hB hz1 hk1 hS => ?_)
  have hP := hz_keep hP hk1
  clear hk1 hB hz1
  generalize H1 = H at hP hS ⊢
  subst hw
  refine lv_if_ne (tgt := 80) hx hb dX12_isFairWord_47 (by decide) (fun z => absurd (by decide) z) (fun _ => ?_)
  refine lv_aload_n hx hb dX12_isFairWord_50 rfl (lv_at hl 0 rfl) ?_
  refine lv_ldc2 hx hb hown (hT _ q_307) dX12_isFairWord_51 ?_
  refine va_calli (va_runV (As := [.long 1852137842]) (rest := []) ⟨hx, hb, hml, hown, hT⟩ (c_X12_isWord l D cs kK kV g wr tx 1852137842) (cwV 1 hT (hz_gV q_299 q_300 q_301 q_252 q_302) rfl rfl rfl (by decide +kernel) ⟨(Nat.le_of_ble_eq_true rfl), (Nat.le_of_ble_eq_true rfl)⟩) ⟨hz_P.blind, va_recv hK hP (ci := 12) (q0 := 0) rfl rfl, hz_P.mk (hP.sub (ws' := [(g 0, .inr (12, [.ref (g 1), .int 0, .int 0, .ref (g 2), .ref (g 3), .ref (g 4), .ref (g 5), .ref (g 6), .int 0, .int wr, .int 0, .int tx, .int 0, .int 0, .int 0, .ref (g 7), .int 0, .ref (g 8), .int 0, .ref (g 9), .ref (g 10), .int 0, .ref (g 11), .ref (g 12), .ref (g 13), .int 0, .int 0, .ref (g 14), .ref (g 15), .int 0, .int 0, .int 0, .ref (g 16), .long 0, .ref (g 17), .ref (g 18), .ref (g 19)]))]) [0] rfl) hE hS⟩ rfl rfl hl.1 rfl (lv_room (Nat.le_of_ble_eq_true rfl)) dX12_isFairWord_54 ⟨(Nat.le_of_ble_eq_true rfl), (Nat.le_of_ble_eq_true rfl)⟩) hS (fun _ _ h => h.elim) (fun _ h => h.elim) (fun r_6 u t H1 locs ht hvm hw hB hz1 hk1 hS => ?_)
  have hP := hz_keep hP hk1
  clear hk1 hB hz1
  generalize H1 = H at hP hS ⊢
  subst hw
  refine lv_if_ne (tgt := 80) hx hb dX12_isFairWord_57 (by decide) (fun z => absurd (by decide) z) (fun _ => ?_)
  refine lv_aload_n hx hb dX12_isFairWord_60 rfl (lv_at hl 0 rfl) ?_
  refine lv_ldc2 hx hb hown (hT _ q_308) dX12_isFairWord_61 ?_
  refine va_calli (va_runV (As := [.long 1685418859]) (rest := []) ⟨hx, hb, hml, hown, hT⟩ (c_X12_isWord l D cs kK kV g wr tx 1685418859) (cwV 1 hT (hz_gV q_299 q_300 q_301 q_252 q_302) rfl rfl rfl (by decide +kernel) ⟨(Nat.le_of_ble_eq_true rfl), (Nat.le_of_ble_eq_true rfl)⟩) ⟨hz_P.blind, va_recv hK hP (ci := 12) (q0 := 0) rfl rfl, hz_P.mk (hP.sub (ws' := [(g 0, .inr (12, [.ref (g 1), .int 0, .int 0, .ref (g 2), .ref (g 3), .ref (g 4), .ref (g 5), .ref (g 6), .int 0, .int wr, .int 0, .int tx, .int 0, .int 0, .int 0, .ref (g 7), .int 0, .ref (g 8), .int 0, .ref (g 9), .ref (g 10), .int 0, .ref (g 11), .ref (g 12), .ref (g 13), .int 0, .int 0, .ref (g 14), .ref (g 15), .int 0, .int 0, .int 0, .ref (g 16), .long 0, .ref (g 17), .ref (g 18), .ref (g 19)]))]) [0] rfl) hE hS⟩ rfl rfl hl.1 rfl (lv_room (Nat.le_of_ble_eq_true rfl)) dX12_isFairWord_64 ⟨(Nat.le_of_ble_eq_true rfl), (Nat.le_of_ble_eq_true rfl)⟩) hS (fun _ _ h => h.elim) (fun _ h => h.elim) (fun r_7 u t H1 locs ht hvm hw hB hz1 hk1 hS => ?_)
  have hP := hz_keep hP hk1
  clear hk1 hB hz1
  generalize H1 = H at hP hS ⊢
  subst hw
  refine lv_if_ne (tgt := 80) hx hb dX12_isFairWord_67 (by decide) (fun z => absurd (by decide) z) (fun _ => ?_)
  refine lv_aload_n hx hb dX12_isFairWord_70 rfl (lv_at hl 0 rfl) ?_
  refine lv_ldc2 hx hb hown (hT _ q_309) dX12_isFairWord_71 ?_
  refine va_calli (va_runV (As := [.long 1751474546]) (rest := []) ⟨hx, hb, hml, hown, hT⟩ (c_X12_isWord l D cs kK kV g wr tx 1751474546) (cwV 1 hT (hz_gV q_299 q_300 q_301 q_252 q_302) rfl rfl rfl (by decide +kernel) ⟨(Nat.le_of_ble_eq_true rfl), (Nat.le_of_ble_eq_true rfl)⟩) ⟨hz_P.blind, va_recv hK hP (ci := 12) (q0 := 0) rfl rfl, hz_P.mk (hP.sub (ws' := [(g 0, .inr (12, [.ref (g 1), .int 0, .int 0, .ref (g 2), .ref (g 3), .ref (g 4), .ref (g 5), .ref (g 6), .int 0, .int wr, .int 0, .int tx, .int 0, .int 0, .int 0, .ref (g 7), .int 0, .ref (g 8), .int 0, .ref (g 9), .ref (g 10), .int 0, .ref (g 11), .ref (g 12), .ref (g 13), .int 0, .int 0, .ref (g 14), .ref (g 15), .int 0, .int 0, .int 0, .ref (g 16), .long 0, .ref (g 17), .ref (g 18), .ref (g 19)]))]) [0] rfl) hE hS⟩ rfl rfl hl.1 rfl (lv_room (Nat.le_of_ble_eq_true rfl)) dX12_isFairWord_74 ⟨(Nat.le_of_ble_eq_true rfl), (Nat.le_of_ble_eq_true rfl)⟩) hS (fun _ _ h => h.elim) (fun _ h => h.elim) (fun r_8 u t H1 locs ht hvm hw hB hz1 hk1 hS => ?_)
  have hP := hz_keep hP hk1
  clear hk1 hB hz1
  generalize H1 = H at hP hS ⊢
  subst hw
  refine lv_if_eq (tgt := 84) hx hb dX12_isFairWord_77 (by decide) (fun _ => ?_) (fun z => absurd (by decide) z)
  refine lv_iconst (v := 0) hx hb dX12_isFairWord_84 (by decide) ?_
  exact W.zret (v := 0) hx hb hr rfl (fun t ht hW => ⟨⟨0, (), rfl, rfl, trivial⟩, hS.F ht⟩) hS.2.2 dX12_isFairWord_85
theorem dX12_fails_0 : decode cX12_fails 0 = .ok (.aload_n 0, 1) := by decide +kernel
theorem dX12_fails_1 : decode cX12_fails 1 = .ok (.getfield 78, 3) := by decide +kernel
theorem dX12_fails_4 : decode cX12_fails 4 = .ok (.ifCond .ne 15, 3) := by decide +kernel
theorem dX12_fails_7 : decode cX12_fails 7 = .ok (.aload_n 0, 1) := by decide +kernel
theorem dX12_fails_8 : decode cX12_fails 8 = .ok (.iconst 1, 1) := by decide +kernel
theorem dX12_fails_9 : decode cX12_fails 9 = .ok (.bipush 8, 2) := by decide +kernel
theorem dX12_fails_11 : decode cX12_fails 11 = .ok (.iload_n 2, 1) := by decide +kernel
theorem dX12_fails_12 : decode cX12_fails 12 = .ok (.imul, 1) := by decide +kernel
theorem dX12_fails_13 : decode cX12_fails 13 = .ok (.iadd, 1) := by decide +kernel
theorem dX12_fails_14 : decode cX12_fails 14 = .ok (.iload_n 1, 1) := by decide +kernel
theorem dX12_fails_15 : decode cX12_fails 15 = .ok (.iadd, 1) := by decide +kernel
theorem dX12_fails_16 : decode cX12_fails 16 = .ok (.putfield 78, 3) := by decide +kernel
theorem dX12_fails_19 : decode cX12_fails 19 = .ok (.iconst 0, 1) := by decide +kernel
theorem dX12_fails_20 : decode cX12_fails 20 = .ok (.ireturn, 1) := by decide +kernel
set_option maxHeartbeats 4000000 in
set_option maxRecDepth 100000 in
theorem c_X12_fails (l : Launch) (D : va_G) (cs : Nat → ClassId) (kK kV : Nat → Nat) (g : Nat → Nat) (tx : Int32) (sz : Nat) : Met l yX12_fails (hz_w yX12_fails cX12_fails 3 (some .boolean)) ({ frames := 0, cells := 0, slots := 0, locals := 0 }) (va_Pc [.ref (g 0), .int 0, .int 0] (hz_C D cs kK kV sz [(g 0, .inr (12, [.ref (g 1), .int 0, .int 0, .ref (g 2), .ref (g 3), .ref (g 4), .ref (g 5), .ref (g 6), .int 0, .int 0, .int 0, .int tx, .int 0, .int 0, .int 0, .ref (g 7), .int 0, .ref (g 8), .int 0, .ref (g 9), .ref (g 10), .int 0, .ref (g 11), .ref (g 12), .ref (g 13), .int 0, .int 0, .ref (g 14), .ref (g 15), .int 0, .int 0, .int 0, .ref (g 16), .long 0, .ref (g 17), .ref (g 18), .ref (g 19)]))])) (va_Qi (fun (r : Int32) (_ : Unit) => r = 0) (fun _ t => va_P D classes [(g 0, .inr (12, [.ref (g 1), .int 0, .int 0, .ref (g 2), .ref (g 3), .ref (g 4), .ref (g 5), .ref (g 6), .int 0, .int 1, .int 0, .int tx, .int 0, .int 0, .int 0, .ref (g 7), .int 0, .ref (g 8), .int 0, .ref (g 9), .ref (g 10), .int 0, .ref (g 11), .ref (g 12), .ref (g 13), .int 0, .int 0, .ref (g 14), .ref (g 15), .int 0, .int 0, .int 0, .ref (g 16), .long 0, .ref (g 17), .ref (g 18), .ref (g 19)]))] t.heap ∧ va_D (va_A [(g 0, .inr (12, [.ref (g 1), .int 0, .int 0, .ref (g 2), .ref (g 3), .ref (g 4), .ref (g 5), .ref (g 6), .int 0, .int 0, .int 0, .int tx, .int 0, .int 0, .int 0, .ref (g 7), .int 0, .ref (g 8), .int 0, .ref (g 9), .ref (g 10), .int 0, .ref (g 11), .ref (g 12), .ref (g 13), .int 0, .int 0, .ref (g 14), .ref (g 15), .int 0, .int 0, .int 0, .ref (g 16), .long 0, .ref (g 17), .ref (g 18), .ref (g 19)]))] sz) [(g 0, .inr (12, [.ref (g 1), .int 0, .int 0, .ref (g 2), .ref (g 3), .ref (g 4), .ref (g 5), .ref (g 6), .int 0, .int 1, .int 0, .int tx, .int 0, .int 0, .int 0, .ref (g 7), .int 0, .ref (g 8), .int 0, .ref (g 9), .ref (g 10), .int 0, .ref (g 11), .ref (g 12), .ref (g 13), .int 0, .int 0, .ref (g 14), .ref (g 15), .int 0, .int 0, .int 0, .ref (g 16), .long 0, .ref (g 17), .ref (g 18), .ref (g 19)]))]) (va_A [(g 0, .inr (12, [.ref (g 1), .int 0, .int 0, .ref (g 2), .ref (g 3), .ref (g 4), .ref (g 5), .ref (g 6), .int 0, .int 0, .int 0, .int tx, .int 0, .int 0, .int 0, .ref (g 7), .int 0, .ref (g 8), .int 0, .ref (g 9), .ref (g 10), .int 0, .ref (g 11), .ref (g 12), .ref (g 13), .int 0, .int 0, .ref (g 14), .ref (g 15), .int 0, .int 0, .int 0, .ref (g 16), .long 0, .ref (g 17), .ref (g 18), .ref (g 19)]))] sz)) 0 0 (va_A [(g 0, .inr (12, [.ref (g 1), .int 0, .int 0, .ref (g 2), .ref (g 3), .ref (g 4), .ref (g 5), .ref (g 6), .int 0, .int 0, .int 0, .int tx, .int 0, .int 0, .int 0, .ref (g 7), .int 0, .ref (g 8), .int 0, .ref (g 9), .ref (g 10), .int 0, .ref (g 11), .ref (g 12), .ref (g 13), .int 0, .int 0, .ref (g 14), .ref (g 15), .int 0, .int 0, .int 0, .ref (g 16), .long 0, .ref (g 17), .ref (g 18), .ref (g 19)]))] sz) := by
  refine Met.ofW (cc := cX12_fails) (maxL := 3) (ret := (some .boolean)) (by decide) rfl ?_
  intro p e s m args below meth c s₁ B hml hv
  obtain ⟨rfl, hsz, hP, hD0, hE⟩ := hv
  have hx := B.exec
  have hb := B.bytes
  have hr := B.returns
  have hT : ∀ w ∈ TB, w.before _ s = true := fun w h => atoms_spec (ws := hz_w yX12_fails cX12_fails 3 (some .boolean)) B.pre w (List.mem_cons_of_mem _ h)
  have hown : s.vm.findClass RX12 = some m.cls := findClass_of_methodNamed B.named
  have hlocks := B.notSynchronized
  clear B
  subst hsz
  have hD := hD0.self (sz := s.heap.size)
  generalize hAe : va_A [(g 0, .inr (12, [.ref (g 1), .int 0, .int 0, .ref (g 2), .ref (g 3), .ref (g 4), .ref (g 5), .ref (g 6), .int 0, .int 0, .int 0, .int tx, .int 0, .int 0, .int 0, .ref (g 7), .int 0, .ref (g 8), .int 0, .ref (g 9), .ref (g 10), .int 0, .ref (g 11), .ref (g 12), .ref (g 13), .int 0, .int 0, .ref (g 14), .ref (g 15), .int 0, .int 0, .int 0, .ref (g 16), .long 0, .ref (g 17), .ref (g 18), .ref (g 19)]))] s.heap.size = A at hD hE ⊢
  have hA : ∀ q : Nat, s.heap.size ≤ q → A q := fun q h => by rw [← hAe]; exact Or.inr h
  clear hAe hD0
  have hS : va_S A s.heap s.heap [] := va_S.rf
  have hK := hE.1
  have hl := lv_entry ([.ref (g 0), .int 0, .int 0]) (n := 3) (Nat.le_of_ble_eq_true rfl)
  rw [lg_entry_eq]
  generalize (lg_sl ([.ref (g 0), .int 0, .int 0]) ++ List.replicate (3 - (lg_sl ([.ref (g 0), .int 0, .int 0])).length) Slot.unset).toArray = ls at hl ⊢
  have hl : lv_has ls 3 [(0, .ref (g 0)), (1, .int 0), (2, .int 0)] := hl
  obtain ⟨H, eH⟩ : ∃ z, z = s.heap := ⟨_, rfl⟩
  have hP : va_P D classes [(g 0, .inr (12, [.ref (g 1), .int 0, .int 0, .ref (g 2), .ref (g 3), .ref (g 4), .ref (g 5), .ref (g 6), .int 0, .int 0, .int 0, .int tx, .int 0, .int 0, .int 0, .ref (g 7), .int 0, .ref (g 8), .int 0, .ref (g 9), .ref (g 10), .int 0, .ref (g 11), .ref (g 12), .ref (g 13), .int 0, .int 0, .ref (g 14), .ref (g 15), .int 0, .int 0, .int 0, .ref (g 16), .long 0, .ref (g 17), .ref (g 18), .ref (g 19)]))] H := by rw [eH]; exact hP
  have hS : va_S A s.heap H [] := by rw [eH]; exact hS
  rw [← eH]
  clear eH
  refine lv_aload_n hx hb dX12_fails_0 rfl (lv_at hl 0 rfl) ?_
  refine va_get (D := D) (ci := 12) (v := .int 0) (C := RX12) (T := TX12) (N := 37) hx hb hT i_X12 hown hK hP 0 rfl rfl 9 (by decide) (hT _ q_310) (fun _ h9 => h9) rfl dX12_fails_1 ?_
  refine lv_if_ne (tgt := 19) hx hb dX12_fails_4 (by decide) (fun z => absurd (by decide) z) (fun _ => ?_)
  refine lv_aload_n hx hb dX12_fails_7 rfl (lv_at hl 0 rfl) ?_
  refine lv_iconst (v := 1) hx hb dX12_fails_8 (by decide) ?_
  refine lv_bipush (v := 8) hx hb dX12_fails_9 (by decide) ?_
  refine lv_iload_n hx hb dX12_fails_11 rfl (lv_at hl 2 rfl) ?_
  refine lv_imul hx hb dX12_fails_12 ?_
  refine hz_ev 0 (by decide) ?_
  refine lv_iadd hx hb dX12_fails_13 ?_
  refine hz_ev 1 (by decide) ?_
  refine lv_iload_n hx hb dX12_fails_14 rfl (lv_at hl 1 rfl) ?_
  refine lv_iadd hx hb dX12_fails_15 ?_
  refine hz_ev 1 (by decide) ?_
  refine va_put (D := D) (ci := 12) (v := .int 1) (ty := .int) (C := RX12) (T := TX12) (N := 37) hx hb hT i_X12 tyX12 tyX12_ok nmX12 hown hK hP hD hS 0 rfl rfl 9 (by decide) (hT _ q_310) (fun _ h9 => h9) rfl (by decide +kernel) rfl rfl (Nat.le_of_ble_eq_true rfl) dX12_fails_16 (fun H locs hP hD hS => ?_)
  have hP : va_P D classes [(g 0, .inr (12, [.ref (g 1), .int 0, .int 0, .ref (g 2), .ref (g 3), .ref (g 4), .ref (g 5), .ref (g 6), .int 0, .int 1, .int 0, .int tx, .int 0, .int 0, .int 0, .ref (g 7), .int 0, .ref (g 8), .int 0, .ref (g 9), .ref (g 10), .int 0, .ref (g 11), .ref (g 12), .ref (g 13), .int 0, .int 0, .ref (g 14), .ref (g 15), .int 0, .int 0, .int 0, .ref (g 16), .long 0, .ref (g 17), .ref (g 18), .ref (g 19)]))] H := hP
  have hD : va_D A [(g 0, .inr (12, [.ref (g 1), .int 0, .int 0, .ref (g 2), .ref (g 3), .ref (g 4), .ref (g 5), .ref (g 6), .int 0, .int 1, .int 0, .int tx, .int 0, .int 0, .int 0, .ref (g 7), .int 0, .ref (g 8), .int 0, .ref (g 9), .ref (g 10), .int 0, .ref (g 11), .ref (g 12), .ref (g 13), .int 0, .int 0, .ref (g 14), .ref (g 15), .int 0, .int 0, .int 0, .ref (g 16), .long 0, .ref (g 17), .ref (g 18), .ref (g 19)]))] := hD
  refine lv_iconst (v := 0) hx hb dX12_fails_19 (by decide) ?_
  exact W.zret (v := 0) hx hb hr rfl (fun t ht hW => ⟨⟨0, (), rfl, rfl, by rw [ht]; exact hP.sub [0] rfl, hD.sub [0] (by decide) rfl⟩, hS.F ht⟩) hS.2.2 dX12_fails_20
theorem dX12_clauseHere_0 : decode cX12_clauseHere 0 = .ok (.aload_n 0, 1) := by decide +kernel
theorem dX12_clauseHere_1 : decode cX12_clauseHere 1 = .ok (.invokevirtual 84, 3) := by decide +kernel
theorem dX12_clauseHere_4 : decode cX12_clauseHere 4 = .ok (.pop, 1) := by decide +kernel
theorem dX12_clauseHere_5 : decode cX12_clauseHere 5 = .ok (.aload_n 0, 1) := by decide +kernel
theorem dX12_clauseHere_6 : decode cX12_clauseHere 6 = .ok (.getfield 81, 3) := by decide +kernel
theorem dX12_clauseHere_9 : decode cX12_clauseHere 9 = .ok (.istore_n 1, 1) := by decide +kernel
theorem dX12_clauseHere_10 : decode cX12_clauseHere 10 = .ok (.aload_n 0, 1) := by decide +kernel
theorem dX12_clauseHere_11 : decode cX12_clauseHere 11 = .ok (.getfield 139, 3) := by decide +kernel
theorem dX12_clauseHere_14 : decode cX12_clauseHere 14 = .ok (.bipush 6, 2) := by decide +kernel
theorem dX12_clauseHere_16 : decode cX12_clauseHere 16 = .ok (.if_icmp .ne 7, 3) := by decide +kernel
theorem dX12_clauseHere_19 : decode cX12_clauseHere 19 = .ok (.iconst 1, 1) := by decide +kernel
theorem dX12_clauseHere_20 : decode cX12_clauseHere 20 = .ok (.goto 4, 3) := by decide +kernel
theorem dX12_clauseHere_23 : decode cX12_clauseHere 23 = .ok (.iconst 0, 1) := by decide +kernel
theorem dX12_clauseHere_24 : decode cX12_clauseHere 24 = .ok (.istore_n 2, 1) := by decide +kernel
theorem dX12_clauseHere_25 : decode cX12_clauseHere 25 = .ok (.iload_n 2, 1) := by decide +kernel
theorem dX12_clauseHere_26 : decode cX12_clauseHere 26 = .ok (.ifCond .eq 13, 3) := by decide +kernel
theorem dX12_clauseHere_29 : decode cX12_clauseHere 29 = .ok (.aload_n 0, 1) := by decide +kernel
theorem dX12_clauseHere_30 : decode cX12_clauseHere 30 = .ok (.invokevirtual 249, 3) := by decide +kernel
theorem dX12_clauseHere_33 : decode cX12_clauseHere 33 = .ok (.ifCond .ne 33, 3) := by decide +kernel
theorem dX12_clauseHere_36 : decode cX12_clauseHere 36 = .ok (.goto 23, 3) := by decide +kernel
theorem dX12_clauseHere_39 : decode cX12_clauseHere 39 = .ok (.aload_n 0, 1) := by decide +kernel
theorem dX12_clauseHere_40 : decode cX12_clauseHere 40 = .ok (.ldc2_w 252, 3) := by decide +kernel
theorem dX12_clauseHere_43 : decode cX12_clauseHere 43 = .ok (.invokevirtual 92, 3) := by decide +kernel
theorem dX12_clauseHere_46 : decode cX12_clauseHere 46 = .ok (.ifCond .ne 20, 3) := by decide +kernel
theorem dX12_clauseHere_49 : decode cX12_clauseHere 49 = .ok (.aload_n 0, 1) := by decide +kernel
theorem dX12_clauseHere_50 : decode cX12_clauseHere 50 = .ok (.ldc2_w 254, 3) := by decide +kernel
theorem dX12_clauseHere_53 : decode cX12_clauseHere 53 = .ok (.invokevirtual 92, 3) := by decide +kernel
theorem dX12_clauseHere_56 : decode cX12_clauseHere 56 = .ok (.ifCond .ne 10, 3) := by decide +kernel
theorem dX12_clauseHere_59 : decode cX12_clauseHere 59 = .ok (.aload_n 0, 1) := by decide +kernel
theorem dX12_clauseHere_60 : decode cX12_clauseHere 60 = .ok (.iconst 0, 1) := by decide +kernel
theorem dX12_clauseHere_61 : decode cX12_clauseHere 61 = .ok (.iload_n 1, 1) := by decide +kernel
theorem dX12_clauseHere_62 : decode cX12_clauseHere 62 = .ok (.invokevirtual 102, 3) := by decide +kernel
theorem dX12_clauseHere_65 : decode cX12_clauseHere 65 = .ok (.ireturn, 1) := by decide +kernel
set_option maxHeartbeats 4000000 in
set_option maxRecDepth 100000 in
theorem c_X12_clause0 (l : Launch) (D : va_G) (cs : Nat → ClassId) (kK kV : Nat → Nat) (g : Nat → Nat) (sz : Nat) : Met l yX12_clauseHere (hz_w yX12_clauseHere cX12_clauseHere 3 (some .boolean)) ({ frames := 2, cells := 0, slots := 0, locals := 46 }) (va_Pc [.ref (g 0)] (hz_C D cs kK kV sz [(g 0, .inr (12, [.ref (g 1), .int 0, .int 0, .ref (g 2), .ref (g 3), .ref (g 4), .ref (g 5), .ref (g 6), .int 0, .int 0, .int 0, .int 0, .int 0, .int 0, .int 0, .ref (g 7), .int 0, .ref (g 8), .int 0, .ref (g 9), .ref (g 10), .int 0, .ref (g 11), .ref (g 12), .ref (g 13), .int 0, .int 0, .ref (g 14), .ref (g 15), .int 0, .int 0, .int 0, .ref (g 16), .long 0, .ref (g 17), .ref (g 18), .ref (g 19)]))])) (va_Qi (fun (r : Int32) (_ : Unit) => r = 0) (fun _ t => va_P D classes [(g 0, .inr (12, [.ref (g 1), .int 0, .int 0, .ref (g 2), .ref (g 3), .ref (g 4), .ref (g 5), .ref (g 6), .int 0, .int 1, .int 0, .int 0, .int 0, .int 0, .int 0, .ref (g 7), .int 0, .ref (g 8), .int 0, .ref (g 9), .ref (g 10), .int 0, .ref (g 11), .ref (g 12), .ref (g 13), .int 0, .int 0, .ref (g 14), .ref (g 15), .int 0, .int 0, .int 0, .ref (g 16), .long 0, .ref (g 17), .ref (g 18), .ref (g 19)]))] t.heap ∧ va_D (va_A [(g 0, .inr (12, [.ref (g 1), .int 0, .int 0, .ref (g 2), .ref (g 3), .ref (g 4), .ref (g 5), .ref (g 6), .int 0, .int 0, .int 0, .int 0, .int 0, .int 0, .int 0, .ref (g 7), .int 0, .ref (g 8), .int 0, .ref (g 9), .ref (g 10), .int 0, .ref (g 11), .ref (g 12), .ref (g 13), .int 0, .int 0, .ref (g 14), .ref (g 15), .int 0, .int 0, .int 0, .ref (g 16), .long 0, .ref (g 17), .ref (g 18), .ref (g 19)]))] sz) [(g 0, .inr (12, [.ref (g 1), .int 0, .int 0, .ref (g 2), .ref (g 3), .ref (g 4), .ref (g 5), .ref (g 6), .int 0, .int 1, .int 0, .int 0, .int 0, .int 0, .int 0, .ref (g 7), .int 0, .ref (g 8), .int 0, .ref (g 9), .ref (g 10), .int 0, .ref (g 11), .ref (g 12), .ref (g 13), .int 0, .int 0, .ref (g 14), .ref (g 15), .int 0, .int 0, .int 0, .ref (g 16), .long 0, .ref (g 17), .ref (g 18), .ref (g 19)]))]) (va_A [(g 0, .inr (12, [.ref (g 1), .int 0, .int 0, .ref (g 2), .ref (g 3), .ref (g 4), .ref (g 5), .ref (g 6), .int 0, .int 0, .int 0, .int 0, .int 0, .int 0, .int 0, .ref (g 7), .int 0, .ref (g 8), .int 0, .ref (g 9), .ref (g 10), .int 0, .ref (g 11), .ref (g 12), .ref (g 13), .int 0, .int 0, .ref (g 14), .ref (g 15), .int 0, .int 0, .int 0, .ref (g 16), .long 0, .ref (g 17), .ref (g 18), .ref (g 19)]))] sz)) 0 0 (va_A [(g 0, .inr (12, [.ref (g 1), .int 0, .int 0, .ref (g 2), .ref (g 3), .ref (g 4), .ref (g 5), .ref (g 6), .int 0, .int 0, .int 0, .int 0, .int 0, .int 0, .int 0, .ref (g 7), .int 0, .ref (g 8), .int 0, .ref (g 9), .ref (g 10), .int 0, .ref (g 11), .ref (g 12), .ref (g 13), .int 0, .int 0, .ref (g 14), .ref (g 15), .int 0, .int 0, .int 0, .ref (g 16), .long 0, .ref (g 17), .ref (g 18), .ref (g 19)]))] sz) := by
  refine Met.ofW (cc := cX12_clauseHere) (maxL := 3) (ret := (some .boolean)) (by decide) rfl ?_
  intro p e s m args below meth c s₁ B hml hv
  obtain ⟨rfl, hsz, hP, hD0, hE⟩ := hv
  have hx := B.exec
  have hb := B.bytes
  have hr := B.returns
  have hT : ∀ w ∈ TB, w.before _ s = true := fun w h => atoms_spec (ws := hz_w yX12_clauseHere cX12_clauseHere 3 (some .boolean)) B.pre w (List.mem_cons_of_mem _ h)
  have hown : s.vm.findClass RX12 = some m.cls := findClass_of_methodNamed B.named
  have hlocks := B.notSynchronized
  clear B
  subst hsz
  have hD := hD0.self (sz := s.heap.size)
  generalize hAe : va_A [(g 0, .inr (12, [.ref (g 1), .int 0, .int 0, .ref (g 2), .ref (g 3), .ref (g 4), .ref (g 5), .ref (g 6), .int 0, .int 0, .int 0, .int 0, .int 0, .int 0, .int 0, .ref (g 7), .int 0, .ref (g 8), .int 0, .ref (g 9), .ref (g 10), .int 0, .ref (g 11), .ref (g 12), .ref (g 13), .int 0, .int 0, .ref (g 14), .ref (g 15), .int 0, .int 0, .int 0, .ref (g 16), .long 0, .ref (g 17), .ref (g 18), .ref (g 19)]))] s.heap.size = A at hD hE ⊢
  have hA : ∀ q : Nat, s.heap.size ≤ q → A q := fun q h => by rw [← hAe]; exact Or.inr h
  clear hAe hD0
  have hS : va_S A s.heap s.heap [] := va_S.rf
  have hK := hE.1
  have hl := lv_entry ([.ref (g 0)]) (n := 3) (Nat.le_of_ble_eq_true rfl)
  rw [lg_entry_eq]
  generalize (lg_sl ([.ref (g 0)]) ++ List.replicate (3 - (lg_sl ([.ref (g 0)])).length) Slot.unset).toArray = ls at hl ⊢
  have hl : lv_has ls 3 [(0, .ref (g 0))] := hl
  obtain ⟨H, eH⟩ : ∃ z, z = s.heap := ⟨_, rfl⟩
  have hP : va_P D classes [(g 0, .inr (12, [.ref (g 1), .int 0, .int 0, .ref (g 2), .ref (g 3), .ref (g 4), .ref (g 5), .ref (g 6), .int 0, .int 0, .int 0, .int 0, .int 0, .int 0, .int 0, .ref (g 7), .int 0, .ref (g 8), .int 0, .ref (g 9), .ref (g 10), .int 0, .ref (g 11), .ref (g 12), .ref (g 13), .int 0, .int 0, .ref (g 14), .ref (g 15), .int 0, .int 0, .int 0, .ref (g 16), .long 0, .ref (g 17), .ref (g 18), .ref (g 19)]))] H := by rw [eH]; exact hP
  have hS : va_S A s.heap H [] := by rw [eH]; exact hS
  rw [← eH]
  clear eH
  refine lv_aload_n hx hb dX12_clauseHere_0 rfl (lv_at hl 0 rfl) ?_
  refine va_calli (va_runV (As := []) (rest := []) ⟨hx, hb, hml, hown, hT⟩ (c_X12_see l D cs kK kV g 0 0) (cwV 0 hT (hz_gV q_290 q_291 q_292 q_252 q_293) rfl rfl rfl (by decide +kernel) ⟨(Nat.le_of_ble_eq_true rfl), (Nat.le_of_ble_eq_true rfl)⟩) ⟨hz_P.blind, va_recv hK hP (ci := 12) (q0 := 0) rfl rfl, hz_P.mk (hP.sub (ws' := [(g 0, .inr (12, [.ref (g 1), .int 0, .int 0, .ref (g 2), .ref (g 3), .ref (g 4), .ref (g 5), .ref (g 6), .int 0, .int 0, .int 0, .int 0, .int 0, .int 0, .int 0, .ref (g 7), .int 0, .ref (g 8), .int 0, .ref (g 9), .ref (g 10), .int 0, .ref (g 11), .ref (g 12), .ref (g 13), .int 0, .int 0, .ref (g 14), .ref (g 15), .int 0, .int 0, .int 0, .ref (g 16), .long 0, .ref (g 17), .ref (g 18), .ref (g 19)]))]) [0] rfl) hE hS⟩ rfl rfl hl.1 rfl (lv_room (Nat.le_of_ble_eq_true rfl)) dX12_clauseHere_1 ⟨(Nat.le_of_ble_eq_true rfl), (Nat.le_of_ble_eq_true rfl)⟩) hS (fun _ _ h => h.elim) (fun _ h => h.elim) (fun r_1 u t H1 locs ht hvm hw hB hz1 hk1 hS => ?_)
  have hP := hz_keep hP hk1
  clear hk1 hB hz1
  generalize H1 = H at hP hS ⊢
  subst hw
  refine lv_pop hx hb dX12_clauseHere_4 rfl ?_
  refine lv_aload_n hx hb dX12_clauseHere_5 rfl (lv_at hl 0 rfl) ?_
  refine va_get (D := D) (ci := 12) (v := .int 0) (C := RX12) (T := TX12) (N := 37) hx hb hT i_X12 hown hK hP 0 rfl rfl 8 (by decide) (hT _ q_289) (fun _ h9 => h9) rfl dX12_clauseHere_6 ?_
  refine lv_istore_n (lv' := [(1, .int 0), (0, .ref (g 0))]) hx hb dX12_clauseHere_9 rfl hl (by decide) rfl (fun ls hl => ?_)
  refine lv_aload_n hx hb dX12_clauseHere_10 rfl (lv_at hl 1 rfl) ?_
  refine va_get (D := D) (ci := 12) (v := .int 0) (C := RX12) (T := TX12) (N := 37) hx hb hT i_X12 hown hK hP 0 rfl rfl 11 (by decide) (hT _ q_311) (fun _ h9 => h9) rfl dX12_clauseHere_11 ?_
  refine lv_bipush (v := 6) hx hb dX12_clauseHere_14 (by decide) ?_
  refine lv_icmp_ne (tgt := 23) hx hb dX12_clauseHere_16 (by decide) (fun _ => ?_) (fun z => absurd z (by decide))
  refine lv_iconst (v := 0) hx hb dX12_clauseHere_23 (by decide) ?_
  refine lv_istore_n (lv' := [(2, .int 0), (1, .int 0), (0, .ref (g 0))]) hx hb dX12_clauseHere_24 rfl hl (by decide) rfl (fun ls hl => ?_)
  refine lv_iload_n hx hb dX12_clauseHere_25 rfl (lv_at hl 0 rfl) ?_
  refine lv_if_eq (tgt := 39) hx hb dX12_clauseHere_26 (by decide) (fun _ => ?_) (fun z => absurd (by decide) z)
  refine lv_aload_n hx hb dX12_clauseHere_39 rfl (lv_at hl 2 rfl) ?_
  refine lv_ldc2 hx hb hown (hT _ q_312) dX12_clauseHere_40 ?_
  refine va_calli (va_runV (As := [.long 6452601]) (rest := []) ⟨hx, hb, hml, hown, hT⟩ (c_X12_isWord l D cs kK kV g 0 0 6452601) (cwV 1 hT (hz_gV q_299 q_300 q_301 q_252 q_302) rfl rfl rfl (by decide +kernel) ⟨(Nat.le_of_ble_eq_true rfl), (Nat.le_of_ble_eq_true rfl)⟩) ⟨hz_P.blind, va_recv hK hP (ci := 12) (q0 := 0) rfl rfl, hz_P.mk (hP.sub (ws' := [(g 0, .inr (12, [.ref (g 1), .int 0, .int 0, .ref (g 2), .ref (g 3), .ref (g 4), .ref (g 5), .ref (g 6), .int 0, .int 0, .int 0, .int 0, .int 0, .int 0, .int 0, .ref (g 7), .int 0, .ref (g 8), .int 0, .ref (g 9), .ref (g 10), .int 0, .ref (g 11), .ref (g 12), .ref (g 13), .int 0, .int 0, .ref (g 14), .ref (g 15), .int 0, .int 0, .int 0, .ref (g 16), .long 0, .ref (g 17), .ref (g 18), .ref (g 19)]))]) [0] rfl) hE hS⟩ rfl rfl hl.1 rfl (lv_room (Nat.le_of_ble_eq_true rfl)) dX12_clauseHere_43 ⟨(Nat.le_of_ble_eq_true rfl), (Nat.le_of_ble_eq_true rfl)⟩) hS (fun _ _ h => h.elim) (fun _ h => h.elim) (fun r_2 u t H1 locs ht hvm hw hB hz1 hk1 hS => ?_)
  have hP := hz_keep hP hk1
  clear hk1 hB hz1
  generalize H1 = H at hP hS ⊢
  subst hw
  refine lv_if_ne (tgt := 66) hx hb dX12_clauseHere_46 (by decide) (fun z => absurd (by decide) z) (fun _ => ?_)
  refine lv_aload_n hx hb dX12_clauseHere_49 rfl (lv_at hl 2 rfl) ?_
  refine lv_ldc2 hx hb hown (hT _ q_313) dX12_clauseHere_50 ?_
  refine va_calli (va_runV (As := [.long 26479]) (rest := []) ⟨hx, hb, hml, hown, hT⟩ (c_X12_isWord l D cs kK kV g 0 0 26479) (cwV 1 hT (hz_gV q_299 q_300 q_301 q_252 q_302) rfl rfl rfl (by decide +kernel) ⟨(Nat.le_of_ble_eq_true rfl), (Nat.le_of_ble_eq_true rfl)⟩) ⟨hz_P.blind, va_recv hK hP (ci := 12) (q0 := 0) rfl rfl, hz_P.mk (hP.sub (ws' := [(g 0, .inr (12, [.ref (g 1), .int 0, .int 0, .ref (g 2), .ref (g 3), .ref (g 4), .ref (g 5), .ref (g 6), .int 0, .int 0, .int 0, .int 0, .int 0, .int 0, .int 0, .ref (g 7), .int 0, .ref (g 8), .int 0, .ref (g 9), .ref (g 10), .int 0, .ref (g 11), .ref (g 12), .ref (g 13), .int 0, .int 0, .ref (g 14), .ref (g 15), .int 0, .int 0, .int 0, .ref (g 16), .long 0, .ref (g 17), .ref (g 18), .ref (g 19)]))]) [0] rfl) hE hS⟩ rfl rfl hl.1 rfl (lv_room (Nat.le_of_ble_eq_true rfl)) dX12_clauseHere_53 ⟨(Nat.le_of_ble_eq_true rfl), (Nat.le_of_ble_eq_true rfl)⟩) hS (fun _ _ h => h.elim) (fun _ h => h.elim) (fun r_3 u t H1 locs ht hvm hw hB hz1 hk1 hS => ?_)
  have hP := hz_keep hP hk1
  clear hk1 hB hz1
  generalize H1 = H at hP hS ⊢
  subst hw
  refine lv_if_ne (tgt := 66) hx hb dX12_clauseHere_56 (by decide) (fun z => absurd (by decide) z) (fun _ => ?_)
  refine lv_aload_n hx hb dX12_clauseHere_59 rfl (lv_at hl 2 rfl) ?_
  refine lv_iconst (v := 0) hx hb dX12_clauseHere_60 (by decide) ?_
  refine lv_iload_n hx hb dX12_clauseHere_61 rfl (lv_at hl 1 rfl) ?_
  have hFc := va_free (wc := [(g 0, .inr (12, [.ref (g 1), .int 0, .int 0, .ref (g 2), .ref (g 3), .ref (g 4), .ref (g 5), .ref (g 6), .int 0, .int 0, .int 0, .int 0, .int 0, .int 0, .int 0, .ref (g 7), .int 0, .ref (g 8), .int 0, .ref (g 9), .ref (g 10), .int 0, .ref (g 11), .ref (g 12), .ref (g 13), .int 0, .int 0, .ref (g 14), .ref (g 15), .int 0, .int 0, .int 0, .ref (g 16), .long 0, .ref (g 17), .ref (g 18), .ref (g 19)]))]) hD hS hA [0] rfl
  refine va_calli (va_runV (As := [.int 0, .int 0]) (rest := []) ⟨hx, hb, hml, hown, hT⟩ (c_X12_fails l D cs kK kV g 0 H.size) (cwV 2 hT (hz_gV q_314 q_315 q_316 q_252 q_317) rfl rfl rfl (by decide +kernel) ⟨(Nat.le_of_ble_eq_true rfl), (Nat.le_of_ble_eq_true rfl)⟩) ⟨hz_C.blind, va_recv hK hP (ci := 12) (q0 := 0) rfl rfl, hz_C.mk (hP.sub (ws' := [(g 0, .inr (12, [.ref (g 1), .int 0, .int 0, .ref (g 2), .ref (g 3), .ref (g 4), .ref (g 5), .ref (g 6), .int 0, .int 0, .int 0, .int 0, .int 0, .int 0, .int 0, .ref (g 7), .int 0, .ref (g 8), .int 0, .ref (g 9), .ref (g 10), .int 0, .ref (g 11), .ref (g 12), .ref (g 13), .int 0, .int 0, .ref (g 14), .ref (g 15), .int 0, .int 0, .int 0, .ref (g 16), .long 0, .ref (g 17), .ref (g 18), .ref (g 19)]))]) [0] rfl) (hD.sub (ws' := [(g 0, .inr (12, [.ref (g 1), .int 0, .int 0, .ref (g 2), .ref (g 3), .ref (g 4), .ref (g 5), .ref (g 6), .int 0, .int 0, .int 0, .int 0, .int 0, .int 0, .int 0, .ref (g 7), .int 0, .ref (g 8), .int 0, .ref (g 9), .ref (g 10), .int 0, .ref (g 11), .ref (g 12), .ref (g 13), .int 0, .int 0, .ref (g 14), .ref (g 15), .int 0, .int 0, .int 0, .ref (g 16), .long 0, .ref (g 17), .ref (g 18), .ref (g 19)]))]) [0] (by decide) rfl) hE hS hFc⟩ rfl rfl hl.1 rfl (lv_room (Nat.le_of_ble_eq_true rfl)) dX12_clauseHere_62 ⟨(Nat.le_of_ble_eq_true rfl), (Nat.le_of_ble_eq_true rfl)⟩) hS (fun q _ h => hFc q h) hFc (fun r_4 u t H1 locs ht hvm hw hB hz1 hk1 hS => ?_)
  obtain ⟨hP1, hD1⟩ := hB
  rw [ht] at hP1
  obtain ⟨hP, hD⟩ := va_join (wr := []) (w1 := [(g 0, .inr (12, [.ref (g 1), .int 0, .int 0, .ref (g 2), .ref (g 3), .ref (g 4), .ref (g 5), .ref (g 6), .int 0, .int 1, .int 0, .int 0, .int 0, .int 0, .int 0, .ref (g 7), .int 0, .ref (g 8), .int 0, .ref (g 9), .ref (g 10), .int 0, .ref (g 11), .ref (g 12), .ref (g 13), .int 0, .int 0, .ref (g 14), .ref (g 15), .int 0, .int 0, .int 0, .ref (g 16), .long 0, .ref (g 17), .ref (g 18), .ref (g 19)]))]) hP hD [0] [] rfl rfl (by decide) (by decide) hk1 hFc hP1 hD1
  generalize H1 = H at hP hS ⊢
  have hP : va_P D classes [(g 0, .inr (12, [.ref (g 1), .int 0, .int 0, .ref (g 2), .ref (g 3), .ref (g 4), .ref (g 5), .ref (g 6), .int 0, .int 1, .int 0, .int 0, .int 0, .int 0, .int 0, .ref (g 7), .int 0, .ref (g 8), .int 0, .ref (g 9), .ref (g 10), .int 0, .ref (g 11), .ref (g 12), .ref (g 13), .int 0, .int 0, .ref (g 14), .ref (g 15), .int 0, .int 0, .int 0, .ref (g 16), .long 0, .ref (g 17), .ref (g 18), .ref (g 19)]))] H := hP
  have hD : va_D A [(g 0, .inr (12, [.ref (g 1), .int 0, .int 0, .ref (g 2), .ref (g 3), .ref (g 4), .ref (g 5), .ref (g 6), .int 0, .int 1, .int 0, .int 0, .int 0, .int 0, .int 0, .ref (g 7), .int 0, .ref (g 8), .int 0, .ref (g 9), .ref (g 10), .int 0, .ref (g 11), .ref (g 12), .ref (g 13), .int 0, .int 0, .ref (g 14), .ref (g 15), .int 0, .int 0, .int 0, .ref (g 16), .long 0, .ref (g 17), .ref (g 18), .ref (g 19)]))] := hD
  clear hk1 hFc hP1 hD1 hz1
  subst hw
  exact W.zret (v := 0) hx hb hr rfl (fun t ht hW => ⟨⟨0, (), rfl, rfl, by rw [ht]; exact hP.sub [0] rfl, hD.sub [0] (by decide) rfl⟩, hS.F ht⟩) hS.2.2 dX12_clauseHere_65
set_option maxHeartbeats 4000000 in
set_option maxRecDepth 100000 in
theorem c_X12_clause6 (l : Launch) (D : va_G) (cs : Nat → ClassId) (kK kV : Nat → Nat) (g : Nat → Nat) (sz : Nat) : Met l yX12_clauseHere (hz_w yX12_clauseHere cX12_clauseHere 3 (some .boolean)) ({ frames := 3, cells := 0, slots := 0, locals := 66 }) (va_Pc [.ref (g 0)] (hz_C D cs kK kV sz [(g 0, .inr (12, [.ref (g 1), .int 0, .int 0, .ref (g 2), .ref (g 3), .ref (g 4), .ref (g 5), .ref (g 6), .int 0, .int 0, .int 0, .int 6, .int 0, .int 0, .int 0, .ref (g 7), .int 0, .ref (g 8), .int 0, .ref (g 9), .ref (g 10), .int 0, .ref (g 11), .ref (g 12), .ref (g 13), .int 0, .int 0, .ref (g 14), .ref (g 15), .int 0, .int 0, .int 0, .ref (g 16), .long 0, .ref (g 17), .ref (g 18), .ref (g 19)]))])) (va_Qi (fun (r : Int32) (_ : Unit) => r = 0) (fun _ t => va_P D classes [(g 0, .inr (12, [.ref (g 1), .int 0, .int 0, .ref (g 2), .ref (g 3), .ref (g 4), .ref (g 5), .ref (g 6), .int 0, .int 1, .int 0, .int 6, .int 0, .int 0, .int 0, .ref (g 7), .int 0, .ref (g 8), .int 0, .ref (g 9), .ref (g 10), .int 0, .ref (g 11), .ref (g 12), .ref (g 13), .int 0, .int 0, .ref (g 14), .ref (g 15), .int 0, .int 0, .int 0, .ref (g 16), .long 0, .ref (g 17), .ref (g 18), .ref (g 19)]))] t.heap ∧ va_D (va_A [(g 0, .inr (12, [.ref (g 1), .int 0, .int 0, .ref (g 2), .ref (g 3), .ref (g 4), .ref (g 5), .ref (g 6), .int 0, .int 0, .int 0, .int 6, .int 0, .int 0, .int 0, .ref (g 7), .int 0, .ref (g 8), .int 0, .ref (g 9), .ref (g 10), .int 0, .ref (g 11), .ref (g 12), .ref (g 13), .int 0, .int 0, .ref (g 14), .ref (g 15), .int 0, .int 0, .int 0, .ref (g 16), .long 0, .ref (g 17), .ref (g 18), .ref (g 19)]))] sz) [(g 0, .inr (12, [.ref (g 1), .int 0, .int 0, .ref (g 2), .ref (g 3), .ref (g 4), .ref (g 5), .ref (g 6), .int 0, .int 1, .int 0, .int 6, .int 0, .int 0, .int 0, .ref (g 7), .int 0, .ref (g 8), .int 0, .ref (g 9), .ref (g 10), .int 0, .ref (g 11), .ref (g 12), .ref (g 13), .int 0, .int 0, .ref (g 14), .ref (g 15), .int 0, .int 0, .int 0, .ref (g 16), .long 0, .ref (g 17), .ref (g 18), .ref (g 19)]))]) (va_A [(g 0, .inr (12, [.ref (g 1), .int 0, .int 0, .ref (g 2), .ref (g 3), .ref (g 4), .ref (g 5), .ref (g 6), .int 0, .int 0, .int 0, .int 6, .int 0, .int 0, .int 0, .ref (g 7), .int 0, .ref (g 8), .int 0, .ref (g 9), .ref (g 10), .int 0, .ref (g 11), .ref (g 12), .ref (g 13), .int 0, .int 0, .ref (g 14), .ref (g 15), .int 0, .int 0, .int 0, .ref (g 16), .long 0, .ref (g 17), .ref (g 18), .ref (g 19)]))] sz)) 0 0 (va_A [(g 0, .inr (12, [.ref (g 1), .int 0, .int 0, .ref (g 2), .ref (g 3), .ref (g 4), .ref (g 5), .ref (g 6), .int 0, .int 0, .int 0, .int 6, .int 0, .int 0, .int 0, .ref (g 7), .int 0, .ref (g 8), .int 0, .ref (g 9), .ref (g 10), .int 0, .ref (g 11), .ref (g 12), .ref (g 13), .int 0, .int 0, .ref (g 14), .ref (g 15), .int 0, .int 0, .int 0, .ref (g 16), .long 0, .ref (g 17), .ref (g 18), .ref (g 19)]))] sz) := by
  refine Met.ofW (cc := cX12_clauseHere) (maxL := 3) (ret := (some .boolean)) (by decide) rfl ?_
  intro p e s m args below meth c s₁ B hml hv
  obtain ⟨rfl, hsz, hP, hD0, hE⟩ := hv
  have hx := B.exec
  have hb := B.bytes
  have hr := B.returns
  have hT : ∀ w ∈ TB, w.before _ s = true := fun w h => atoms_spec (ws := hz_w yX12_clauseHere cX12_clauseHere 3 (some .boolean)) B.pre w (List.mem_cons_of_mem _ h)
  have hown : s.vm.findClass RX12 = some m.cls := findClass_of_methodNamed B.named
  have hlocks := B.notSynchronized
  clear B
  subst hsz
  have hD := hD0.self (sz := s.heap.size)
  generalize hAe : va_A [(g 0, .inr (12, [.ref (g 1), .int 0, .int 0, .ref (g 2), .ref (g 3), .ref (g 4), .ref (g 5), .ref (g 6), .int 0, .int 0, .int 0, .int 6, .int 0, .int 0, .int 0, .ref (g 7), .int 0, .ref (g 8), .int 0, .ref (g 9), .ref (g 10), .int 0, .ref (g 11), .ref (g 12), .ref (g 13), .int 0, .int 0, .ref (g 14), .ref (g 15), .int 0, .int 0, .int 0, .ref (g 16), .long 0, .ref (g 17), .ref (g 18), .ref (g 19)]))] s.heap.size = A at hD hE ⊢
  have hA : ∀ q : Nat, s.heap.size ≤ q → A q := fun q h => by rw [← hAe]; exact Or.inr h
  clear hAe hD0
  have hS : va_S A s.heap s.heap [] := va_S.rf
  have hK := hE.1
  have hl := lv_entry ([.ref (g 0)]) (n := 3) (Nat.le_of_ble_eq_true rfl)
  rw [lg_entry_eq]
  generalize (lg_sl ([.ref (g 0)]) ++ List.replicate (3 - (lg_sl ([.ref (g 0)])).length) Slot.unset).toArray = ls at hl ⊢
  have hl : lv_has ls 3 [(0, .ref (g 0))] := hl
  obtain ⟨H, eH⟩ : ∃ z, z = s.heap := ⟨_, rfl⟩
  have hP : va_P D classes [(g 0, .inr (12, [.ref (g 1), .int 0, .int 0, .ref (g 2), .ref (g 3), .ref (g 4), .ref (g 5), .ref (g 6), .int 0, .int 0, .int 0, .int 6, .int 0, .int 0, .int 0, .ref (g 7), .int 0, .ref (g 8), .int 0, .ref (g 9), .ref (g 10), .int 0, .ref (g 11), .ref (g 12), .ref (g 13), .int 0, .int 0, .ref (g 14), .ref (g 15), .int 0, .int 0, .int 0, .ref (g 16), .long 0, .ref (g 17), .ref (g 18), .ref (g 19)]))] H := by rw [eH]; exact hP
  have hS : va_S A s.heap H [] := by rw [eH]; exact hS
  rw [← eH]
  clear eH
  refine lv_aload_n hx hb dX12_clauseHere_0 rfl (lv_at hl 0 rfl) ?_
  refine va_calli (va_runV (As := []) (rest := []) ⟨hx, hb, hml, hown, hT⟩ (c_X12_see l D cs kK kV g 0 6) (cwV 0 hT (hz_gV q_290 q_291 q_292 q_252 q_293) rfl rfl rfl (by decide +kernel) ⟨(Nat.le_of_ble_eq_true rfl), (Nat.le_of_ble_eq_true rfl)⟩) ⟨hz_P.blind, va_recv hK hP (ci := 12) (q0 := 0) rfl rfl, hz_P.mk (hP.sub (ws' := [(g 0, .inr (12, [.ref (g 1), .int 0, .int 0, .ref (g 2), .ref (g 3), .ref (g 4), .ref (g 5), .ref (g 6), .int 0, .int 0, .int 0, .int 6, .int 0, .int 0, .int 0, .ref (g 7), .int 0, .ref (g 8), .int 0, .ref (g 9), .ref (g 10), .int 0, .ref (g 11), .ref (g 12), .ref (g 13), .int 0, .int 0, .ref (g 14), .ref (g 15), .int 0, .int 0, .int 0, .ref (g 16), .long 0, .ref (g 17), .ref (g 18), .ref (g 19)]))]) [0] rfl) hE hS⟩ rfl rfl hl.1 rfl (lv_room (Nat.le_of_ble_eq_true rfl)) dX12_clauseHere_1 ⟨(Nat.le_of_ble_eq_true rfl), (Nat.le_of_ble_eq_true rfl)⟩) hS (fun _ _ h => h.elim) (fun _ h => h.elim) (fun r_1 u t H1 locs ht hvm hw hB hz1 hk1 hS => ?_)
  have hP := hz_keep hP hk1
  clear hk1 hB hz1
  generalize H1 = H at hP hS ⊢
  subst hw
  refine lv_pop hx hb dX12_clauseHere_4 rfl ?_
  refine lv_aload_n hx hb dX12_clauseHere_5 rfl (lv_at hl 0 rfl) ?_
  refine va_get (D := D) (ci := 12) (v := .int 0) (C := RX12) (T := TX12) (N := 37) hx hb hT i_X12 hown hK hP 0 rfl rfl 8 (by decide) (hT _ q_289) (fun _ h9 => h9) rfl dX12_clauseHere_6 ?_
  refine lv_istore_n (lv' := [(1, .int 0), (0, .ref (g 0))]) hx hb dX12_clauseHere_9 rfl hl (by decide) rfl (fun ls hl => ?_)
  refine lv_aload_n hx hb dX12_clauseHere_10 rfl (lv_at hl 1 rfl) ?_
  refine va_get (D := D) (ci := 12) (v := .int 6) (C := RX12) (T := TX12) (N := 37) hx hb hT i_X12 hown hK hP 0 rfl rfl 11 (by decide) (hT _ q_311) (fun _ h9 => h9) rfl dX12_clauseHere_11 ?_
  refine lv_bipush (v := 6) hx hb dX12_clauseHere_14 (by decide) ?_
  refine lv_icmp_ne (tgt := 23) hx hb dX12_clauseHere_16 (by decide) (fun z => absurd (by decide) z) (fun _ => ?_)
  refine lv_iconst (v := 1) hx hb dX12_clauseHere_19 (by decide) ?_
  refine lv_goto (tgt := 24) hx hb dX12_clauseHere_20 (by decide) ?_
  refine lv_istore_n (lv' := [(2, .int 1), (1, .int 0), (0, .ref (g 0))]) hx hb dX12_clauseHere_24 rfl hl (by decide) rfl (fun ls hl => ?_)
  refine lv_iload_n hx hb dX12_clauseHere_25 rfl (lv_at hl 0 rfl) ?_
  refine lv_if_eq (tgt := 39) hx hb dX12_clauseHere_26 (by decide) (fun z => absurd z (by decide)) (fun _ => ?_)
  refine lv_aload_n hx hb dX12_clauseHere_29 rfl (lv_at hl 2 rfl) ?_
  refine va_calli (va_runV (As := []) (rest := []) ⟨hx, hb, hml, hown, hT⟩ (c_X12_isFairWord l D cs kK kV g 0 6) (cwV 0 hT (hz_gV q_318 q_319 q_320 q_252 q_321) rfl rfl rfl (by decide +kernel) ⟨(Nat.le_of_ble_eq_true rfl), (Nat.le_of_ble_eq_true rfl)⟩) ⟨hz_P.blind, va_recv hK hP (ci := 12) (q0 := 0) rfl rfl, hz_P.mk (hP.sub (ws' := [(g 0, .inr (12, [.ref (g 1), .int 0, .int 0, .ref (g 2), .ref (g 3), .ref (g 4), .ref (g 5), .ref (g 6), .int 0, .int 0, .int 0, .int 6, .int 0, .int 0, .int 0, .ref (g 7), .int 0, .ref (g 8), .int 0, .ref (g 9), .ref (g 10), .int 0, .ref (g 11), .ref (g 12), .ref (g 13), .int 0, .int 0, .ref (g 14), .ref (g 15), .int 0, .int 0, .int 0, .ref (g 16), .long 0, .ref (g 17), .ref (g 18), .ref (g 19)]))]) [0] rfl) hE hS⟩ rfl rfl hl.1 rfl (lv_room (Nat.le_of_ble_eq_true rfl)) dX12_clauseHere_30 ⟨(Nat.le_of_ble_eq_true rfl), (Nat.le_of_ble_eq_true rfl)⟩) hS (fun _ _ h => h.elim) (fun _ h => h.elim) (fun r_2 u t H1 locs ht hvm hw hB hz1 hk1 hS => ?_)
  have hP := hz_keep hP hk1
  clear hk1 hB hz1
  generalize H1 = H at hP hS ⊢
  subst hw
  refine lv_if_ne (tgt := 66) hx hb dX12_clauseHere_33 (by decide) (fun z => absurd (by decide) z) (fun _ => ?_)
  refine lv_goto (tgt := 59) hx hb dX12_clauseHere_36 (by decide) ?_
  refine lv_aload_n hx hb dX12_clauseHere_59 rfl (lv_at hl 2 rfl) ?_
  refine lv_iconst (v := 0) hx hb dX12_clauseHere_60 (by decide) ?_
  refine lv_iload_n hx hb dX12_clauseHere_61 rfl (lv_at hl 1 rfl) ?_
  have hFc := va_free (wc := [(g 0, .inr (12, [.ref (g 1), .int 0, .int 0, .ref (g 2), .ref (g 3), .ref (g 4), .ref (g 5), .ref (g 6), .int 0, .int 0, .int 0, .int 6, .int 0, .int 0, .int 0, .ref (g 7), .int 0, .ref (g 8), .int 0, .ref (g 9), .ref (g 10), .int 0, .ref (g 11), .ref (g 12), .ref (g 13), .int 0, .int 0, .ref (g 14), .ref (g 15), .int 0, .int 0, .int 0, .ref (g 16), .long 0, .ref (g 17), .ref (g 18), .ref (g 19)]))]) hD hS hA [0] rfl
  refine va_calli (va_runV (As := [.int 0, .int 0]) (rest := []) ⟨hx, hb, hml, hown, hT⟩ (c_X12_fails l D cs kK kV g 6 H.size) (cwV 2 hT (hz_gV q_314 q_315 q_316 q_252 q_317) rfl rfl rfl (by decide +kernel) ⟨(Nat.le_of_ble_eq_true rfl), (Nat.le_of_ble_eq_true rfl)⟩) ⟨hz_C.blind, va_recv hK hP (ci := 12) (q0 := 0) rfl rfl, hz_C.mk (hP.sub (ws' := [(g 0, .inr (12, [.ref (g 1), .int 0, .int 0, .ref (g 2), .ref (g 3), .ref (g 4), .ref (g 5), .ref (g 6), .int 0, .int 0, .int 0, .int 6, .int 0, .int 0, .int 0, .ref (g 7), .int 0, .ref (g 8), .int 0, .ref (g 9), .ref (g 10), .int 0, .ref (g 11), .ref (g 12), .ref (g 13), .int 0, .int 0, .ref (g 14), .ref (g 15), .int 0, .int 0, .int 0, .ref (g 16), .long 0, .ref (g 17), .ref (g 18), .ref (g 19)]))]) [0] rfl) (hD.sub (ws' := [(g 0, .inr (12, [.ref (g 1), .int 0, .int 0, .ref (g 2), .ref (g 3), .ref (g 4), .ref (g 5), .ref (g 6), .int 0, .int 0, .int 0, .int 6, .int 0, .int 0, .int 0, .ref (g 7), .int 0, .ref (g 8), .int 0, .ref (g 9), .ref (g 10), .int 0, .ref (g 11), .ref (g 12), .ref (g 13), .int 0, .int 0, .ref (g 14), .ref (g 15), .int 0, .int 0, .int 0, .ref (g 16), .long 0, .ref (g 17), .ref (g 18), .ref (g 19)]))]) [0] (by decide) rfl) hE hS hFc⟩ rfl rfl hl.1 rfl (lv_room (Nat.le_of_ble_eq_true rfl)) dX12_clauseHere_62 ⟨(Nat.le_of_ble_eq_true rfl), (Nat.le_of_ble_eq_true rfl)⟩) hS (fun q _ h => hFc q h) hFc (fun r_3 u t H1 locs ht hvm hw hB hz1 hk1 hS => ?_)
  obtain ⟨hP1, hD1⟩ := hB
  rw [ht] at hP1
  obtain ⟨hP, hD⟩ := va_join (wr := []) (w1 := [(g 0, .inr (12, [.ref (g 1), .int 0, .int 0, .ref (g 2), .ref (g 3), .ref (g 4), .ref (g 5), .ref (g 6), .int 0, .int 1, .int 0, .int 6, .int 0, .int 0, .int 0, .ref (g 7), .int 0, .ref (g 8), .int 0, .ref (g 9), .ref (g 10), .int 0, .ref (g 11), .ref (g 12), .ref (g 13), .int 0, .int 0, .ref (g 14), .ref (g 15), .int 0, .int 0, .int 0, .ref (g 16), .long 0, .ref (g 17), .ref (g 18), .ref (g 19)]))]) hP hD [0] [] rfl rfl (by decide) (by decide) hk1 hFc hP1 hD1
  generalize H1 = H at hP hS ⊢
  have hP : va_P D classes [(g 0, .inr (12, [.ref (g 1), .int 0, .int 0, .ref (g 2), .ref (g 3), .ref (g 4), .ref (g 5), .ref (g 6), .int 0, .int 1, .int 0, .int 6, .int 0, .int 0, .int 0, .ref (g 7), .int 0, .ref (g 8), .int 0, .ref (g 9), .ref (g 10), .int 0, .ref (g 11), .ref (g 12), .ref (g 13), .int 0, .int 0, .ref (g 14), .ref (g 15), .int 0, .int 0, .int 0, .ref (g 16), .long 0, .ref (g 17), .ref (g 18), .ref (g 19)]))] H := hP
  have hD : va_D A [(g 0, .inr (12, [.ref (g 1), .int 0, .int 0, .ref (g 2), .ref (g 3), .ref (g 4), .ref (g 5), .ref (g 6), .int 0, .int 1, .int 0, .int 6, .int 0, .int 0, .int 0, .ref (g 7), .int 0, .ref (g 8), .int 0, .ref (g 9), .ref (g 10), .int 0, .ref (g 11), .ref (g 12), .ref (g 13), .int 0, .int 0, .ref (g 14), .ref (g 15), .int 0, .int 0, .int 0, .ref (g 16), .long 0, .ref (g 17), .ref (g 18), .ref (g 19)]))] := hD
  clear hk1 hFc hP1 hD1 hz1
  subst hw
  exact W.zret (v := 0) hx hb hr rfl (fun t ht hW => ⟨⟨0, (), rfl, rfl, by rw [ht]; exact hP.sub [0] rfl, hD.sub [0] (by decide) rfl⟩, hS.F ht⟩) hS.2.2 dX12_clauseHere_65
theorem dX12_readsAll_0 : decode cX12_readsAll 0 = .ok (.aload_n 0, 1) := by decide +kernel
theorem dX12_readsAll_1 : decode cX12_readsAll 1 = .ok (.getfield 17, 3) := by decide +kernel
theorem dX12_readsAll_4 : decode cX12_readsAll 4 = .ok (.aload_n 0, 1) := by decide +kernel
theorem dX12_readsAll_5 : decode cX12_readsAll 5 = .ok (.getfield 139, 3) := by decide +kernel
theorem dX12_readsAll_8 : decode cX12_readsAll 8 = .ok (.iconst 0, 1) := by decide +kernel
theorem dX12_readsAll_9 : decode cX12_readsAll 9 = .ok (.iastore, 1) := by decide +kernel
theorem dX12_readsAll_10 : decode cX12_readsAll 10 = .ok (.aload_n 0, 1) := by decide +kernel
theorem dX12_readsAll_11 : decode cX12_readsAll 11 = .ok (.iconst 0, 1) := by decide +kernel
theorem dX12_readsAll_12 : decode cX12_readsAll 12 = .ok (.putfield 256, 3) := by decide +kernel
theorem dX12_readsAll_15 : decode cX12_readsAll 15 = .ok (.aload_n 0, 1) := by decide +kernel
theorem dX12_readsAll_16 : decode cX12_readsAll 16 = .ok (.iconst 0, 1) := by decide +kernel
theorem dX12_readsAll_17 : decode cX12_readsAll 17 = .ok (.putfield 81, 3) := by decide +kernel
theorem dX12_readsAll_20 : decode cX12_readsAll 20 = .ok (.aload_n 0, 1) := by decide +kernel
theorem dX12_readsAll_21 : decode cX12_readsAll 21 = .ok (.iconst 0, 1) := by decide +kernel
theorem dX12_readsAll_22 : decode cX12_readsAll 22 = .ok (.putfield 78, 3) := by decide +kernel
theorem dX12_readsAll_25 : decode cX12_readsAll 25 = .ok (.aload_n 0, 1) := by decide +kernel
theorem dX12_readsAll_26 : decode cX12_readsAll 26 = .ok (.iconst 0, 1) := by decide +kernel
theorem dX12_readsAll_27 : decode cX12_readsAll 27 = .ok (.putfield 142, 3) := by decide +kernel
theorem dX12_readsAll_30 : decode cX12_readsAll 30 = .ok (.aload_n 0, 1) := by decide +kernel
theorem dX12_readsAll_31 : decode cX12_readsAll 31 = .ok (.invokevirtual 265, 3) := by decide +kernel
theorem dX12_readsAll_34 : decode cX12_readsAll 34 = .ok (.istore_n 1, 1) := by decide +kernel
theorem dX12_readsAll_35 : decode cX12_readsAll 35 = .ok (.iload_n 1, 1) := by decide +kernel
theorem dX12_readsAll_36 : decode cX12_readsAll 36 = .ok (.ifCond .eq 30, 3) := by decide +kernel
theorem dX12_readsAll_66 : decode cX12_readsAll 66 = .ok (.iload_n 1, 1) := by decide +kernel
theorem dX12_readsAll_67 : decode cX12_readsAll 67 = .ok (.ifCond .eq 21, 3) := by decide +kernel
theorem dX12_readsAll_88 : decode cX12_readsAll 88 = .ok (.aload_n 0, 1) := by decide +kernel
theorem dX12_readsAll_89 : decode cX12_readsAll 89 = .ok (.iconst 0, 1) := by decide +kernel
theorem dX12_readsAll_90 : decode cX12_readsAll 90 = .ok (.putfield 70, 3) := by decide +kernel
theorem dX12_readsAll_93 : decode cX12_readsAll 93 = .ok (.aload_n 0, 1) := by decide +kernel
theorem dX12_readsAll_94 : decode cX12_readsAll 94 = .ok (.getfield 78, 3) := by decide +kernel
theorem dX12_readsAll_97 : decode cX12_readsAll 97 = .ok (.ifCond .ne 7, 3) := by decide +kernel
theorem dX12_readsAll_104 : decode cX12_readsAll 104 = .ok (.iconst 0, 1) := by decide +kernel
theorem dX12_readsAll_105 : decode cX12_readsAll 105 = .ok (.ireturn, 1) := by decide +kernel
set_option maxHeartbeats 4000000 in
set_option maxRecDepth 100000 in
theorem c_X12_reads0 (l : Launch) (D : va_G) (cs : Nat → ClassId) (kK kV : Nat → Nat) (g : Nat → Nat) (sz : Nat) : Met l yX12_readsAll (hz_w yX12_readsAll cX12_readsAll 2 (some .boolean)) ({ frames := 3, cells := 0, slots := 0, locals := 68 }) (va_Pc [.ref (g 0)] (hz_C D cs kK kV sz [(g 0, .inr (12, [.ref (g 1), .int 0, .int 0, .ref (g 2), .ref (g 3), .ref (g 4), .ref (g 5), .ref (g 6), .int 0, .int 0, .int 0, .int 0, .int 0, .int 0, .int 0, .ref (g 7), .int 0, .ref (g 8), .int 0, .ref (g 9), .ref (g 10), .int 0, .ref (g 11), .ref (g 12), .ref (g 13), .int 0, .int 0, .ref (g 14), .ref (g 15), .int 0, .int 0, .int 0, .ref (g 16), .long 0, .ref (g 17), .ref (g 18), .ref (g 19)])), (g 3, .inl (cs 0, 7, .inl (fun _ => 0)))])) (va_Qi (fun (r : Int32) (_ : Unit) => r = 0) (fun _ t => va_P D classes [(g 0, .inr (12, [.ref (g 1), .int 0, .int 0, .ref (g 2), .ref (g 3), .ref (g 4), .ref (g 5), .ref (g 6), .int 0, .int 1, .int 0, .int 0, .int 0, .int 0, .int 0, .ref (g 7), .int 0, .ref (g 8), .int 0, .ref (g 9), .ref (g 10), .int 0, .ref (g 11), .ref (g 12), .ref (g 13), .int 0, .int 0, .ref (g 14), .ref (g 15), .int 0, .int 0, .int 0, .ref (g 16), .long 0, .ref (g 17), .ref (g 18), .ref (g 19)]))] t.heap ∧ va_D (va_A [(g 0, .inr (12, [.ref (g 1), .int 0, .int 0, .ref (g 2), .ref (g 3), .ref (g 4), .ref (g 5), .ref (g 6), .int 0, .int 0, .int 0, .int 0, .int 0, .int 0, .int 0, .ref (g 7), .int 0, .ref (g 8), .int 0, .ref (g 9), .ref (g 10), .int 0, .ref (g 11), .ref (g 12), .ref (g 13), .int 0, .int 0, .ref (g 14), .ref (g 15), .int 0, .int 0, .int 0, .ref (g 16), .long 0, .ref (g 17), .ref (g 18), .ref (g 19)])), (g 3, .inl (cs 0, 7, .inl (fun _ => 0)))] sz) [(g 0, .inr (12, [.ref (g 1), .int 0, .int 0, .ref (g 2), .ref (g 3), .ref (g 4), .ref (g 5), .ref (g 6), .int 0, .int 1, .int 0, .int 0, .int 0, .int 0, .int 0, .ref (g 7), .int 0, .ref (g 8), .int 0, .ref (g 9), .ref (g 10), .int 0, .ref (g 11), .ref (g 12), .ref (g 13), .int 0, .int 0, .ref (g 14), .ref (g 15), .int 0, .int 0, .int 0, .ref (g 16), .long 0, .ref (g 17), .ref (g 18), .ref (g 19)]))]) (va_A [(g 0, .inr (12, [.ref (g 1), .int 0, .int 0, .ref (g 2), .ref (g 3), .ref (g 4), .ref (g 5), .ref (g 6), .int 0, .int 0, .int 0, .int 0, .int 0, .int 0, .int 0, .ref (g 7), .int 0, .ref (g 8), .int 0, .ref (g 9), .ref (g 10), .int 0, .ref (g 11), .ref (g 12), .ref (g 13), .int 0, .int 0, .ref (g 14), .ref (g 15), .int 0, .int 0, .int 0, .ref (g 16), .long 0, .ref (g 17), .ref (g 18), .ref (g 19)])), (g 3, .inl (cs 0, 7, .inl (fun _ => 0)))] sz)) 0 0 (va_A [(g 0, .inr (12, [.ref (g 1), .int 0, .int 0, .ref (g 2), .ref (g 3), .ref (g 4), .ref (g 5), .ref (g 6), .int 0, .int 0, .int 0, .int 0, .int 0, .int 0, .int 0, .ref (g 7), .int 0, .ref (g 8), .int 0, .ref (g 9), .ref (g 10), .int 0, .ref (g 11), .ref (g 12), .ref (g 13), .int 0, .int 0, .ref (g 14), .ref (g 15), .int 0, .int 0, .int 0, .ref (g 16), .long 0, .ref (g 17), .ref (g 18), .ref (g 19)])), (g 3, .inl (cs 0, 7, .inl (fun _ => 0)))] sz) := by
  refine Met.ofW (cc := cX12_readsAll) (maxL := 2) (ret := (some .boolean)) (by decide) rfl ?_
  intro p e s m args below meth c s₁ B hml hv
  obtain ⟨rfl, hsz, hP, hD0, hE⟩ := hv
  have hx := B.exec
  have hb := B.bytes
  have hr := B.returns
  have hT : ∀ w ∈ TB, w.before _ s = true := fun w h => atoms_spec (ws := hz_w yX12_readsAll cX12_readsAll 2 (some .boolean)) B.pre w (List.mem_cons_of_mem _ h)
  have hown : s.vm.findClass RX12 = some m.cls := findClass_of_methodNamed B.named
  have hlocks := B.notSynchronized
  clear B
  subst hsz
  have hD := hD0.self (sz := s.heap.size)
  generalize hAe : va_A [(g 0, .inr (12, [.ref (g 1), .int 0, .int 0, .ref (g 2), .ref (g 3), .ref (g 4), .ref (g 5), .ref (g 6), .int 0, .int 0, .int 0, .int 0, .int 0, .int 0, .int 0, .ref (g 7), .int 0, .ref (g 8), .int 0, .ref (g 9), .ref (g 10), .int 0, .ref (g 11), .ref (g 12), .ref (g 13), .int 0, .int 0, .ref (g 14), .ref (g 15), .int 0, .int 0, .int 0, .ref (g 16), .long 0, .ref (g 17), .ref (g 18), .ref (g 19)])), (g 3, .inl (cs 0, 7, .inl (fun _ => 0)))] s.heap.size = A at hD hE ⊢
  have hA : ∀ q : Nat, s.heap.size ≤ q → A q := fun q h => by rw [← hAe]; exact Or.inr h
  clear hAe hD0
  have hS : va_S A s.heap s.heap [] := va_S.rf
  have hK := hE.1
  have hl := lv_entry ([.ref (g 0)]) (n := 2) (Nat.le_of_ble_eq_true rfl)
  rw [lg_entry_eq]
  generalize (lg_sl ([.ref (g 0)]) ++ List.replicate (2 - (lg_sl ([.ref (g 0)])).length) Slot.unset).toArray = ls at hl ⊢
  have hl : lv_has ls 2 [(0, .ref (g 0))] := hl
  obtain ⟨H, eH⟩ : ∃ z, z = s.heap := ⟨_, rfl⟩
  have hP : va_P D classes [(g 0, .inr (12, [.ref (g 1), .int 0, .int 0, .ref (g 2), .ref (g 3), .ref (g 4), .ref (g 5), .ref (g 6), .int 0, .int 0, .int 0, .int 0, .int 0, .int 0, .int 0, .ref (g 7), .int 0, .ref (g 8), .int 0, .ref (g 9), .ref (g 10), .int 0, .ref (g 11), .ref (g 12), .ref (g 13), .int 0, .int 0, .ref (g 14), .ref (g 15), .int 0, .int 0, .int 0, .ref (g 16), .long 0, .ref (g 17), .ref (g 18), .ref (g 19)])), (g 3, .inl (cs 0, 7, .inl (fun _ => 0)))] H := by rw [eH]; exact hP
  have hS : va_S A s.heap H [] := by rw [eH]; exact hS
  rw [← eH]
  clear eH
  refine lv_aload_n hx hb dX12_readsAll_0 rfl (lv_at hl 0 rfl) ?_
  refine va_get (D := D) (ci := 12) (v := .ref (g 3)) (C := RX12) (T := TX12) (N := 37) hx hb hT i_X12 hown hK hP 0 rfl rfl 4 (by decide) (hT _ q_322) (fun _ h9 => h9) rfl dX12_readsAll_1 ?_
  refine lv_aload_n hx hb dX12_readsAll_4 rfl (lv_at hl 0 rfl) ?_
  refine va_get (D := D) (ci := 12) (v := .int 0) (C := RX12) (T := TX12) (N := 37) hx hb hT i_X12 hown hK hP 0 rfl rfl 11 (by decide) (hT _ q_311) (fun _ h9 => h9) rfl dX12_readsAll_5 ?_
  refine lv_iconst (v := 0) hx hb dX12_readsAll_8 (by decide) ?_
  refine va_iast hx hb hK hP hD hS 1 0 rfl rfl (by unfold vp_in; decide) dX12_readsAll_9 (fun H locs hP hD hS => ?_)
  have hP : va_P D classes [(g 0, .inr (12, [.ref (g 1), .int 0, .int 0, .ref (g 2), .ref (g 3), .ref (g 4), .ref (g 5), .ref (g 6), .int 0, .int 0, .int 0, .int 0, .int 0, .int 0, .int 0, .ref (g 7), .int 0, .ref (g 8), .int 0, .ref (g 9), .ref (g 10), .int 0, .ref (g 11), .ref (g 12), .ref (g 13), .int 0, .int 0, .ref (g 14), .ref (g 15), .int 0, .int 0, .int 0, .ref (g 16), .long 0, .ref (g 17), .ref (g 18), .ref (g 19)])), (g 3, .inl (cs 0, 7, .inl (upd (fun _ => 0) (Int32.toNatClampNeg (0 : Int32)) (0 : Int32))))] H := hP
  have hD : va_D A [(g 0, .inr (12, [.ref (g 1), .int 0, .int 0, .ref (g 2), .ref (g 3), .ref (g 4), .ref (g 5), .ref (g 6), .int 0, .int 0, .int 0, .int 0, .int 0, .int 0, .int 0, .ref (g 7), .int 0, .ref (g 8), .int 0, .ref (g 9), .ref (g 10), .int 0, .ref (g 11), .ref (g 12), .ref (g 13), .int 0, .int 0, .ref (g 14), .ref (g 15), .int 0, .int 0, .int 0, .ref (g 16), .long 0, .ref (g 17), .ref (g 18), .ref (g 19)])), (g 3, .inl (cs 0, 7, .inl (upd (fun _ => 0) (Int32.toNatClampNeg (0 : Int32)) (0 : Int32))))] := hD
  generalize upd (fun _ => 0) (Int32.toNatClampNeg (0 : Int32)) (0 : Int32) = f_1 at hP hD
  refine lv_aload_n hx hb dX12_readsAll_10 rfl (lv_at hl 0 rfl) ?_
  refine lv_iconst (v := 0) hx hb dX12_readsAll_11 (by decide) ?_
  refine va_put (D := D) (ci := 12) (v := .int 0) (ty := .int) (C := RX12) (T := TX12) (N := 37) hx hb hT i_X12 tyX12 tyX12_ok nmX12 hown hK hP hD hS 0 rfl rfl 14 (by decide) (hT _ q_323) (fun _ h9 => h9) rfl (by decide +kernel) rfl rfl (Nat.le_of_ble_eq_true rfl) dX12_readsAll_12 (fun H locs hP hD hS => ?_)
  have hP : va_P D classes [(g 0, .inr (12, [.ref (g 1), .int 0, .int 0, .ref (g 2), .ref (g 3), .ref (g 4), .ref (g 5), .ref (g 6), .int 0, .int 0, .int 0, .int 0, .int 0, .int 0, .int 0, .ref (g 7), .int 0, .ref (g 8), .int 0, .ref (g 9), .ref (g 10), .int 0, .ref (g 11), .ref (g 12), .ref (g 13), .int 0, .int 0, .ref (g 14), .ref (g 15), .int 0, .int 0, .int 0, .ref (g 16), .long 0, .ref (g 17), .ref (g 18), .ref (g 19)])), (g 3, .inl (cs 0, 7, .inl f_1))] H := hP
  have hD : va_D A [(g 0, .inr (12, [.ref (g 1), .int 0, .int 0, .ref (g 2), .ref (g 3), .ref (g 4), .ref (g 5), .ref (g 6), .int 0, .int 0, .int 0, .int 0, .int 0, .int 0, .int 0, .ref (g 7), .int 0, .ref (g 8), .int 0, .ref (g 9), .ref (g 10), .int 0, .ref (g 11), .ref (g 12), .ref (g 13), .int 0, .int 0, .ref (g 14), .ref (g 15), .int 0, .int 0, .int 0, .ref (g 16), .long 0, .ref (g 17), .ref (g 18), .ref (g 19)])), (g 3, .inl (cs 0, 7, .inl f_1))] := hD
  refine lv_aload_n hx hb dX12_readsAll_15 rfl (lv_at hl 0 rfl) ?_
  refine lv_iconst (v := 0) hx hb dX12_readsAll_16 (by decide) ?_
  refine va_put (D := D) (ci := 12) (v := .int 0) (ty := .int) (C := RX12) (T := TX12) (N := 37) hx hb hT i_X12 tyX12 tyX12_ok nmX12 hown hK hP hD hS 0 rfl rfl 8 (by decide) (hT _ q_289) (fun _ h9 => h9) rfl (by decide +kernel) rfl rfl (Nat.le_of_ble_eq_true rfl) dX12_readsAll_17 (fun H locs hP hD hS => ?_)
  have hP : va_P D classes [(g 0, .inr (12, [.ref (g 1), .int 0, .int 0, .ref (g 2), .ref (g 3), .ref (g 4), .ref (g 5), .ref (g 6), .int 0, .int 0, .int 0, .int 0, .int 0, .int 0, .int 0, .ref (g 7), .int 0, .ref (g 8), .int 0, .ref (g 9), .ref (g 10), .int 0, .ref (g 11), .ref (g 12), .ref (g 13), .int 0, .int 0, .ref (g 14), .ref (g 15), .int 0, .int 0, .int 0, .ref (g 16), .long 0, .ref (g 17), .ref (g 18), .ref (g 19)])), (g 3, .inl (cs 0, 7, .inl f_1))] H := hP
  have hD : va_D A [(g 0, .inr (12, [.ref (g 1), .int 0, .int 0, .ref (g 2), .ref (g 3), .ref (g 4), .ref (g 5), .ref (g 6), .int 0, .int 0, .int 0, .int 0, .int 0, .int 0, .int 0, .ref (g 7), .int 0, .ref (g 8), .int 0, .ref (g 9), .ref (g 10), .int 0, .ref (g 11), .ref (g 12), .ref (g 13), .int 0, .int 0, .ref (g 14), .ref (g 15), .int 0, .int 0, .int 0, .ref (g 16), .long 0, .ref (g 17), .ref (g 18), .ref (g 19)])), (g 3, .inl (cs 0, 7, .inl f_1))] := hD
  refine lv_aload_n hx hb dX12_readsAll_20 rfl (lv_at hl 0 rfl) ?_
  refine lv_iconst (v := 0) hx hb dX12_readsAll_21 (by decide) ?_
  refine va_put (D := D) (ci := 12) (v := .int 0) (ty := .int) (C := RX12) (T := TX12) (N := 37) hx hb hT i_X12 tyX12 tyX12_ok nmX12 hown hK hP hD hS 0 rfl rfl 9 (by decide) (hT _ q_310) (fun _ h9 => h9) rfl (by decide +kernel) rfl rfl (Nat.le_of_ble_eq_true rfl) dX12_readsAll_22 (fun H locs hP hD hS => ?_)
  have hP : va_P D classes [(g 0, .inr (12, [.ref (g 1), .int 0, .int 0, .ref (g 2), .ref (g 3), .ref (g 4), .ref (g 5), .ref (g 6), .int 0, .int 0, .int 0, .int 0, .int 0, .int 0, .int 0, .ref (g 7), .int 0, .ref (g 8), .int 0, .ref (g 9), .ref (g 10), .int 0, .ref (g 11), .ref (g 12), .ref (g 13), .int 0, .int 0, .ref (g 14), .ref (g 15), .int 0, .int 0, .int 0, .ref (g 16), .long 0, .ref (g 17), .ref (g 18), .ref (g 19)])), (g 3, .inl (cs 0, 7, .inl f_1))] H := hP
  have hD : va_D A [(g 0, .inr (12, [.ref (g 1), .int 0, .int 0, .ref (g 2), .ref (g 3), .ref (g 4), .ref (g 5), .ref (g 6), .int 0, .int 0, .int 0, .int 0, .int 0, .int 0, .int 0, .ref (g 7), .int 0, .ref (g 8), .int 0, .ref (g 9), .ref (g 10), .int 0, .ref (g 11), .ref (g 12), .ref (g 13), .int 0, .int 0, .ref (g 14), .ref (g 15), .int 0, .int 0, .int 0, .ref (g 16), .long 0, .ref (g 17), .ref (g 18), .ref (g 19)])), (g 3, .inl (cs 0, 7, .inl f_1))] := hD
  refine lv_aload_n hx hb dX12_readsAll_25 rfl (lv_at hl 0 rfl) ?_
  refine lv_iconst (v := 0) hx hb dX12_readsAll_26 (by decide) ?_
  refine va_put (D := D) (ci := 12) (v := .int 0) (ty := .int) (C := RX12) (T := TX12) (N := 37) hx hb hT i_X12 tyX12 tyX12_ok nmX12 hown hK hP hD hS 0 rfl rfl 12 (by decide) (hT _ q_324) (fun _ h9 => h9) rfl (by decide +kernel) rfl rfl (Nat.le_of_ble_eq_true rfl) dX12_readsAll_27 (fun H locs hP hD hS => ?_)
  have hP : va_P D classes [(g 0, .inr (12, [.ref (g 1), .int 0, .int 0, .ref (g 2), .ref (g 3), .ref (g 4), .ref (g 5), .ref (g 6), .int 0, .int 0, .int 0, .int 0, .int 0, .int 0, .int 0, .ref (g 7), .int 0, .ref (g 8), .int 0, .ref (g 9), .ref (g 10), .int 0, .ref (g 11), .ref (g 12), .ref (g 13), .int 0, .int 0, .ref (g 14), .ref (g 15), .int 0, .int 0, .int 0, .ref (g 16), .long 0, .ref (g 17), .ref (g 18), .ref (g 19)])), (g 3, .inl (cs 0, 7, .inl f_1))] H := hP
  have hD : va_D A [(g 0, .inr (12, [.ref (g 1), .int 0, .int 0, .ref (g 2), .ref (g 3), .ref (g 4), .ref (g 5), .ref (g 6), .int 0, .int 0, .int 0, .int 0, .int 0, .int 0, .int 0, .ref (g 7), .int 0, .ref (g 8), .int 0, .ref (g 9), .ref (g 10), .int 0, .ref (g 11), .ref (g 12), .ref (g 13), .int 0, .int 0, .ref (g 14), .ref (g 15), .int 0, .int 0, .int 0, .ref (g 16), .long 0, .ref (g 17), .ref (g 18), .ref (g 19)])), (g 3, .inl (cs 0, 7, .inl f_1))] := hD
  refine lv_aload_n hx hb dX12_readsAll_30 rfl (lv_at hl 0 rfl) ?_
  have hFc := va_free (wc := [(g 0, .inr (12, [.ref (g 1), .int 0, .int 0, .ref (g 2), .ref (g 3), .ref (g 4), .ref (g 5), .ref (g 6), .int 0, .int 0, .int 0, .int 0, .int 0, .int 0, .int 0, .ref (g 7), .int 0, .ref (g 8), .int 0, .ref (g 9), .ref (g 10), .int 0, .ref (g 11), .ref (g 12), .ref (g 13), .int 0, .int 0, .ref (g 14), .ref (g 15), .int 0, .int 0, .int 0, .ref (g 16), .long 0, .ref (g 17), .ref (g 18), .ref (g 19)]))]) hD hS hA [0] rfl
  refine va_calli (va_runV (As := []) (rest := []) ⟨hx, hb, hml, hown, hT⟩ (c_X12_clause0 l D cs kK kV g H.size) (cwV 0 hT (hz_gV q_325 q_326 q_327 q_252 q_328) rfl rfl rfl (by decide +kernel) ⟨(Nat.le_of_ble_eq_true rfl), (Nat.le_of_ble_eq_true rfl)⟩) ⟨hz_C.blind, va_recv hK hP (ci := 12) (q0 := 0) rfl rfl, hz_C.mk (hP.sub (ws' := [(g 0, .inr (12, [.ref (g 1), .int 0, .int 0, .ref (g 2), .ref (g 3), .ref (g 4), .ref (g 5), .ref (g 6), .int 0, .int 0, .int 0, .int 0, .int 0, .int 0, .int 0, .ref (g 7), .int 0, .ref (g 8), .int 0, .ref (g 9), .ref (g 10), .int 0, .ref (g 11), .ref (g 12), .ref (g 13), .int 0, .int 0, .ref (g 14), .ref (g 15), .int 0, .int 0, .int 0, .ref (g 16), .long 0, .ref (g 17), .ref (g 18), .ref (g 19)]))]) [0] rfl) (hD.sub (ws' := [(g 0, .inr (12, [.ref (g 1), .int 0, .int 0, .ref (g 2), .ref (g 3), .ref (g 4), .ref (g 5), .ref (g 6), .int 0, .int 0, .int 0, .int 0, .int 0, .int 0, .int 0, .ref (g 7), .int 0, .ref (g 8), .int 0, .ref (g 9), .ref (g 10), .int 0, .ref (g 11), .ref (g 12), .ref (g 13), .int 0, .int 0, .ref (g 14), .ref (g 15), .int 0, .int 0, .int 0, .ref (g 16), .long 0, .ref (g 17), .ref (g 18), .ref (g 19)]))]) [0] (by decide) rfl) hE hS hFc⟩ rfl rfl hl.1 rfl (lv_room (Nat.le_of_ble_eq_true rfl)) dX12_readsAll_31 ⟨(Nat.le_of_ble_eq_true rfl), (Nat.le_of_ble_eq_true rfl)⟩) hS (fun q _ h => hFc q h) hFc (fun r_2 u t H1 locs ht hvm hw hB hz1 hk1 hS => ?_)
  obtain ⟨hP1, hD1⟩ := hB
  rw [ht] at hP1
  obtain ⟨hP, hD⟩ := va_join (wr := [(g 3, .inl (cs 0, 7, .inl f_1))]) (w1 := [(g 0, .inr (12, [.ref (g 1), .int 0, .int 0, .ref (g 2), .ref (g 3), .ref (g 4), .ref (g 5), .ref (g 6), .int 0, .int 1, .int 0, .int 0, .int 0, .int 0, .int 0, .ref (g 7), .int 0, .ref (g 8), .int 0, .ref (g 9), .ref (g 10), .int 0, .ref (g 11), .ref (g 12), .ref (g 13), .int 0, .int 0, .ref (g 14), .ref (g 15), .int 0, .int 0, .int 0, .ref (g 16), .long 0, .ref (g 17), .ref (g 18), .ref (g 19)]))]) hP hD [0] [1] rfl rfl (by decide) (by decide) hk1 hFc hP1 hD1
  generalize H1 = H at hP hS ⊢
  have hP : va_P D classes [(g 3, .inl (cs 0, 7, .inl f_1)), (g 0, .inr (12, [.ref (g 1), .int 0, .int 0, .ref (g 2), .ref (g 3), .ref (g 4), .ref (g 5), .ref (g 6), .int 0, .int 1, .int 0, .int 0, .int 0, .int 0, .int 0, .ref (g 7), .int 0, .ref (g 8), .int 0, .ref (g 9), .ref (g 10), .int 0, .ref (g 11), .ref (g 12), .ref (g 13), .int 0, .int 0, .ref (g 14), .ref (g 15), .int 0, .int 0, .int 0, .ref (g 16), .long 0, .ref (g 17), .ref (g 18), .ref (g 19)]))] H := hP
  have hD : va_D A [(g 3, .inl (cs 0, 7, .inl f_1)), (g 0, .inr (12, [.ref (g 1), .int 0, .int 0, .ref (g 2), .ref (g 3), .ref (g 4), .ref (g 5), .ref (g 6), .int 0, .int 1, .int 0, .int 0, .int 0, .int 0, .int 0, .ref (g 7), .int 0, .ref (g 8), .int 0, .ref (g 9), .ref (g 10), .int 0, .ref (g 11), .ref (g 12), .ref (g 13), .int 0, .int 0, .ref (g 14), .ref (g 15), .int 0, .int 0, .int 0, .ref (g 16), .long 0, .ref (g 17), .ref (g 18), .ref (g 19)]))] := hD
  clear hk1 hFc hP1 hD1 hz1
  subst hw
  refine lv_istore_n (lv' := [(1, .int 0), (0, .ref (g 0))]) hx hb dX12_readsAll_34 rfl hl (by decide) rfl (fun ls hl => ?_)
  refine lv_iload_n hx hb dX12_readsAll_35 rfl (lv_at hl 0 rfl) ?_
  refine lv_if_eq (tgt := 66) hx hb dX12_readsAll_36 (by decide) (fun _ => ?_) (fun z => absurd (by decide) z)
  refine lv_iload_n hx hb dX12_readsAll_66 rfl (lv_at hl 0 rfl) ?_
  refine lv_if_eq (tgt := 88) hx hb dX12_readsAll_67 (by decide) (fun _ => ?_) (fun z => absurd (by decide) z)
  refine lv_aload_n hx hb dX12_readsAll_88 rfl (lv_at hl 1 rfl) ?_
  refine lv_iconst (v := 0) hx hb dX12_readsAll_89 (by decide) ?_
  refine va_put (D := D) (ci := 12) (v := .int 0) (ty := .int) (C := RX12) (T := TX12) (N := 37) hx hb hT i_X12 tyX12 tyX12_ok nmX12 hown hK hP hD hS 1 rfl rfl 1 (by decide) (hT _ q_283) (fun _ h9 => h9) rfl (by decide +kernel) rfl rfl (Nat.le_of_ble_eq_true rfl) dX12_readsAll_90 (fun H locs hP hD hS => ?_)
  have hP : va_P D classes [(g 3, .inl (cs 0, 7, .inl f_1)), (g 0, .inr (12, [.ref (g 1), .int 0, .int 0, .ref (g 2), .ref (g 3), .ref (g 4), .ref (g 5), .ref (g 6), .int 0, .int 1, .int 0, .int 0, .int 0, .int 0, .int 0, .ref (g 7), .int 0, .ref (g 8), .int 0, .ref (g 9), .ref (g 10), .int 0, .ref (g 11), .ref (g 12), .ref (g 13), .int 0, .int 0, .ref (g 14), .ref (g 15), .int 0, .int 0, .int 0, .ref (g 16), .long 0, .ref (g 17), .ref (g 18), .ref (g 19)]))] H := hP
  have hD : va_D A [(g 3, .inl (cs 0, 7, .inl f_1)), (g 0, .inr (12, [.ref (g 1), .int 0, .int 0, .ref (g 2), .ref (g 3), .ref (g 4), .ref (g 5), .ref (g 6), .int 0, .int 1, .int 0, .int 0, .int 0, .int 0, .int 0, .ref (g 7), .int 0, .ref (g 8), .int 0, .ref (g 9), .ref (g 10), .int 0, .ref (g 11), .ref (g 12), .ref (g 13), .int 0, .int 0, .ref (g 14), .ref (g 15), .int 0, .int 0, .int 0, .ref (g 16), .long 0, .ref (g 17), .ref (g 18), .ref (g 19)]))] := hD
  refine lv_aload_n hx hb dX12_readsAll_93 rfl (lv_at hl 1 rfl) ?_
  refine va_get (D := D) (ci := 12) (v := .int 1) (C := RX12) (T := TX12) (N := 37) hx hb hT i_X12 hown hK hP 1 rfl rfl 9 (by decide) (hT _ q_310) (fun _ h9 => h9) rfl dX12_readsAll_94 ?_
  refine lv_if_ne (tgt := 104) hx hb dX12_readsAll_97 (by decide) (fun _ => ?_) (fun z => absurd z (by decide))
  refine lv_iconst (v := 0) hx hb dX12_readsAll_104 (by decide) ?_
  exact W.zret (v := 0) hx hb hr rfl (fun t ht hW => ⟨⟨0, (), rfl, rfl, by rw [ht]; exact hP.sub [1] rfl, hD.sub [1] (by decide) rfl⟩, hS.F ht⟩) hS.2.2 dX12_readsAll_105
set_option maxHeartbeats 4000000 in
set_option maxRecDepth 100000 in
theorem c_X12_reads6 (l : Launch) (D : va_G) (cs : Nat → ClassId) (kK kV : Nat → Nat) (g : Nat → Nat) (sz : Nat) : Met l yX12_readsAll (hz_w yX12_readsAll cX12_readsAll 2 (some .boolean)) ({ frames := 4, cells := 0, slots := 0, locals := 88 }) (va_Pc [.ref (g 0)] (hz_C D cs kK kV sz [(g 0, .inr (12, [.ref (g 1), .int 0, .int 0, .ref (g 2), .ref (g 3), .ref (g 4), .ref (g 5), .ref (g 6), .int 0, .int 0, .int 0, .int 6, .int 0, .int 0, .int 0, .ref (g 7), .int 0, .ref (g 8), .int 0, .ref (g 9), .ref (g 10), .int 0, .ref (g 11), .ref (g 12), .ref (g 13), .int 0, .int 0, .ref (g 14), .ref (g 15), .int 0, .int 0, .int 0, .ref (g 16), .long 0, .ref (g 17), .ref (g 18), .ref (g 19)])), (g 3, .inl (cs 0, 7, .inl (fun _ => 0)))])) (va_Qi (fun (r : Int32) (_ : Unit) => r = 0) (fun _ t => va_P D classes [(g 0, .inr (12, [.ref (g 1), .int 0, .int 0, .ref (g 2), .ref (g 3), .ref (g 4), .ref (g 5), .ref (g 6), .int 0, .int 1, .int 0, .int 6, .int 0, .int 0, .int 0, .ref (g 7), .int 0, .ref (g 8), .int 0, .ref (g 9), .ref (g 10), .int 0, .ref (g 11), .ref (g 12), .ref (g 13), .int 0, .int 0, .ref (g 14), .ref (g 15), .int 0, .int 0, .int 0, .ref (g 16), .long 0, .ref (g 17), .ref (g 18), .ref (g 19)]))] t.heap ∧ va_D (va_A [(g 0, .inr (12, [.ref (g 1), .int 0, .int 0, .ref (g 2), .ref (g 3), .ref (g 4), .ref (g 5), .ref (g 6), .int 0, .int 0, .int 0, .int 6, .int 0, .int 0, .int 0, .ref (g 7), .int 0, .ref (g 8), .int 0, .ref (g 9), .ref (g 10), .int 0, .ref (g 11), .ref (g 12), .ref (g 13), .int 0, .int 0, .ref (g 14), .ref (g 15), .int 0, .int 0, .int 0, .ref (g 16), .long 0, .ref (g 17), .ref (g 18), .ref (g 19)])), (g 3, .inl (cs 0, 7, .inl (fun _ => 0)))] sz) [(g 0, .inr (12, [.ref (g 1), .int 0, .int 0, .ref (g 2), .ref (g 3), .ref (g 4), .ref (g 5), .ref (g 6), .int 0, .int 1, .int 0, .int 6, .int 0, .int 0, .int 0, .ref (g 7), .int 0, .ref (g 8), .int 0, .ref (g 9), .ref (g 10), .int 0, .ref (g 11), .ref (g 12), .ref (g 13), .int 0, .int 0, .ref (g 14), .ref (g 15), .int 0, .int 0, .int 0, .ref (g 16), .long 0, .ref (g 17), .ref (g 18), .ref (g 19)]))]) (va_A [(g 0, .inr (12, [.ref (g 1), .int 0, .int 0, .ref (g 2), .ref (g 3), .ref (g 4), .ref (g 5), .ref (g 6), .int 0, .int 0, .int 0, .int 6, .int 0, .int 0, .int 0, .ref (g 7), .int 0, .ref (g 8), .int 0, .ref (g 9), .ref (g 10), .int 0, .ref (g 11), .ref (g 12), .ref (g 13), .int 0, .int 0, .ref (g 14), .ref (g 15), .int 0, .int 0, .int 0, .ref (g 16), .long 0, .ref (g 17), .ref (g 18), .ref (g 19)])), (g 3, .inl (cs 0, 7, .inl (fun _ => 0)))] sz)) 0 0 (va_A [(g 0, .inr (12, [.ref (g 1), .int 0, .int 0, .ref (g 2), .ref (g 3), .ref (g 4), .ref (g 5), .ref (g 6), .int 0, .int 0, .int 0, .int 6, .int 0, .int 0, .int 0, .ref (g 7), .int 0, .ref (g 8), .int 0, .ref (g 9), .ref (g 10), .int 0, .ref (g 11), .ref (g 12), .ref (g 13), .int 0, .int 0, .ref (g 14), .ref (g 15), .int 0, .int 0, .int 0, .ref (g 16), .long 0, .ref (g 17), .ref (g 18), .ref (g 19)])), (g 3, .inl (cs 0, 7, .inl (fun _ => 0)))] sz) := by
  refine Met.ofW (cc := cX12_readsAll) (maxL := 2) (ret := (some .boolean)) (by decide) rfl ?_
  intro p e s m args below meth c s₁ B hml hv
  obtain ⟨rfl, hsz, hP, hD0, hE⟩ := hv
  have hx := B.exec
  have hb := B.bytes
  have hr := B.returns
  have hT : ∀ w ∈ TB, w.before _ s = true := fun w h => atoms_spec (ws := hz_w yX12_readsAll cX12_readsAll 2 (some .boolean)) B.pre w (List.mem_cons_of_mem _ h)
  have hown : s.vm.findClass RX12 = some m.cls := findClass_of_methodNamed B.named
  have hlocks := B.notSynchronized
  clear B
  subst hsz
  have hD := hD0.self (sz := s.heap.size)
  generalize hAe : va_A [(g 0, .inr (12, [.ref (g 1), .int 0, .int 0, .ref (g 2), .ref (g 3), .ref (g 4), .ref (g 5), .ref (g 6), .int 0, .int 0, .int 0, .int 6, .int 0, .int 0, .int 0, .ref (g 7), .int 0, .ref (g 8), .int 0, .ref (g 9), .ref (g 10), .int 0, .ref (g 11), .ref (g 12), .ref (g 13), .int 0, .int 0, .ref (g 14), .ref (g 15), .int 0, .int 0, .int 0, .ref (g 16), .long 0, .ref (g 17), .ref (g 18), .ref (g 19)])), (g 3, .inl (cs 0, 7, .inl (fun _ => 0)))] s.heap.size = A at hD hE ⊢
  have hA : ∀ q : Nat, s.heap.size ≤ q → A q := fun q h => by rw [← hAe]; exact Or.inr h
  clear hAe hD0
  have hS : va_S A s.heap s.heap [] := va_S.rf
  have hK := hE.1
  have hl := lv_entry ([.ref (g 0)]) (n := 2) (Nat.le_of_ble_eq_true rfl)
  rw [lg_entry_eq]
  generalize (lg_sl ([.ref (g 0)]) ++ List.replicate (2 - (lg_sl ([.ref (g 0)])).length) Slot.unset).toArray = ls at hl ⊢
  have hl : lv_has ls 2 [(0, .ref (g 0))] := hl
  obtain ⟨H, eH⟩ : ∃ z, z = s.heap := ⟨_, rfl⟩
  have hP : va_P D classes [(g 0, .inr (12, [.ref (g 1), .int 0, .int 0, .ref (g 2), .ref (g 3), .ref (g 4), .ref (g 5), .ref (g 6), .int 0, .int 0, .int 0, .int 6, .int 0, .int 0, .int 0, .ref (g 7), .int 0, .ref (g 8), .int 0, .ref (g 9), .ref (g 10), .int 0, .ref (g 11), .ref (g 12), .ref (g 13), .int 0, .int 0, .ref (g 14), .ref (g 15), .int 0, .int 0, .int 0, .ref (g 16), .long 0, .ref (g 17), .ref (g 18), .ref (g 19)])), (g 3, .inl (cs 0, 7, .inl (fun _ => 0)))] H := by rw [eH]; exact hP
  have hS : va_S A s.heap H [] := by rw [eH]; exact hS
  rw [← eH]
  clear eH
  refine lv_aload_n hx hb dX12_readsAll_0 rfl (lv_at hl 0 rfl) ?_
  refine va_get (D := D) (ci := 12) (v := .ref (g 3)) (C := RX12) (T := TX12) (N := 37) hx hb hT i_X12 hown hK hP 0 rfl rfl 4 (by decide) (hT _ q_322) (fun _ h9 => h9) rfl dX12_readsAll_1 ?_
  refine lv_aload_n hx hb dX12_readsAll_4 rfl (lv_at hl 0 rfl) ?_
  refine va_get (D := D) (ci := 12) (v := .int 6) (C := RX12) (T := TX12) (N := 37) hx hb hT i_X12 hown hK hP 0 rfl rfl 11 (by decide) (hT _ q_311) (fun _ h9 => h9) rfl dX12_readsAll_5 ?_
  refine lv_iconst (v := 0) hx hb dX12_readsAll_8 (by decide) ?_
  refine va_iast hx hb hK hP hD hS 1 0 rfl rfl (by unfold vp_in; decide) dX12_readsAll_9 (fun H locs hP hD hS => ?_)
  have hP : va_P D classes [(g 0, .inr (12, [.ref (g 1), .int 0, .int 0, .ref (g 2), .ref (g 3), .ref (g 4), .ref (g 5), .ref (g 6), .int 0, .int 0, .int 0, .int 6, .int 0, .int 0, .int 0, .ref (g 7), .int 0, .ref (g 8), .int 0, .ref (g 9), .ref (g 10), .int 0, .ref (g 11), .ref (g 12), .ref (g 13), .int 0, .int 0, .ref (g 14), .ref (g 15), .int 0, .int 0, .int 0, .ref (g 16), .long 0, .ref (g 17), .ref (g 18), .ref (g 19)])), (g 3, .inl (cs 0, 7, .inl (upd (fun _ => 0) (Int32.toNatClampNeg (6 : Int32)) (0 : Int32))))] H := hP
  have hD : va_D A [(g 0, .inr (12, [.ref (g 1), .int 0, .int 0, .ref (g 2), .ref (g 3), .ref (g 4), .ref (g 5), .ref (g 6), .int 0, .int 0, .int 0, .int 6, .int 0, .int 0, .int 0, .ref (g 7), .int 0, .ref (g 8), .int 0, .ref (g 9), .ref (g 10), .int 0, .ref (g 11), .ref (g 12), .ref (g 13), .int 0, .int 0, .ref (g 14), .ref (g 15), .int 0, .int 0, .int 0, .ref (g 16), .long 0, .ref (g 17), .ref (g 18), .ref (g 19)])), (g 3, .inl (cs 0, 7, .inl (upd (fun _ => 0) (Int32.toNatClampNeg (6 : Int32)) (0 : Int32))))] := hD
  generalize upd (fun _ => 0) (Int32.toNatClampNeg (6 : Int32)) (0 : Int32) = f_1 at hP hD
  refine lv_aload_n hx hb dX12_readsAll_10 rfl (lv_at hl 0 rfl) ?_
  refine lv_iconst (v := 0) hx hb dX12_readsAll_11 (by decide) ?_
  refine va_put (D := D) (ci := 12) (v := .int 0) (ty := .int) (C := RX12) (T := TX12) (N := 37) hx hb hT i_X12 tyX12 tyX12_ok nmX12 hown hK hP hD hS 0 rfl rfl 14 (by decide) (hT _ q_323) (fun _ h9 => h9) rfl (by decide +kernel) rfl rfl (Nat.le_of_ble_eq_true rfl) dX12_readsAll_12 (fun H locs hP hD hS => ?_)
  have hP : va_P D classes [(g 0, .inr (12, [.ref (g 1), .int 0, .int 0, .ref (g 2), .ref (g 3), .ref (g 4), .ref (g 5), .ref (g 6), .int 0, .int 0, .int 0, .int 6, .int 0, .int 0, .int 0, .ref (g 7), .int 0, .ref (g 8), .int 0, .ref (g 9), .ref (g 10), .int 0, .ref (g 11), .ref (g 12), .ref (g 13), .int 0, .int 0, .ref (g 14), .ref (g 15), .int 0, .int 0, .int 0, .ref (g 16), .long 0, .ref (g 17), .ref (g 18), .ref (g 19)])), (g 3, .inl (cs 0, 7, .inl f_1))] H := hP
  have hD : va_D A [(g 0, .inr (12, [.ref (g 1), .int 0, .int 0, .ref (g 2), .ref (g 3), .ref (g 4), .ref (g 5), .ref (g 6), .int 0, .int 0, .int 0, .int 6, .int 0, .int 0, .int 0, .ref (g 7), .int 0, .ref (g 8), .int 0, .ref (g 9), .ref (g 10), .int 0, .ref (g 11), .ref (g 12), .ref (g 13), .int 0, .int 0, .ref (g 14), .ref (g 15), .int 0, .int 0, .int 0, .ref (g 16), .long 0, .ref (g 17), .ref (g 18), .ref (g 19)])), (g 3, .inl (cs 0, 7, .inl f_1))] := hD
  refine lv_aload_n hx hb dX12_readsAll_15 rfl (lv_at hl 0 rfl) ?_
  refine lv_iconst (v := 0) hx hb dX12_readsAll_16 (by decide) ?_
  refine va_put (D := D) (ci := 12) (v := .int 0) (ty := .int) (C := RX12) (T := TX12) (N := 37) hx hb hT i_X12 tyX12 tyX12_ok nmX12 hown hK hP hD hS 0 rfl rfl 8 (by decide) (hT _ q_289) (fun _ h9 => h9) rfl (by decide +kernel) rfl rfl (Nat.le_of_ble_eq_true rfl) dX12_readsAll_17 (fun H locs hP hD hS => ?_)
  have hP : va_P D classes [(g 0, .inr (12, [.ref (g 1), .int 0, .int 0, .ref (g 2), .ref (g 3), .ref (g 4), .ref (g 5), .ref (g 6), .int 0, .int 0, .int 0, .int 6, .int 0, .int 0, .int 0, .ref (g 7), .int 0, .ref (g 8), .int 0, .ref (g 9), .ref (g 10), .int 0, .ref (g 11), .ref (g 12), .ref (g 13), .int 0, .int 0, .ref (g 14), .ref (g 15), .int 0, .int 0, .int 0, .ref (g 16), .long 0, .ref (g 17), .ref (g 18), .ref (g 19)])), (g 3, .inl (cs 0, 7, .inl f_1))] H := hP
  have hD : va_D A [(g 0, .inr (12, [.ref (g 1), .int 0, .int 0, .ref (g 2), .ref (g 3), .ref (g 4), .ref (g 5), .ref (g 6), .int 0, .int 0, .int 0, .int 6, .int 0, .int 0, .int 0, .ref (g 7), .int 0, .ref (g 8), .int 0, .ref (g 9), .ref (g 10), .int 0, .ref (g 11), .ref (g 12), .ref (g 13), .int 0, .int 0, .ref (g 14), .ref (g 15), .int 0, .int 0, .int 0, .ref (g 16), .long 0, .ref (g 17), .ref (g 18), .ref (g 19)])), (g 3, .inl (cs 0, 7, .inl f_1))] := hD
  refine lv_aload_n hx hb dX12_readsAll_20 rfl (lv_at hl 0 rfl) ?_
  refine lv_iconst (v := 0) hx hb dX12_readsAll_21 (by decide) ?_
  refine va_put (D := D) (ci := 12) (v := .int 0) (ty := .int) (C := RX12) (T := TX12) (N := 37) hx hb hT i_X12 tyX12 tyX12_ok nmX12 hown hK hP hD hS 0 rfl rfl 9 (by decide) (hT _ q_310) (fun _ h9 => h9) rfl (by decide +kernel) rfl rfl (Nat.le_of_ble_eq_true rfl) dX12_readsAll_22 (fun H locs hP hD hS => ?_)
  have hP : va_P D classes [(g 0, .inr (12, [.ref (g 1), .int 0, .int 0, .ref (g 2), .ref (g 3), .ref (g 4), .ref (g 5), .ref (g 6), .int 0, .int 0, .int 0, .int 6, .int 0, .int 0, .int 0, .ref (g 7), .int 0, .ref (g 8), .int 0, .ref (g 9), .ref (g 10), .int 0, .ref (g 11), .ref (g 12), .ref (g 13), .int 0, .int 0, .ref (g 14), .ref (g 15), .int 0, .int 0, .int 0, .ref (g 16), .long 0, .ref (g 17), .ref (g 18), .ref (g 19)])), (g 3, .inl (cs 0, 7, .inl f_1))] H := hP
  have hD : va_D A [(g 0, .inr (12, [.ref (g 1), .int 0, .int 0, .ref (g 2), .ref (g 3), .ref (g 4), .ref (g 5), .ref (g 6), .int 0, .int 0, .int 0, .int 6, .int 0, .int 0, .int 0, .ref (g 7), .int 0, .ref (g 8), .int 0, .ref (g 9), .ref (g 10), .int 0, .ref (g 11), .ref (g 12), .ref (g 13), .int 0, .int 0, .ref (g 14), .ref (g 15), .int 0, .int 0, .int 0, .ref (g 16), .long 0, .ref (g 17), .ref (g 18), .ref (g 19)])), (g 3, .inl (cs 0, 7, .inl f_1))] := hD
  refine lv_aload_n hx hb dX12_readsAll_25 rfl (lv_at hl 0 rfl) ?_
  refine lv_iconst (v := 0) hx hb dX12_readsAll_26 (by decide) ?_
  refine va_put (D := D) (ci := 12) (v := .int 0) (ty := .int) (C := RX12) (T := TX12) (N := 37) hx hb hT i_X12 tyX12 tyX12_ok nmX12 hown hK hP hD hS 0 rfl rfl 12 (by decide) (hT _ q_324) (fun _ h9 => h9) rfl (by decide +kernel) rfl rfl (Nat.le_of_ble_eq_true rfl) dX12_readsAll_27 (fun H locs hP hD hS => ?_)
  have hP : va_P D classes [(g 0, .inr (12, [.ref (g 1), .int 0, .int 0, .ref (g 2), .ref (g 3), .ref (g 4), .ref (g 5), .ref (g 6), .int 0, .int 0, .int 0, .int 6, .int 0, .int 0, .int 0, .ref (g 7), .int 0, .ref (g 8), .int 0, .ref (g 9), .ref (g 10), .int 0, .ref (g 11), .ref (g 12), .ref (g 13), .int 0, .int 0, .ref (g 14), .ref (g 15), .int 0, .int 0, .int 0, .ref (g 16), .long 0, .ref (g 17), .ref (g 18), .ref (g 19)])), (g 3, .inl (cs 0, 7, .inl f_1))] H := hP
  have hD : va_D A [(g 0, .inr (12, [.ref (g 1), .int 0, .int 0, .ref (g 2), .ref (g 3), .ref (g 4), .ref (g 5), .ref (g 6), .int 0, .int 0, .int 0, .int 6, .int 0, .int 0, .int 0, .ref (g 7), .int 0, .ref (g 8), .int 0, .ref (g 9), .ref (g 10), .int 0, .ref (g 11), .ref (g 12), .ref (g 13), .int 0, .int 0, .ref (g 14), .ref (g 15), .int 0, .int 0, .int 0, .ref (g 16), .long 0, .ref (g 17), .ref (g 18), .ref (g 19)])), (g 3, .inl (cs 0, 7, .inl f_1))] := hD
  refine lv_aload_n hx hb dX12_readsAll_30 rfl (lv_at hl 0 rfl) ?_
  have hFc := va_free (wc := [(g 0, .inr (12, [.ref (g 1), .int 0, .int 0, .ref (g 2), .ref (g 3), .ref (g 4), .ref (g 5), .ref (g 6), .int 0, .int 0, .int 0, .int 6, .int 0, .int 0, .int 0, .ref (g 7), .int 0, .ref (g 8), .int 0, .ref (g 9), .ref (g 10), .int 0, .ref (g 11), .ref (g 12), .ref (g 13), .int 0, .int 0, .ref (g 14), .ref (g 15), .int 0, .int 0, .int 0, .ref (g 16), .long 0, .ref (g 17), .ref (g 18), .ref (g 19)]))]) hD hS hA [0] rfl
  refine va_calli (va_runV (As := []) (rest := []) ⟨hx, hb, hml, hown, hT⟩ (c_X12_clause6 l D cs kK kV g H.size) (cwV 0 hT (hz_gV q_325 q_326 q_327 q_252 q_328) rfl rfl rfl (by decide +kernel) ⟨(Nat.le_of_ble_eq_true rfl), (Nat.le_of_ble_eq_true rfl)⟩) ⟨hz_C.blind, va_recv hK hP (ci := 12) (q0 := 0) rfl rfl, hz_C.mk (hP.sub (ws' := [(g 0, .inr (12, [.ref (g 1), .int 0, .int 0, .ref (g 2), .ref (g 3), .ref (g 4), .ref (g 5), .ref (g 6), .int 0, .int 0, .int 0, .int 6, .int 0, .int 0, .int 0, .ref (g 7), .int 0, .ref (g 8), .int 0, .ref (g 9), .ref (g 10), .int 0, .ref (g 11), .ref (g 12), .ref (g 13), .int 0, .int 0, .ref (g 14), .ref (g 15), .int 0, .int 0, .int 0, .ref (g 16), .long 0, .ref (g 17), .ref (g 18), .ref (g 19)]))]) [0] rfl) (hD.sub (ws' := [(g 0, .inr (12, [.ref (g 1), .int 0, .int 0, .ref (g 2), .ref (g 3), .ref (g 4), .ref (g 5), .ref (g 6), .int 0, .int 0, .int 0, .int 6, .int 0, .int 0, .int 0, .ref (g 7), .int 0, .ref (g 8), .int 0, .ref (g 9), .ref (g 10), .int 0, .ref (g 11), .ref (g 12), .ref (g 13), .int 0, .int 0, .ref (g 14), .ref (g 15), .int 0, .int 0, .int 0, .ref (g 16), .long 0, .ref (g 17), .ref (g 18), .ref (g 19)]))]) [0] (by decide) rfl) hE hS hFc⟩ rfl rfl hl.1 rfl (lv_room (Nat.le_of_ble_eq_true rfl)) dX12_readsAll_31 ⟨(Nat.le_of_ble_eq_true rfl), (Nat.le_of_ble_eq_true rfl)⟩) hS (fun q _ h => hFc q h) hFc (fun r_2 u t H1 locs ht hvm hw hB hz1 hk1 hS => ?_)
  obtain ⟨hP1, hD1⟩ := hB
  rw [ht] at hP1
  obtain ⟨hP, hD⟩ := va_join (wr := [(g 3, .inl (cs 0, 7, .inl f_1))]) (w1 := [(g 0, .inr (12, [.ref (g 1), .int 0, .int 0, .ref (g 2), .ref (g 3), .ref (g 4), .ref (g 5), .ref (g 6), .int 0, .int 1, .int 0, .int 6, .int 0, .int 0, .int 0, .ref (g 7), .int 0, .ref (g 8), .int 0, .ref (g 9), .ref (g 10), .int 0, .ref (g 11), .ref (g 12), .ref (g 13), .int 0, .int 0, .ref (g 14), .ref (g 15), .int 0, .int 0, .int 0, .ref (g 16), .long 0, .ref (g 17), .ref (g 18), .ref (g 19)]))]) hP hD [0] [1] rfl rfl (by decide) (by decide) hk1 hFc hP1 hD1
  generalize H1 = H at hP hS ⊢
  have hP : va_P D classes [(g 3, .inl (cs 0, 7, .inl f_1)), (g 0, .inr (12, [.ref (g 1), .int 0, .int 0, .ref (g 2), .ref (g 3), .ref (g 4), .ref (g 5), .ref (g 6), .int 0, .int 1, .int 0, .int 6, .int 0, .int 0, .int 0, .ref (g 7), .int 0, .ref (g 8), .int 0, .ref (g 9), .ref (g 10), .int 0, .ref (g 11), .ref (g 12), .ref (g 13), .int 0, .int 0, .ref (g 14), .ref (g 15), .int 0, .int 0, .int 0, .ref (g 16), .long 0, .ref (g 17), .ref (g 18), .ref (g 19)]))] H := hP
  have hD : va_D A [(g 3, .inl (cs 0, 7, .inl f_1)), (g 0, .inr (12, [.ref (g 1), .int 0, .int 0, .ref (g 2), .ref (g 3), .ref (g 4), .ref (g 5), .ref (g 6), .int 0, .int 1, .int 0, .int 6, .int 0, .int 0, .int 0, .ref (g 7), .int 0, .ref (g 8), .int 0, .ref (g 9), .ref (g 10), .int 0, .ref (g 11), .ref (g 12), .ref (g 13), .int 0, .int 0, .ref (g 14), .ref (g 15), .int 0, .int 0, .int 0, .ref (g 16), .long 0, .ref (g 17), .ref (g 18), .ref (g 19)]))] := hD
  clear hk1 hFc hP1 hD1 hz1
  subst hw
  refine lv_istore_n (lv' := [(1, .int 0), (0, .ref (g 0))]) hx hb dX12_readsAll_34 rfl hl (by decide) rfl (fun ls hl => ?_)
  refine lv_iload_n hx hb dX12_readsAll_35 rfl (lv_at hl 0 rfl) ?_
  refine lv_if_eq (tgt := 66) hx hb dX12_readsAll_36 (by decide) (fun _ => ?_) (fun z => absurd (by decide) z)
  refine lv_iload_n hx hb dX12_readsAll_66 rfl (lv_at hl 0 rfl) ?_
  refine lv_if_eq (tgt := 88) hx hb dX12_readsAll_67 (by decide) (fun _ => ?_) (fun z => absurd (by decide) z)
  refine lv_aload_n hx hb dX12_readsAll_88 rfl (lv_at hl 1 rfl) ?_
  refine lv_iconst (v := 0) hx hb dX12_readsAll_89 (by decide) ?_
  refine va_put (D := D) (ci := 12) (v := .int 0) (ty := .int) (C := RX12) (T := TX12) (N := 37) hx hb hT i_X12 tyX12 tyX12_ok nmX12 hown hK hP hD hS 1 rfl rfl 1 (by decide) (hT _ q_283) (fun _ h9 => h9) rfl (by decide +kernel) rfl rfl (Nat.le_of_ble_eq_true rfl) dX12_readsAll_90 (fun H locs hP hD hS => ?_)
  have hP : va_P D classes [(g 3, .inl (cs 0, 7, .inl f_1)), (g 0, .inr (12, [.ref (g 1), .int 0, .int 0, .ref (g 2), .ref (g 3), .ref (g 4), .ref (g 5), .ref (g 6), .int 0, .int 1, .int 0, .int 6, .int 0, .int 0, .int 0, .ref (g 7), .int 0, .ref (g 8), .int 0, .ref (g 9), .ref (g 10), .int 0, .ref (g 11), .ref (g 12), .ref (g 13), .int 0, .int 0, .ref (g 14), .ref (g 15), .int 0, .int 0, .int 0, .ref (g 16), .long 0, .ref (g 17), .ref (g 18), .ref (g 19)]))] H := hP
  have hD : va_D A [(g 3, .inl (cs 0, 7, .inl f_1)), (g 0, .inr (12, [.ref (g 1), .int 0, .int 0, .ref (g 2), .ref (g 3), .ref (g 4), .ref (g 5), .ref (g 6), .int 0, .int 1, .int 0, .int 6, .int 0, .int 0, .int 0, .ref (g 7), .int 0, .ref (g 8), .int 0, .ref (g 9), .ref (g 10), .int 0, .ref (g 11), .ref (g 12), .ref (g 13), .int 0, .int 0, .ref (g 14), .ref (g 15), .int 0, .int 0, .int 0, .ref (g 16), .long 0, .ref (g 17), .ref (g 18), .ref (g 19)]))] := hD
  refine lv_aload_n hx hb dX12_readsAll_93 rfl (lv_at hl 1 rfl) ?_
  refine va_get (D := D) (ci := 12) (v := .int 1) (C := RX12) (T := TX12) (N := 37) hx hb hT i_X12 hown hK hP 1 rfl rfl 9 (by decide) (hT _ q_310) (fun _ h9 => h9) rfl dX12_readsAll_94 ?_
  refine lv_if_ne (tgt := 104) hx hb dX12_readsAll_97 (by decide) (fun _ => ?_) (fun z => absurd z (by decide))
  refine lv_iconst (v := 0) hx hb dX12_readsAll_104 (by decide) ?_
  exact W.zret (v := 0) hx hb hr rfl (fun t ht hW => ⟨⟨0, (), rfl, rfl, by rw [ht]; exact hP.sub [1] rfl, hD.sub [1] (by decide) rfl⟩, hS.F ht⟩) hS.2.2 dX12_readsAll_105
theorem dX12_fair_0 : decode cX12_fair 0 = .ok (.aload_n 0, 1) := by decide +kernel
theorem dX12_fair_1 : decode cX12_fair 1 = .ok (.bipush 6, 2) := by decide +kernel
theorem dX12_fair_3 : decode cX12_fair 3 = .ok (.putfield 139, 3) := by decide +kernel
theorem dX12_fair_6 : decode cX12_fair 6 = .ok (.iconst 0, 1) := by decide +kernel
theorem dX12_fair_7 : decode cX12_fair 7 = .ok (.istore_n 1, 1) := by decide +kernel
theorem dX12_fair_8 : decode cX12_fair 8 = .ok (.iload_n 1, 1) := by decide +kernel
theorem dX12_fair_9 : decode cX12_fair 9 = .ok (.iconst 5, 1) := by decide +kernel
theorem dX12_fair_10 : decode cX12_fair 10 = .ok (.if_icmp .ge 16, 3) := by decide +kernel
theorem dX12_fair_13 : decode cX12_fair 13 = .ok (.aload_n 0, 1) := by decide +kernel
theorem dX12_fair_14 : decode cX12_fair 14 = .ok (.getfield 26, 3) := by decide +kernel
theorem dX12_fair_17 : decode cX12_fair 17 = .ok (.iload_n 1, 1) := by decide +kernel
theorem dX12_fair_18 : decode cX12_fair 18 = .ok (.iconst 0, 1) := by decide +kernel
theorem dX12_fair_19 : decode cX12_fair 19 = .ok (.iastore, 1) := by decide +kernel
theorem dX12_fair_20 : decode cX12_fair 20 = .ok (.iinc 1 1, 3) := by decide +kernel
theorem dX12_fair_23 : decode cX12_fair 23 = .ok (.goto (-15), 3) := by decide +kernel
theorem dX12_fair_26 : decode cX12_fair 26 = .ok (.iconst 5, 1) := by decide +kernel
theorem dX12_fair_27 : decode cX12_fair 27 = .ok (.istore_n 1, 1) := by decide +kernel
theorem dX12_fair_28 : decode cX12_fair 28 = .ok (.iload_n 1, 1) := by decide +kernel
theorem dX12_fair_29 : decode cX12_fair 29 = .ok (.bipush 9, 2) := by decide +kernel
theorem dX12_fair_31 : decode cX12_fair 31 = .ok (.if_icmp .ge 16, 3) := by decide +kernel
theorem dX12_fair_34 : decode cX12_fair 34 = .ok (.aload_n 0, 1) := by decide +kernel
theorem dX12_fair_35 : decode cX12_fair 35 = .ok (.getfield 26, 3) := by decide +kernel
theorem dX12_fair_38 : decode cX12_fair 38 = .ok (.iload_n 1, 1) := by decide +kernel
theorem dX12_fair_39 : decode cX12_fair 39 = .ok (.iconst (-1), 1) := by decide +kernel
theorem dX12_fair_40 : decode cX12_fair 40 = .ok (.iastore, 1) := by decide +kernel
theorem dX12_fair_41 : decode cX12_fair 41 = .ok (.iinc 1 1, 3) := by decide +kernel
theorem dX12_fair_44 : decode cX12_fair 44 = .ok (.goto (-16), 3) := by decide +kernel
theorem dX12_fair_47 : decode cX12_fair 47 = .ok (.aload_n 0, 1) := by decide +kernel
theorem dX12_fair_48 : decode cX12_fair 48 = .ok (.invokevirtual 271, 3) := by decide +kernel
theorem dX12_fair_51 : decode cX12_fair 51 = .ok (.ifCond .ne 11, 3) := by decide +kernel
theorem dX12_fair_54 : decode cX12_fair 54 = .ok (.bipush (-2), 2) := by decide +kernel
theorem dX12_fair_56 : decode cX12_fair 56 = .ok (.aload_n 0, 1) := by decide +kernel
theorem dX12_fair_57 : decode cX12_fair 57 = .ok (.getfield 78, 3) := by decide +kernel
theorem dX12_fair_60 : decode cX12_fair 60 = .ok (.isub, 1) := by decide +kernel
theorem dX12_fair_61 : decode cX12_fair 61 = .ok (.ireturn, 1) := by decide +kernel
set_option maxHeartbeats 4000000 in
set_option maxRecDepth 100000 in
theorem c_X12_fair (l : Launch) (D : va_G) (cs : Nat → ClassId) (kK kV : Nat → Nat) (g : Nat → Nat) (sz : Nat) : Met l yX12_fair (hz_w yX12_fair cX12_fair 2 (some .int)) ({ frames := 5, cells := 0, slots := 0, locals := 109 }) (va_Pc [.ref (g 0)] (hz_C D cs kK kV sz [(g 0, .inr (12, [.ref (g 1), .int 0, .int 0, .ref (g 2), .ref (g 3), .ref (g 4), .ref (g 5), .ref (g 6), .int 0, .int 0, .int 0, .int 0, .int 0, .int 0, .int 0, .ref (g 7), .int 0, .ref (g 8), .int 0, .ref (g 9), .ref (g 10), .int 0, .ref (g 11), .ref (g 12), .ref (g 13), .int 0, .int 0, .ref (g 14), .ref (g 15), .int 0, .int 0, .int 0, .ref (g 16), .long 0, .ref (g 17), .ref (g 18), .ref (g 19)])), (g 3, .inl (cs 0, 7, .inl (fun _ => 0))), (g 6, .inl (cs 0, 86, .inl (fun _ => 0)))])) (va_Qi (fun (r : Int32) (_ : Unit) => r = -3) (fun _ t => True) (va_A [(g 0, .inr (12, [.ref (g 1), .int 0, .int 0, .ref (g 2), .ref (g 3), .ref (g 4), .ref (g 5), .ref (g 6), .int 0, .int 0, .int 0, .int 0, .int 0, .int 0, .int 0, .ref (g 7), .int 0, .ref (g 8), .int 0, .ref (g 9), .ref (g 10), .int 0, .ref (g 11), .ref (g 12), .ref (g 13), .int 0, .int 0, .ref (g 14), .ref (g 15), .int 0, .int 0, .int 0, .ref (g 16), .long 0, .ref (g 17), .ref (g 18), .ref (g 19)])), (g 3, .inl (cs 0, 7, .inl (fun _ => 0))), (g 6, .inl (cs 0, 86, .inl (fun _ => 0)))] sz)) 0 0 (va_A [(g 0, .inr (12, [.ref (g 1), .int 0, .int 0, .ref (g 2), .ref (g 3), .ref (g 4), .ref (g 5), .ref (g 6), .int 0, .int 0, .int 0, .int 0, .int 0, .int 0, .int 0, .ref (g 7), .int 0, .ref (g 8), .int 0, .ref (g 9), .ref (g 10), .int 0, .ref (g 11), .ref (g 12), .ref (g 13), .int 0, .int 0, .ref (g 14), .ref (g 15), .int 0, .int 0, .int 0, .ref (g 16), .long 0, .ref (g 17), .ref (g 18), .ref (g 19)])), (g 3, .inl (cs 0, 7, .inl (fun _ => 0))), (g 6, .inl (cs 0, 86, .inl (fun _ => 0)))] sz) := by
  refine Met.ofW (cc := cX12_fair) (maxL := 2) (ret := (some .int)) (by decide) rfl ?_
  intro p e s m args below meth c s₁ B hml hv
  obtain ⟨rfl, hsz, hP, hD0, hE⟩ := hv
  have hx := B.exec
  have hb := B.bytes
  have hr := B.returns
  have hT : ∀ w ∈ TB, w.before _ s = true := fun w h => atoms_spec (ws := hz_w yX12_fair cX12_fair 2 (some .int)) B.pre w (List.mem_cons_of_mem _ h)
  have hown : s.vm.findClass RX12 = some m.cls := findClass_of_methodNamed B.named
  have hlocks := B.notSynchronized
  clear B
  subst hsz
  have hD := hD0.self (sz := s.heap.size)
  generalize hAe : va_A [(g 0, .inr (12, [.ref (g 1), .int 0, .int 0, .ref (g 2), .ref (g 3), .ref (g 4), .ref (g 5), .ref (g 6), .int 0, .int 0, .int 0, .int 0, .int 0, .int 0, .int 0, .ref (g 7), .int 0, .ref (g 8), .int 0, .ref (g 9), .ref (g 10), .int 0, .ref (g 11), .ref (g 12), .ref (g 13), .int 0, .int 0, .ref (g 14), .ref (g 15), .int 0, .int 0, .int 0, .ref (g 16), .long 0, .ref (g 17), .ref (g 18), .ref (g 19)])), (g 3, .inl (cs 0, 7, .inl (fun _ => 0))), (g 6, .inl (cs 0, 86, .inl (fun _ => 0)))] s.heap.size = A at hD hE ⊢
  have hA : ∀ q : Nat, s.heap.size ≤ q → A q := fun q h => by rw [← hAe]; exact Or.inr h
  clear hAe hD0
  have hS : va_S A s.heap s.heap [] := va_S.rf
  have hK := hE.1
  have hl := lv_entry ([.ref (g 0)]) (n := 2) (Nat.le_of_ble_eq_true rfl)
  rw [lg_entry_eq]
  generalize (lg_sl ([.ref (g 0)]) ++ List.replicate (2 - (lg_sl ([.ref (g 0)])).length) Slot.unset).toArray = ls at hl ⊢
  have hl : lv_has ls 2 [(0, .ref (g 0))] := hl
  obtain ⟨H, eH⟩ : ∃ z, z = s.heap := ⟨_, rfl⟩
  have hP : va_P D classes [(g 0, .inr (12, [.ref (g 1), .int 0, .int 0, .ref (g 2), .ref (g 3), .ref (g 4), .ref (g 5), .ref (g 6), .int 0, .int 0, .int 0, .int 0, .int 0, .int 0, .int 0, .ref (g 7), .int 0, .ref (g 8), .int 0, .ref (g 9), .ref (g 10), .int 0, .ref (g 11), .ref (g 12), .ref (g 13), .int 0, .int 0, .ref (g 14), .ref (g 15), .int 0, .int 0, .int 0, .ref (g 16), .long 0, .ref (g 17), .ref (g 18), .ref (g 19)])), (g 3, .inl (cs 0, 7, .inl (fun _ => 0))), (g 6, .inl (cs 0, 86, .inl (fun _ => 0)))] H := by rw [eH]; exact hP
  have hS : va_S A s.heap H [] := by rw [eH]; exact hS
  rw [← eH]
  clear eH
  refine lv_aload_n hx hb dX12_fair_0 rfl (lv_at hl 0 rfl) ?_
  refine lv_bipush (v := 6) hx hb dX12_fair_1 (by decide) ?_
  refine va_put (D := D) (ci := 12) (v := .int 6) (ty := .int) (C := RX12) (T := TX12) (N := 37) hx hb hT i_X12 tyX12 tyX12_ok nmX12 hown hK hP hD hS 0 rfl rfl 11 (by decide) (hT _ q_311) (fun _ h9 => h9) rfl (by decide +kernel) rfl rfl (Nat.le_of_ble_eq_true rfl) dX12_fair_3 (fun H locs hP hD hS => ?_)
  have hP : va_P D classes [(g 0, .inr (12, [.ref (g 1), .int 0, .int 0, .ref (g 2), .ref (g 3), .ref (g 4), .ref (g 5), .ref (g 6), .int 0, .int 0, .int 0, .int 6, .int 0, .int 0, .int 0, .ref (g 7), .int 0, .ref (g 8), .int 0, .ref (g 9), .ref (g 10), .int 0, .ref (g 11), .ref (g 12), .ref (g 13), .int 0, .int 0, .ref (g 14), .ref (g 15), .int 0, .int 0, .int 0, .ref (g 16), .long 0, .ref (g 17), .ref (g 18), .ref (g 19)])), (g 3, .inl (cs 0, 7, .inl (fun _ => 0))), (g 6, .inl (cs 0, 86, .inl (fun _ => 0)))] H := hP
  have hD : va_D A [(g 0, .inr (12, [.ref (g 1), .int 0, .int 0, .ref (g 2), .ref (g 3), .ref (g 4), .ref (g 5), .ref (g 6), .int 0, .int 0, .int 0, .int 6, .int 0, .int 0, .int 0, .ref (g 7), .int 0, .ref (g 8), .int 0, .ref (g 9), .ref (g 10), .int 0, .ref (g 11), .ref (g 12), .ref (g 13), .int 0, .int 0, .ref (g 14), .ref (g 15), .int 0, .int 0, .int 0, .ref (g 16), .long 0, .ref (g 17), .ref (g 18), .ref (g 19)])), (g 3, .inl (cs 0, 7, .inl (fun _ => 0))), (g 6, .inl (cs 0, 86, .inl (fun _ => 0)))] := hD
  refine lv_iconst (v := 0) hx hb dX12_fair_6 (by decide) ?_
  refine lv_istore_n (lv' := [(1, .int 0), (0, .ref (g 0))]) hx hb dX12_fair_7 rfl hl (by decide) rfl (fun ls hl => ?_)
  refine lv_iload_n hx hb dX12_fair_8 rfl (lv_at hl 0 rfl) ?_
  refine lv_iconst (v := 5) hx hb dX12_fair_9 (by decide) ?_
  refine lv_icmp_ge (tgt := 26) hx hb dX12_fair_10 (by decide) (fun z => absurd z (by decide)) (fun _ => ?_)
  refine lv_aload_n hx hb dX12_fair_13 rfl (lv_at hl 1 rfl) ?_
  refine va_get (D := D) (ci := 12) (v := .ref (g 6)) (C := RX12) (T := TX12) (N := 37) hx hb hT i_X12 hown hK hP 0 rfl rfl 7 (by decide) (hT _ q_329) (fun _ h9 => h9) rfl dX12_fair_14 ?_
  refine lv_iload_n hx hb dX12_fair_17 rfl (lv_at hl 0 rfl) ?_
  refine lv_iconst (v := 0) hx hb dX12_fair_18 (by decide) ?_
  refine va_iast hx hb hK hP hD hS 2 0 rfl rfl (by unfold vp_in; decide) dX12_fair_19 (fun H locs hP hD hS => ?_)
  have hP : va_P D classes [(g 0, .inr (12, [.ref (g 1), .int 0, .int 0, .ref (g 2), .ref (g 3), .ref (g 4), .ref (g 5), .ref (g 6), .int 0, .int 0, .int 0, .int 6, .int 0, .int 0, .int 0, .ref (g 7), .int 0, .ref (g 8), .int 0, .ref (g 9), .ref (g 10), .int 0, .ref (g 11), .ref (g 12), .ref (g 13), .int 0, .int 0, .ref (g 14), .ref (g 15), .int 0, .int 0, .int 0, .ref (g 16), .long 0, .ref (g 17), .ref (g 18), .ref (g 19)])), (g 3, .inl (cs 0, 7, .inl (fun _ => 0))), (g 6, .inl (cs 0, 86, .inl (upd (fun _ => 0) (Int32.toNatClampNeg (0 : Int32)) (0 : Int32))))] H := hP
  have hD : va_D A [(g 0, .inr (12, [.ref (g 1), .int 0, .int 0, .ref (g 2), .ref (g 3), .ref (g 4), .ref (g 5), .ref (g 6), .int 0, .int 0, .int 0, .int 6, .int 0, .int 0, .int 0, .ref (g 7), .int 0, .ref (g 8), .int 0, .ref (g 9), .ref (g 10), .int 0, .ref (g 11), .ref (g 12), .ref (g 13), .int 0, .int 0, .ref (g 14), .ref (g 15), .int 0, .int 0, .int 0, .ref (g 16), .long 0, .ref (g 17), .ref (g 18), .ref (g 19)])), (g 3, .inl (cs 0, 7, .inl (fun _ => 0))), (g 6, .inl (cs 0, 86, .inl (upd (fun _ => 0) (Int32.toNatClampNeg (0 : Int32)) (0 : Int32))))] := hD
  generalize upd (fun _ => 0) (Int32.toNatClampNeg (0 : Int32)) (0 : Int32) = f_1 at hP hD
  refine lv_iinc (v := 1) (lv' := [(1, .int 1), (0, .ref (g 0))]) hx hb dX12_fair_20 hl (k := 0) rfl (by decide) (by decide) rfl (fun ls hl => ?_)
  refine lv_goto (tgt := 8) hx hb dX12_fair_23 (by decide) ?_
  refine lv_iload_n hx hb dX12_fair_8 rfl (lv_at hl 0 rfl) ?_
  refine lv_iconst (v := 5) hx hb dX12_fair_9 (by decide) ?_
  refine lv_icmp_ge (tgt := 26) hx hb dX12_fair_10 (by decide) (fun z => absurd z (by decide)) (fun _ => ?_)
  refine lv_aload_n hx hb dX12_fair_13 rfl (lv_at hl 1 rfl) ?_
  refine va_get (D := D) (ci := 12) (v := .ref (g 6)) (C := RX12) (T := TX12) (N := 37) hx hb hT i_X12 hown hK hP 0 rfl rfl 7 (by decide) (hT _ q_329) (fun _ h9 => h9) rfl dX12_fair_14 ?_
  refine lv_iload_n hx hb dX12_fair_17 rfl (lv_at hl 0 rfl) ?_
  refine lv_iconst (v := 0) hx hb dX12_fair_18 (by decide) ?_
  refine va_iast hx hb hK hP hD hS 2 0 rfl rfl (by unfold vp_in; decide) dX12_fair_19 (fun H locs hP hD hS => ?_)
  have hP : va_P D classes [(g 0, .inr (12, [.ref (g 1), .int 0, .int 0, .ref (g 2), .ref (g 3), .ref (g 4), .ref (g 5), .ref (g 6), .int 0, .int 0, .int 0, .int 6, .int 0, .int 0, .int 0, .ref (g 7), .int 0, .ref (g 8), .int 0, .ref (g 9), .ref (g 10), .int 0, .ref (g 11), .ref (g 12), .ref (g 13), .int 0, .int 0, .ref (g 14), .ref (g 15), .int 0, .int 0, .int 0, .ref (g 16), .long 0, .ref (g 17), .ref (g 18), .ref (g 19)])), (g 3, .inl (cs 0, 7, .inl (fun _ => 0))), (g 6, .inl (cs 0, 86, .inl (upd f_1 (Int32.toNatClampNeg (1 : Int32)) (0 : Int32))))] H := hP
  have hD : va_D A [(g 0, .inr (12, [.ref (g 1), .int 0, .int 0, .ref (g 2), .ref (g 3), .ref (g 4), .ref (g 5), .ref (g 6), .int 0, .int 0, .int 0, .int 6, .int 0, .int 0, .int 0, .ref (g 7), .int 0, .ref (g 8), .int 0, .ref (g 9), .ref (g 10), .int 0, .ref (g 11), .ref (g 12), .ref (g 13), .int 0, .int 0, .ref (g 14), .ref (g 15), .int 0, .int 0, .int 0, .ref (g 16), .long 0, .ref (g 17), .ref (g 18), .ref (g 19)])), (g 3, .inl (cs 0, 7, .inl (fun _ => 0))), (g 6, .inl (cs 0, 86, .inl (upd f_1 (Int32.toNatClampNeg (1 : Int32)) (0 : Int32))))] := hD
  generalize upd f_1 (Int32.toNatClampNeg (1 : Int32)) (0 : Int32) = f_2 at hP hD
  refine lv_iinc (v := 2) (lv' := [(1, .int 2), (0, .ref (g 0))]) hx hb dX12_fair_20 hl (k := 0) rfl (by decide) (by decide) rfl (fun ls hl => ?_)
  refine lv_goto (tgt := 8) hx hb dX12_fair_23 (by decide) ?_
  refine lv_iload_n hx hb dX12_fair_8 rfl (lv_at hl 0 rfl) ?_
  refine lv_iconst (v := 5) hx hb dX12_fair_9 (by decide) ?_
  refine lv_icmp_ge (tgt := 26) hx hb dX12_fair_10 (by decide) (fun z => absurd z (by decide)) (fun _ => ?_)
  refine lv_aload_n hx hb dX12_fair_13 rfl (lv_at hl 1 rfl) ?_
  refine va_get (D := D) (ci := 12) (v := .ref (g 6)) (C := RX12) (T := TX12) (N := 37) hx hb hT i_X12 hown hK hP 0 rfl rfl 7 (by decide) (hT _ q_329) (fun _ h9 => h9) rfl dX12_fair_14 ?_
  refine lv_iload_n hx hb dX12_fair_17 rfl (lv_at hl 0 rfl) ?_
  refine lv_iconst (v := 0) hx hb dX12_fair_18 (by decide) ?_
  refine va_iast hx hb hK hP hD hS 2 0 rfl rfl (by unfold vp_in; decide) dX12_fair_19 (fun H locs hP hD hS => ?_)
  have hP : va_P D classes [(g 0, .inr (12, [.ref (g 1), .int 0, .int 0, .ref (g 2), .ref (g 3), .ref (g 4), .ref (g 5), .ref (g 6), .int 0, .int 0, .int 0, .int 6, .int 0, .int 0, .int 0, .ref (g 7), .int 0, .ref (g 8), .int 0, .ref (g 9), .ref (g 10), .int 0, .ref (g 11), .ref (g 12), .ref (g 13), .int 0, .int 0, .ref (g 14), .ref (g 15), .int 0, .int 0, .int 0, .ref (g 16), .long 0, .ref (g 17), .ref (g 18), .ref (g 19)])), (g 3, .inl (cs 0, 7, .inl (fun _ => 0))), (g 6, .inl (cs 0, 86, .inl (upd f_2 (Int32.toNatClampNeg (2 : Int32)) (0 : Int32))))] H := hP
  have hD : va_D A [(g 0, .inr (12, [.ref (g 1), .int 0, .int 0, .ref (g 2), .ref (g 3), .ref (g 4), .ref (g 5), .ref (g 6), .int 0, .int 0, .int 0, .int 6, .int 0, .int 0, .int 0, .ref (g 7), .int 0, .ref (g 8), .int 0, .ref (g 9), .ref (g 10), .int 0, .ref (g 11), .ref (g 12), .ref (g 13), .int 0, .int 0, .ref (g 14), .ref (g 15), .int 0, .int 0, .int 0, .ref (g 16), .long 0, .ref (g 17), .ref (g 18), .ref (g 19)])), (g 3, .inl (cs 0, 7, .inl (fun _ => 0))), (g 6, .inl (cs 0, 86, .inl (upd f_2 (Int32.toNatClampNeg (2 : Int32)) (0 : Int32))))] := hD
  generalize upd f_2 (Int32.toNatClampNeg (2 : Int32)) (0 : Int32) = f_3 at hP hD
  refine lv_iinc (v := 3) (lv' := [(1, .int 3), (0, .ref (g 0))]) hx hb dX12_fair_20 hl (k := 0) rfl (by decide) (by decide) rfl (fun ls hl => ?_)
  refine lv_goto (tgt := 8) hx hb dX12_fair_23 (by decide) ?_
  refine lv_iload_n hx hb dX12_fair_8 rfl (lv_at hl 0 rfl) ?_
  refine lv_iconst (v := 5) hx hb dX12_fair_9 (by decide) ?_
  refine lv_icmp_ge (tgt := 26) hx hb dX12_fair_10 (by decide) (fun z => absurd z (by decide)) (fun _ => ?_)
  refine lv_aload_n hx hb dX12_fair_13 rfl (lv_at hl 1 rfl) ?_
  refine va_get (D := D) (ci := 12) (v := .ref (g 6)) (C := RX12) (T := TX12) (N := 37) hx hb hT i_X12 hown hK hP 0 rfl rfl 7 (by decide) (hT _ q_329) (fun _ h9 => h9) rfl dX12_fair_14 ?_
  refine lv_iload_n hx hb dX12_fair_17 rfl (lv_at hl 0 rfl) ?_
  refine lv_iconst (v := 0) hx hb dX12_fair_18 (by decide) ?_
  refine va_iast hx hb hK hP hD hS 2 0 rfl rfl (by unfold vp_in; decide) dX12_fair_19 (fun H locs hP hD hS => ?_)
  have hP : va_P D classes [(g 0, .inr (12, [.ref (g 1), .int 0, .int 0, .ref (g 2), .ref (g 3), .ref (g 4), .ref (g 5), .ref (g 6), .int 0, .int 0, .int 0, .int 6, .int 0, .int 0, .int 0, .ref (g 7), .int 0, .ref (g 8), .int 0, .ref (g 9), .ref (g 10), .int 0, .ref (g 11), .ref (g 12), .ref (g 13), .int 0, .int 0, .ref (g 14), .ref (g 15), .int 0, .int 0, .int 0, .ref (g 16), .long 0, .ref (g 17), .ref (g 18), .ref (g 19)])), (g 3, .inl (cs 0, 7, .inl (fun _ => 0))), (g 6, .inl (cs 0, 86, .inl (upd f_3 (Int32.toNatClampNeg (3 : Int32)) (0 : Int32))))] H := hP
  have hD : va_D A [(g 0, .inr (12, [.ref (g 1), .int 0, .int 0, .ref (g 2), .ref (g 3), .ref (g 4), .ref (g 5), .ref (g 6), .int 0, .int 0, .int 0, .int 6, .int 0, .int 0, .int 0, .ref (g 7), .int 0, .ref (g 8), .int 0, .ref (g 9), .ref (g 10), .int 0, .ref (g 11), .ref (g 12), .ref (g 13), .int 0, .int 0, .ref (g 14), .ref (g 15), .int 0, .int 0, .int 0, .ref (g 16), .long 0, .ref (g 17), .ref (g 18), .ref (g 19)])), (g 3, .inl (cs 0, 7, .inl (fun _ => 0))), (g 6, .inl (cs 0, 86, .inl (upd f_3 (Int32.toNatClampNeg (3 : Int32)) (0 : Int32))))] := hD
  generalize upd f_3 (Int32.toNatClampNeg (3 : Int32)) (0 : Int32) = f_4 at hP hD
  refine lv_iinc (v := 4) (lv' := [(1, .int 4), (0, .ref (g 0))]) hx hb dX12_fair_20 hl (k := 0) rfl (by decide) (by decide) rfl (fun ls hl => ?_)
  refine lv_goto (tgt := 8) hx hb dX12_fair_23 (by decide) ?_
  refine lv_iload_n hx hb dX12_fair_8 rfl (lv_at hl 0 rfl) ?_
  refine lv_iconst (v := 5) hx hb dX12_fair_9 (by decide) ?_
  refine lv_icmp_ge (tgt := 26) hx hb dX12_fair_10 (by decide) (fun z => absurd z (by decide)) (fun _ => ?_)
  refine lv_aload_n hx hb dX12_fair_13 rfl (lv_at hl 1 rfl) ?_
  refine va_get (D := D) (ci := 12) (v := .ref (g 6)) (C := RX12) (T := TX12) (N := 37) hx hb hT i_X12 hown hK hP 0 rfl rfl 7 (by decide) (hT _ q_329) (fun _ h9 => h9) rfl dX12_fair_14 ?_
  refine lv_iload_n hx hb dX12_fair_17 rfl (lv_at hl 0 rfl) ?_
  refine lv_iconst (v := 0) hx hb dX12_fair_18 (by decide) ?_
  refine va_iast hx hb hK hP hD hS 2 0 rfl rfl (by unfold vp_in; decide) dX12_fair_19 (fun H locs hP hD hS => ?_)
  have hP : va_P D classes [(g 0, .inr (12, [.ref (g 1), .int 0, .int 0, .ref (g 2), .ref (g 3), .ref (g 4), .ref (g 5), .ref (g 6), .int 0, .int 0, .int 0, .int 6, .int 0, .int 0, .int 0, .ref (g 7), .int 0, .ref (g 8), .int 0, .ref (g 9), .ref (g 10), .int 0, .ref (g 11), .ref (g 12), .ref (g 13), .int 0, .int 0, .ref (g 14), .ref (g 15), .int 0, .int 0, .int 0, .ref (g 16), .long 0, .ref (g 17), .ref (g 18), .ref (g 19)])), (g 3, .inl (cs 0, 7, .inl (fun _ => 0))), (g 6, .inl (cs 0, 86, .inl (upd f_4 (Int32.toNatClampNeg (4 : Int32)) (0 : Int32))))] H := hP
  have hD : va_D A [(g 0, .inr (12, [.ref (g 1), .int 0, .int 0, .ref (g 2), .ref (g 3), .ref (g 4), .ref (g 5), .ref (g 6), .int 0, .int 0, .int 0, .int 6, .int 0, .int 0, .int 0, .ref (g 7), .int 0, .ref (g 8), .int 0, .ref (g 9), .ref (g 10), .int 0, .ref (g 11), .ref (g 12), .ref (g 13), .int 0, .int 0, .ref (g 14), .ref (g 15), .int 0, .int 0, .int 0, .ref (g 16), .long 0, .ref (g 17), .ref (g 18), .ref (g 19)])), (g 3, .inl (cs 0, 7, .inl (fun _ => 0))), (g 6, .inl (cs 0, 86, .inl (upd f_4 (Int32.toNatClampNeg (4 : Int32)) (0 : Int32))))] := hD
  generalize upd f_4 (Int32.toNatClampNeg (4 : Int32)) (0 : Int32) = f_5 at hP hD
  refine lv_iinc (v := 5) (lv' := [(1, .int 5), (0, .ref (g 0))]) hx hb dX12_fair_20 hl (k := 0) rfl (by decide) (by decide) rfl (fun ls hl => ?_)
  refine lv_goto (tgt := 8) hx hb dX12_fair_23 (by decide) ?_
  refine lv_iload_n hx hb dX12_fair_8 rfl (lv_at hl 0 rfl) ?_
  refine lv_iconst (v := 5) hx hb dX12_fair_9 (by decide) ?_
  refine lv_icmp_ge (tgt := 26) hx hb dX12_fair_10 (by decide) (fun _ => ?_) (fun z => absurd (by decide) z)
  refine lv_iconst (v := 5) hx hb dX12_fair_26 (by decide) ?_
  refine lv_istore_n (lv' := [(1, .int 5), (0, .ref (g 0))]) hx hb dX12_fair_27 rfl hl (by decide) rfl (fun ls hl => ?_)
  refine lv_iload_n hx hb dX12_fair_28 rfl (lv_at hl 0 rfl) ?_
  refine lv_bipush (v := 9) hx hb dX12_fair_29 (by decide) ?_
  refine lv_icmp_ge (tgt := 47) hx hb dX12_fair_31 (by decide) (fun z => absurd z (by decide)) (fun _ => ?_)
  refine lv_aload_n hx hb dX12_fair_34 rfl (lv_at hl 1 rfl) ?_
  refine va_get (D := D) (ci := 12) (v := .ref (g 6)) (C := RX12) (T := TX12) (N := 37) hx hb hT i_X12 hown hK hP 0 rfl rfl 7 (by decide) (hT _ q_329) (fun _ h9 => h9) rfl dX12_fair_35 ?_
  refine lv_iload_n hx hb dX12_fair_38 rfl (lv_at hl 0 rfl) ?_
  refine lv_iconst (v := -1) hx hb dX12_fair_39 (by decide) ?_
  refine va_iast hx hb hK hP hD hS 2 0 rfl rfl (by unfold vp_in; decide) dX12_fair_40 (fun H locs hP hD hS => ?_)
  have hP : va_P D classes [(g 0, .inr (12, [.ref (g 1), .int 0, .int 0, .ref (g 2), .ref (g 3), .ref (g 4), .ref (g 5), .ref (g 6), .int 0, .int 0, .int 0, .int 6, .int 0, .int 0, .int 0, .ref (g 7), .int 0, .ref (g 8), .int 0, .ref (g 9), .ref (g 10), .int 0, .ref (g 11), .ref (g 12), .ref (g 13), .int 0, .int 0, .ref (g 14), .ref (g 15), .int 0, .int 0, .int 0, .ref (g 16), .long 0, .ref (g 17), .ref (g 18), .ref (g 19)])), (g 3, .inl (cs 0, 7, .inl (fun _ => 0))), (g 6, .inl (cs 0, 86, .inl (upd f_5 (Int32.toNatClampNeg (5 : Int32)) (-1 : Int32))))] H := hP
  have hD : va_D A [(g 0, .inr (12, [.ref (g 1), .int 0, .int 0, .ref (g 2), .ref (g 3), .ref (g 4), .ref (g 5), .ref (g 6), .int 0, .int 0, .int 0, .int 6, .int 0, .int 0, .int 0, .ref (g 7), .int 0, .ref (g 8), .int 0, .ref (g 9), .ref (g 10), .int 0, .ref (g 11), .ref (g 12), .ref (g 13), .int 0, .int 0, .ref (g 14), .ref (g 15), .int 0, .int 0, .int 0, .ref (g 16), .long 0, .ref (g 17), .ref (g 18), .ref (g 19)])), (g 3, .inl (cs 0, 7, .inl (fun _ => 0))), (g 6, .inl (cs 0, 86, .inl (upd f_5 (Int32.toNatClampNeg (5 : Int32)) (-1 : Int32))))] := hD
  generalize upd f_5 (Int32.toNatClampNeg (5 : Int32)) (-1 : Int32) = f_6 at hP hD
  refine lv_iinc (v := 6) (lv' := [(1, .int 6), (0, .ref (g 0))]) hx hb dX12_fair_41 hl (k := 0) rfl (by decide) (by decide) rfl (fun ls hl => ?_)
  refine lv_goto (tgt := 28) hx hb dX12_fair_44 (by decide) ?_
  refine lv_iload_n hx hb dX12_fair_28 rfl (lv_at hl 0 rfl) ?_
  refine lv_bipush (v := 9) hx hb dX12_fair_29 (by decide) ?_
  refine lv_icmp_ge (tgt := 47) hx hb dX12_fair_31 (by decide) (fun z => absurd z (by decide)) (fun _ => ?_)
  refine lv_aload_n hx hb dX12_fair_34 rfl (lv_at hl 1 rfl) ?_
  refine va_get (D := D) (ci := 12) (v := .ref (g 6)) (C := RX12) (T := TX12) (N := 37) hx hb hT i_X12 hown hK hP 0 rfl rfl 7 (by decide) (hT _ q_329) (fun _ h9 => h9) rfl dX12_fair_35 ?_
  refine lv_iload_n hx hb dX12_fair_38 rfl (lv_at hl 0 rfl) ?_
  refine lv_iconst (v := -1) hx hb dX12_fair_39 (by decide) ?_
  refine va_iast hx hb hK hP hD hS 2 0 rfl rfl (by unfold vp_in; decide) dX12_fair_40 (fun H locs hP hD hS => ?_)
  have hP : va_P D classes [(g 0, .inr (12, [.ref (g 1), .int 0, .int 0, .ref (g 2), .ref (g 3), .ref (g 4), .ref (g 5), .ref (g 6), .int 0, .int 0, .int 0, .int 6, .int 0, .int 0, .int 0, .ref (g 7), .int 0, .ref (g 8), .int 0, .ref (g 9), .ref (g 10), .int 0, .ref (g 11), .ref (g 12), .ref (g 13), .int 0, .int 0, .ref (g 14), .ref (g 15), .int 0, .int 0, .int 0, .ref (g 16), .long 0, .ref (g 17), .ref (g 18), .ref (g 19)])), (g 3, .inl (cs 0, 7, .inl (fun _ => 0))), (g 6, .inl (cs 0, 86, .inl (upd f_6 (Int32.toNatClampNeg (6 : Int32)) (-1 : Int32))))] H := hP
  have hD : va_D A [(g 0, .inr (12, [.ref (g 1), .int 0, .int 0, .ref (g 2), .ref (g 3), .ref (g 4), .ref (g 5), .ref (g 6), .int 0, .int 0, .int 0, .int 6, .int 0, .int 0, .int 0, .ref (g 7), .int 0, .ref (g 8), .int 0, .ref (g 9), .ref (g 10), .int 0, .ref (g 11), .ref (g 12), .ref (g 13), .int 0, .int 0, .ref (g 14), .ref (g 15), .int 0, .int 0, .int 0, .ref (g 16), .long 0, .ref (g 17), .ref (g 18), .ref (g 19)])), (g 3, .inl (cs 0, 7, .inl (fun _ => 0))), (g 6, .inl (cs 0, 86, .inl (upd f_6 (Int32.toNatClampNeg (6 : Int32)) (-1 : Int32))))] := hD
  generalize upd f_6 (Int32.toNatClampNeg (6 : Int32)) (-1 : Int32) = f_7 at hP hD
  refine lv_iinc (v := 7) (lv' := [(1, .int 7), (0, .ref (g 0))]) hx hb dX12_fair_41 hl (k := 0) rfl (by decide) (by decide) rfl (fun ls hl => ?_)
  refine lv_goto (tgt := 28) hx hb dX12_fair_44 (by decide) ?_
  refine lv_iload_n hx hb dX12_fair_28 rfl (lv_at hl 0 rfl) ?_
  refine lv_bipush (v := 9) hx hb dX12_fair_29 (by decide) ?_
  refine lv_icmp_ge (tgt := 47) hx hb dX12_fair_31 (by decide) (fun z => absurd z (by decide)) (fun _ => ?_)
  refine lv_aload_n hx hb dX12_fair_34 rfl (lv_at hl 1 rfl) ?_
  refine va_get (D := D) (ci := 12) (v := .ref (g 6)) (C := RX12) (T := TX12) (N := 37) hx hb hT i_X12 hown hK hP 0 rfl rfl 7 (by decide) (hT _ q_329) (fun _ h9 => h9) rfl dX12_fair_35 ?_
  refine lv_iload_n hx hb dX12_fair_38 rfl (lv_at hl 0 rfl) ?_
  refine lv_iconst (v := -1) hx hb dX12_fair_39 (by decide) ?_
  refine va_iast hx hb hK hP hD hS 2 0 rfl rfl (by unfold vp_in; decide) dX12_fair_40 (fun H locs hP hD hS => ?_)
  have hP : va_P D classes [(g 0, .inr (12, [.ref (g 1), .int 0, .int 0, .ref (g 2), .ref (g 3), .ref (g 4), .ref (g 5), .ref (g 6), .int 0, .int 0, .int 0, .int 6, .int 0, .int 0, .int 0, .ref (g 7), .int 0, .ref (g 8), .int 0, .ref (g 9), .ref (g 10), .int 0, .ref (g 11), .ref (g 12), .ref (g 13), .int 0, .int 0, .ref (g 14), .ref (g 15), .int 0, .int 0, .int 0, .ref (g 16), .long 0, .ref (g 17), .ref (g 18), .ref (g 19)])), (g 3, .inl (cs 0, 7, .inl (fun _ => 0))), (g 6, .inl (cs 0, 86, .inl (upd f_7 (Int32.toNatClampNeg (7 : Int32)) (-1 : Int32))))] H := hP
  have hD : va_D A [(g 0, .inr (12, [.ref (g 1), .int 0, .int 0, .ref (g 2), .ref (g 3), .ref (g 4), .ref (g 5), .ref (g 6), .int 0, .int 0, .int 0, .int 6, .int 0, .int 0, .int 0, .ref (g 7), .int 0, .ref (g 8), .int 0, .ref (g 9), .ref (g 10), .int 0, .ref (g 11), .ref (g 12), .ref (g 13), .int 0, .int 0, .ref (g 14), .ref (g 15), .int 0, .int 0, .int 0, .ref (g 16), .long 0, .ref (g 17), .ref (g 18), .ref (g 19)])), (g 3, .inl (cs 0, 7, .inl (fun _ => 0))), (g 6, .inl (cs 0, 86, .inl (upd f_7 (Int32.toNatClampNeg (7 : Int32)) (-1 : Int32))))] := hD
  generalize upd f_7 (Int32.toNatClampNeg (7 : Int32)) (-1 : Int32) = f_8 at hP hD
  refine lv_iinc (v := 8) (lv' := [(1, .int 8), (0, .ref (g 0))]) hx hb dX12_fair_41 hl (k := 0) rfl (by decide) (by decide) rfl (fun ls hl => ?_)
  refine lv_goto (tgt := 28) hx hb dX12_fair_44 (by decide) ?_
  refine lv_iload_n hx hb dX12_fair_28 rfl (lv_at hl 0 rfl) ?_
  refine lv_bipush (v := 9) hx hb dX12_fair_29 (by decide) ?_
  refine lv_icmp_ge (tgt := 47) hx hb dX12_fair_31 (by decide) (fun z => absurd z (by decide)) (fun _ => ?_)
  refine lv_aload_n hx hb dX12_fair_34 rfl (lv_at hl 1 rfl) ?_
  refine va_get (D := D) (ci := 12) (v := .ref (g 6)) (C := RX12) (T := TX12) (N := 37) hx hb hT i_X12 hown hK hP 0 rfl rfl 7 (by decide) (hT _ q_329) (fun _ h9 => h9) rfl dX12_fair_35 ?_
  refine lv_iload_n hx hb dX12_fair_38 rfl (lv_at hl 0 rfl) ?_
  refine lv_iconst (v := -1) hx hb dX12_fair_39 (by decide) ?_
  refine va_iast hx hb hK hP hD hS 2 0 rfl rfl (by unfold vp_in; decide) dX12_fair_40 (fun H locs hP hD hS => ?_)
  have hP : va_P D classes [(g 0, .inr (12, [.ref (g 1), .int 0, .int 0, .ref (g 2), .ref (g 3), .ref (g 4), .ref (g 5), .ref (g 6), .int 0, .int 0, .int 0, .int 6, .int 0, .int 0, .int 0, .ref (g 7), .int 0, .ref (g 8), .int 0, .ref (g 9), .ref (g 10), .int 0, .ref (g 11), .ref (g 12), .ref (g 13), .int 0, .int 0, .ref (g 14), .ref (g 15), .int 0, .int 0, .int 0, .ref (g 16), .long 0, .ref (g 17), .ref (g 18), .ref (g 19)])), (g 3, .inl (cs 0, 7, .inl (fun _ => 0))), (g 6, .inl (cs 0, 86, .inl (upd f_8 (Int32.toNatClampNeg (8 : Int32)) (-1 : Int32))))] H := hP
  have hD : va_D A [(g 0, .inr (12, [.ref (g 1), .int 0, .int 0, .ref (g 2), .ref (g 3), .ref (g 4), .ref (g 5), .ref (g 6), .int 0, .int 0, .int 0, .int 6, .int 0, .int 0, .int 0, .ref (g 7), .int 0, .ref (g 8), .int 0, .ref (g 9), .ref (g 10), .int 0, .ref (g 11), .ref (g 12), .ref (g 13), .int 0, .int 0, .ref (g 14), .ref (g 15), .int 0, .int 0, .int 0, .ref (g 16), .long 0, .ref (g 17), .ref (g 18), .ref (g 19)])), (g 3, .inl (cs 0, 7, .inl (fun _ => 0))), (g 6, .inl (cs 0, 86, .inl (upd f_8 (Int32.toNatClampNeg (8 : Int32)) (-1 : Int32))))] := hD
  generalize upd f_8 (Int32.toNatClampNeg (8 : Int32)) (-1 : Int32) = f_9 at hP hD
  refine lv_iinc (v := 9) (lv' := [(1, .int 9), (0, .ref (g 0))]) hx hb dX12_fair_41 hl (k := 0) rfl (by decide) (by decide) rfl (fun ls hl => ?_)
  refine lv_goto (tgt := 28) hx hb dX12_fair_44 (by decide) ?_
  refine lv_iload_n hx hb dX12_fair_28 rfl (lv_at hl 0 rfl) ?_
  refine lv_bipush (v := 9) hx hb dX12_fair_29 (by decide) ?_
  refine lv_icmp_ge (tgt := 47) hx hb dX12_fair_31 (by decide) (fun _ => ?_) (fun z => absurd (by decide) z)
  refine lv_aload_n hx hb dX12_fair_47 rfl (lv_at hl 1 rfl) ?_
  have hFc := va_free (wc := [(g 0, .inr (12, [.ref (g 1), .int 0, .int 0, .ref (g 2), .ref (g 3), .ref (g 4), .ref (g 5), .ref (g 6), .int 0, .int 0, .int 0, .int 6, .int 0, .int 0, .int 0, .ref (g 7), .int 0, .ref (g 8), .int 0, .ref (g 9), .ref (g 10), .int 0, .ref (g 11), .ref (g 12), .ref (g 13), .int 0, .int 0, .ref (g 14), .ref (g 15), .int 0, .int 0, .int 0, .ref (g 16), .long 0, .ref (g 17), .ref (g 18), .ref (g 19)])), (g 3, .inl (cs 0, 7, .inl (fun _ => 0)))]) hD hS hA [0,1] rfl
  refine va_calli (va_runV (As := []) (rest := []) ⟨hx, hb, hml, hown, hT⟩ (c_X12_reads6 l D cs kK kV g H.size) (cwV 0 hT (hz_gV q_330 q_331 q_332 q_252 q_333) rfl rfl rfl (by decide +kernel) ⟨(Nat.le_of_ble_eq_true rfl), (Nat.le_of_ble_eq_true rfl)⟩) ⟨hz_C.blind, va_recv hK hP (ci := 12) (q0 := 0) rfl rfl, hz_C.mk (hP.sub (ws' := [(g 0, .inr (12, [.ref (g 1), .int 0, .int 0, .ref (g 2), .ref (g 3), .ref (g 4), .ref (g 5), .ref (g 6), .int 0, .int 0, .int 0, .int 6, .int 0, .int 0, .int 0, .ref (g 7), .int 0, .ref (g 8), .int 0, .ref (g 9), .ref (g 10), .int 0, .ref (g 11), .ref (g 12), .ref (g 13), .int 0, .int 0, .ref (g 14), .ref (g 15), .int 0, .int 0, .int 0, .ref (g 16), .long 0, .ref (g 17), .ref (g 18), .ref (g 19)])), (g 3, .inl (cs 0, 7, .inl (fun _ => 0)))]) [0,1] rfl) (hD.sub (ws' := [(g 0, .inr (12, [.ref (g 1), .int 0, .int 0, .ref (g 2), .ref (g 3), .ref (g 4), .ref (g 5), .ref (g 6), .int 0, .int 0, .int 0, .int 6, .int 0, .int 0, .int 0, .ref (g 7), .int 0, .ref (g 8), .int 0, .ref (g 9), .ref (g 10), .int 0, .ref (g 11), .ref (g 12), .ref (g 13), .int 0, .int 0, .ref (g 14), .ref (g 15), .int 0, .int 0, .int 0, .ref (g 16), .long 0, .ref (g 17), .ref (g 18), .ref (g 19)])), (g 3, .inl (cs 0, 7, .inl (fun _ => 0)))]) [0,1] (by decide) rfl) hE hS hFc⟩ rfl rfl hl.1 rfl (lv_room (Nat.le_of_ble_eq_true rfl)) dX12_fair_48 ⟨(Nat.le_of_ble_eq_true rfl), (Nat.le_of_ble_eq_true rfl)⟩) hS (fun q _ h => hFc q h) hFc (fun r_10 u t H1 locs ht hvm hw hB hz1 hk1 hS => ?_)
  obtain ⟨hP1, hD1⟩ := hB
  rw [ht] at hP1
  obtain ⟨hP, hD⟩ := va_join (wr := [(g 6, .inl (cs 0, 86, .inl f_9))]) (w1 := [(g 0, .inr (12, [.ref (g 1), .int 0, .int 0, .ref (g 2), .ref (g 3), .ref (g 4), .ref (g 5), .ref (g 6), .int 0, .int 1, .int 0, .int 6, .int 0, .int 0, .int 0, .ref (g 7), .int 0, .ref (g 8), .int 0, .ref (g 9), .ref (g 10), .int 0, .ref (g 11), .ref (g 12), .ref (g 13), .int 0, .int 0, .ref (g 14), .ref (g 15), .int 0, .int 0, .int 0, .ref (g 16), .long 0, .ref (g 17), .ref (g 18), .ref (g 19)]))]) hP hD [0, 1] [2] rfl rfl (by decide) (by decide) hk1 hFc hP1 hD1
  generalize H1 = H at hP hS ⊢
  have hP : va_P D classes [(g 6, .inl (cs 0, 86, .inl f_9)), (g 0, .inr (12, [.ref (g 1), .int 0, .int 0, .ref (g 2), .ref (g 3), .ref (g 4), .ref (g 5), .ref (g 6), .int 0, .int 1, .int 0, .int 6, .int 0, .int 0, .int 0, .ref (g 7), .int 0, .ref (g 8), .int 0, .ref (g 9), .ref (g 10), .int 0, .ref (g 11), .ref (g 12), .ref (g 13), .int 0, .int 0, .ref (g 14), .ref (g 15), .int 0, .int 0, .int 0, .ref (g 16), .long 0, .ref (g 17), .ref (g 18), .ref (g 19)]))] H := hP
  have hD : va_D A [(g 6, .inl (cs 0, 86, .inl f_9)), (g 0, .inr (12, [.ref (g 1), .int 0, .int 0, .ref (g 2), .ref (g 3), .ref (g 4), .ref (g 5), .ref (g 6), .int 0, .int 1, .int 0, .int 6, .int 0, .int 0, .int 0, .ref (g 7), .int 0, .ref (g 8), .int 0, .ref (g 9), .ref (g 10), .int 0, .ref (g 11), .ref (g 12), .ref (g 13), .int 0, .int 0, .ref (g 14), .ref (g 15), .int 0, .int 0, .int 0, .ref (g 16), .long 0, .ref (g 17), .ref (g 18), .ref (g 19)]))] := hD
  clear hk1 hFc hP1 hD1 hz1
  subst hw
  refine lv_if_ne (tgt := 62) hx hb dX12_fair_51 (by decide) (fun z => absurd (by decide) z) (fun _ => ?_)
  refine lv_bipush (v := -2) hx hb dX12_fair_54 (by decide) ?_
  refine lv_aload_n hx hb dX12_fair_56 rfl (lv_at hl 1 rfl) ?_
  refine va_get (D := D) (ci := 12) (v := .int 1) (C := RX12) (T := TX12) (N := 37) hx hb hT i_X12 hown hK hP 1 rfl rfl 9 (by decide) (hT _ q_310) (fun _ h9 => h9) rfl dX12_fair_57 ?_
  refine lv_isub hx hb dX12_fair_60 ?_
  refine hz_ev (-3) (by decide) ?_
  exact W.iret (v := -3) hx hb hr (fun t ht hW => ⟨⟨-3, (), rfl, rfl, trivial⟩, hS.F ht⟩) hS.2.2 dX12_fair_61
theorem dX12_rule_0 : decode cX12_rule 0 = .ok (.aload_n 0, 1) := by decide +kernel
theorem dX12_rule_1 : decode cX12_rule 1 = .ok (.getfield 268, 3) := by decide +kernel
theorem dX12_rule_4 : decode cX12_rule 4 = .ok (.bipush 6, 2) := by decide +kernel
theorem dX12_rule_6 : decode cX12_rule 6 = .ok (.if_icmp .ne 5, 3) := by decide +kernel
theorem dX12_rule_11 : decode cX12_rule 11 = .ok (.aload_n 0, 1) := by decide +kernel
theorem dX12_rule_12 : decode cX12_rule 12 = .ok (.aload_n 0, 1) := by decide +kernel
theorem dX12_rule_13 : decode cX12_rule 13 = .ok (.getfield 268, 3) := by decide +kernel
theorem dX12_rule_16 : decode cX12_rule 16 = .ok (.putfield 139, 3) := by decide +kernel
theorem dX12_rule_19 : decode cX12_rule 19 = .ok (.aload_n 0, 1) := by decide +kernel
theorem dX12_rule_20 : decode cX12_rule 20 = .ok (.getfield 23, 3) := by decide +kernel
theorem dX12_rule_23 : decode cX12_rule 23 = .ok (.aload_n 0, 1) := by decide +kernel
theorem dX12_rule_24 : decode cX12_rule 24 = .ok (.getfield 139, 3) := by decide +kernel
theorem dX12_rule_27 : decode cX12_rule 27 = .ok (.iconst 0, 1) := by decide +kernel
theorem dX12_rule_28 : decode cX12_rule 28 = .ok (.iastore, 1) := by decide +kernel
theorem dX12_rule_29 : decode cX12_rule 29 = .ok (.aload_n 0, 1) := by decide +kernel
theorem dX12_rule_30 : decode cX12_rule 30 = .ok (.invokevirtual 271, 3) := by decide +kernel
theorem dX12_rule_33 : decode cX12_rule 33 = .ok (.ifCond .ne 11, 3) := by decide +kernel
theorem dX12_rule_36 : decode cX12_rule 36 = .ok (.bipush (-2), 2) := by decide +kernel
theorem dX12_rule_38 : decode cX12_rule 38 = .ok (.aload_n 0, 1) := by decide +kernel
theorem dX12_rule_39 : decode cX12_rule 39 = .ok (.getfield 78, 3) := by decide +kernel
theorem dX12_rule_42 : decode cX12_rule 42 = .ok (.isub, 1) := by decide +kernel
theorem dX12_rule_43 : decode cX12_rule 43 = .ok (.ireturn, 1) := by decide +kernel
set_option maxHeartbeats 4000000 in
set_option maxRecDepth 100000 in
theorem c_X12_rule (l : Launch) (D : va_G) (cs : Nat → ClassId) (kK kV : Nat → Nat) (g : Nat → Nat) (sz : Nat) : Met l yX12_rule (hz_w yX12_rule cX12_rule 1 (some .int)) ({ frames := 4, cells := 0, slots := 0, locals := 89 }) (va_Pc [.ref (g 0)] (hz_C D cs kK kV sz [(g 0, .inr (12, [.ref (g 1), .int 0, .int 0, .ref (g 2), .ref (g 3), .ref (g 4), .ref (g 5), .ref (g 6), .int 0, .int 0, .int 0, .int 0, .int 0, .int 0, .int 0, .ref (g 7), .int 0, .ref (g 8), .int 0, .ref (g 9), .ref (g 10), .int 0, .ref (g 11), .ref (g 12), .ref (g 13), .int 0, .int 0, .ref (g 14), .ref (g 15), .int 0, .int 0, .int 0, .ref (g 16), .long 0, .ref (g 17), .ref (g 18), .ref (g 19)])), (g 3, .inl (cs 0, 7, .inl (fun _ => 0))), (g 5, .inl (cs 0, 6, .inl (fun _ => 0)))])) (va_Qi (fun (r : Int32) (_ : Unit) => r = -3) (fun _ t => True) (va_A [(g 0, .inr (12, [.ref (g 1), .int 0, .int 0, .ref (g 2), .ref (g 3), .ref (g 4), .ref (g 5), .ref (g 6), .int 0, .int 0, .int 0, .int 0, .int 0, .int 0, .int 0, .ref (g 7), .int 0, .ref (g 8), .int 0, .ref (g 9), .ref (g 10), .int 0, .ref (g 11), .ref (g 12), .ref (g 13), .int 0, .int 0, .ref (g 14), .ref (g 15), .int 0, .int 0, .int 0, .ref (g 16), .long 0, .ref (g 17), .ref (g 18), .ref (g 19)])), (g 3, .inl (cs 0, 7, .inl (fun _ => 0))), (g 5, .inl (cs 0, 6, .inl (fun _ => 0)))] sz)) 0 0 (va_A [(g 0, .inr (12, [.ref (g 1), .int 0, .int 0, .ref (g 2), .ref (g 3), .ref (g 4), .ref (g 5), .ref (g 6), .int 0, .int 0, .int 0, .int 0, .int 0, .int 0, .int 0, .ref (g 7), .int 0, .ref (g 8), .int 0, .ref (g 9), .ref (g 10), .int 0, .ref (g 11), .ref (g 12), .ref (g 13), .int 0, .int 0, .ref (g 14), .ref (g 15), .int 0, .int 0, .int 0, .ref (g 16), .long 0, .ref (g 17), .ref (g 18), .ref (g 19)])), (g 3, .inl (cs 0, 7, .inl (fun _ => 0))), (g 5, .inl (cs 0, 6, .inl (fun _ => 0)))] sz) := by
  refine Met.ofW (cc := cX12_rule) (maxL := 1) (ret := (some .int)) (by decide) rfl ?_
  intro p e s m args below meth c s₁ B hml hv
  obtain ⟨rfl, hsz, hP, hD0, hE⟩ := hv
  have hx := B.exec
  have hb := B.bytes
  have hr := B.returns
  have hT : ∀ w ∈ TB, w.before _ s = true := fun w h => atoms_spec (ws := hz_w yX12_rule cX12_rule 1 (some .int)) B.pre w (List.mem_cons_of_mem _ h)
  have hown : s.vm.findClass RX12 = some m.cls := findClass_of_methodNamed B.named
  have hlocks := B.notSynchronized
  clear B
  subst hsz
  have hD := hD0.self (sz := s.heap.size)
  generalize hAe : va_A [(g 0, .inr (12, [.ref (g 1), .int 0, .int 0, .ref (g 2), .ref (g 3), .ref (g 4), .ref (g 5), .ref (g 6), .int 0, .int 0, .int 0, .int 0, .int 0, .int 0, .int 0, .ref (g 7), .int 0, .ref (g 8), .int 0, .ref (g 9), .ref (g 10), .int 0, .ref (g 11), .ref (g 12), .ref (g 13), .int 0, .int 0, .ref (g 14), .ref (g 15), .int 0, .int 0, .int 0, .ref (g 16), .long 0, .ref (g 17), .ref (g 18), .ref (g 19)])), (g 3, .inl (cs 0, 7, .inl (fun _ => 0))), (g 5, .inl (cs 0, 6, .inl (fun _ => 0)))] s.heap.size = A at hD hE ⊢
  have hA : ∀ q : Nat, s.heap.size ≤ q → A q := fun q h => by rw [← hAe]; exact Or.inr h
  clear hAe hD0
  have hS : va_S A s.heap s.heap [] := va_S.rf
  have hK := hE.1
  have hl := lv_entry ([.ref (g 0)]) (n := 1) (Nat.le_of_ble_eq_true rfl)
  rw [lg_entry_eq]
  generalize (lg_sl ([.ref (g 0)]) ++ List.replicate (1 - (lg_sl ([.ref (g 0)])).length) Slot.unset).toArray = ls at hl ⊢
  have hl : lv_has ls 1 [(0, .ref (g 0))] := hl
  obtain ⟨H, eH⟩ : ∃ z, z = s.heap := ⟨_, rfl⟩
  have hP : va_P D classes [(g 0, .inr (12, [.ref (g 1), .int 0, .int 0, .ref (g 2), .ref (g 3), .ref (g 4), .ref (g 5), .ref (g 6), .int 0, .int 0, .int 0, .int 0, .int 0, .int 0, .int 0, .ref (g 7), .int 0, .ref (g 8), .int 0, .ref (g 9), .ref (g 10), .int 0, .ref (g 11), .ref (g 12), .ref (g 13), .int 0, .int 0, .ref (g 14), .ref (g 15), .int 0, .int 0, .int 0, .ref (g 16), .long 0, .ref (g 17), .ref (g 18), .ref (g 19)])), (g 3, .inl (cs 0, 7, .inl (fun _ => 0))), (g 5, .inl (cs 0, 6, .inl (fun _ => 0)))] H := by rw [eH]; exact hP
  have hS : va_S A s.heap H [] := by rw [eH]; exact hS
  rw [← eH]
  clear eH
  refine lv_aload_n hx hb dX12_rule_0 rfl (lv_at hl 0 rfl) ?_
  refine va_get (D := D) (ci := 12) (v := .int 0) (C := RX12) (T := TX12) (N := 37) hx hb hT i_X12 hown hK hP 0 rfl rfl 2 (by decide) (hT _ q_248) (fun _ h9 => h9) rfl dX12_rule_1 ?_
  refine lv_bipush (v := 6) hx hb dX12_rule_4 (by decide) ?_
  refine lv_icmp_ne (tgt := 11) hx hb dX12_rule_6 (by decide) (fun _ => ?_) (fun z => absurd z (by decide))
  refine lv_aload_n hx hb dX12_rule_11 rfl (lv_at hl 0 rfl) ?_
  refine lv_aload_n hx hb dX12_rule_12 rfl (lv_at hl 0 rfl) ?_
  refine va_get (D := D) (ci := 12) (v := .int 0) (C := RX12) (T := TX12) (N := 37) hx hb hT i_X12 hown hK hP 0 rfl rfl 2 (by decide) (hT _ q_248) (fun _ h9 => h9) rfl dX12_rule_13 ?_
  refine va_put (D := D) (ci := 12) (v := .int 0) (ty := .int) (C := RX12) (T := TX12) (N := 37) hx hb hT i_X12 tyX12 tyX12_ok nmX12 hown hK hP hD hS 0 rfl rfl 11 (by decide) (hT _ q_311) (fun _ h9 => h9) rfl (by decide +kernel) rfl rfl (Nat.le_of_ble_eq_true rfl) dX12_rule_16 (fun H locs hP hD hS => ?_)
  have hP : va_P D classes [(g 0, .inr (12, [.ref (g 1), .int 0, .int 0, .ref (g 2), .ref (g 3), .ref (g 4), .ref (g 5), .ref (g 6), .int 0, .int 0, .int 0, .int 0, .int 0, .int 0, .int 0, .ref (g 7), .int 0, .ref (g 8), .int 0, .ref (g 9), .ref (g 10), .int 0, .ref (g 11), .ref (g 12), .ref (g 13), .int 0, .int 0, .ref (g 14), .ref (g 15), .int 0, .int 0, .int 0, .ref (g 16), .long 0, .ref (g 17), .ref (g 18), .ref (g 19)])), (g 3, .inl (cs 0, 7, .inl (fun _ => 0))), (g 5, .inl (cs 0, 6, .inl (fun _ => 0)))] H := hP
  have hD : va_D A [(g 0, .inr (12, [.ref (g 1), .int 0, .int 0, .ref (g 2), .ref (g 3), .ref (g 4), .ref (g 5), .ref (g 6), .int 0, .int 0, .int 0, .int 0, .int 0, .int 0, .int 0, .ref (g 7), .int 0, .ref (g 8), .int 0, .ref (g 9), .ref (g 10), .int 0, .ref (g 11), .ref (g 12), .ref (g 13), .int 0, .int 0, .ref (g 14), .ref (g 15), .int 0, .int 0, .int 0, .ref (g 16), .long 0, .ref (g 17), .ref (g 18), .ref (g 19)])), (g 3, .inl (cs 0, 7, .inl (fun _ => 0))), (g 5, .inl (cs 0, 6, .inl (fun _ => 0)))] := hD
  refine lv_aload_n hx hb dX12_rule_19 rfl (lv_at hl 0 rfl) ?_
  refine va_get (D := D) (ci := 12) (v := .ref (g 5)) (C := RX12) (T := TX12) (N := 37) hx hb hT i_X12 hown hK hP 0 rfl rfl 6 (by decide) (hT _ q_334) (fun _ h9 => h9) rfl dX12_rule_20 ?_
  refine lv_aload_n hx hb dX12_rule_23 rfl (lv_at hl 0 rfl) ?_
  refine va_get (D := D) (ci := 12) (v := .int 0) (C := RX12) (T := TX12) (N := 37) hx hb hT i_X12 hown hK hP 0 rfl rfl 11 (by decide) (hT _ q_311) (fun _ h9 => h9) rfl dX12_rule_24 ?_
  refine lv_iconst (v := 0) hx hb dX12_rule_27 (by decide) ?_
  refine va_iast hx hb hK hP hD hS 2 0 rfl rfl (by unfold vp_in; decide) dX12_rule_28 (fun H locs hP hD hS => ?_)
  have hP : va_P D classes [(g 0, .inr (12, [.ref (g 1), .int 0, .int 0, .ref (g 2), .ref (g 3), .ref (g 4), .ref (g 5), .ref (g 6), .int 0, .int 0, .int 0, .int 0, .int 0, .int 0, .int 0, .ref (g 7), .int 0, .ref (g 8), .int 0, .ref (g 9), .ref (g 10), .int 0, .ref (g 11), .ref (g 12), .ref (g 13), .int 0, .int 0, .ref (g 14), .ref (g 15), .int 0, .int 0, .int 0, .ref (g 16), .long 0, .ref (g 17), .ref (g 18), .ref (g 19)])), (g 3, .inl (cs 0, 7, .inl (fun _ => 0))), (g 5, .inl (cs 0, 6, .inl (upd (fun _ => 0) (Int32.toNatClampNeg (0 : Int32)) (0 : Int32))))] H := hP
  have hD : va_D A [(g 0, .inr (12, [.ref (g 1), .int 0, .int 0, .ref (g 2), .ref (g 3), .ref (g 4), .ref (g 5), .ref (g 6), .int 0, .int 0, .int 0, .int 0, .int 0, .int 0, .int 0, .ref (g 7), .int 0, .ref (g 8), .int 0, .ref (g 9), .ref (g 10), .int 0, .ref (g 11), .ref (g 12), .ref (g 13), .int 0, .int 0, .ref (g 14), .ref (g 15), .int 0, .int 0, .int 0, .ref (g 16), .long 0, .ref (g 17), .ref (g 18), .ref (g 19)])), (g 3, .inl (cs 0, 7, .inl (fun _ => 0))), (g 5, .inl (cs 0, 6, .inl (upd (fun _ => 0) (Int32.toNatClampNeg (0 : Int32)) (0 : Int32))))] := hD
  generalize upd (fun _ => 0) (Int32.toNatClampNeg (0 : Int32)) (0 : Int32) = f_1 at hP hD
  refine lv_aload_n hx hb dX12_rule_29 rfl (lv_at hl 0 rfl) ?_
  have hFc := va_free (wc := [(g 0, .inr (12, [.ref (g 1), .int 0, .int 0, .ref (g 2), .ref (g 3), .ref (g 4), .ref (g 5), .ref (g 6), .int 0, .int 0, .int 0, .int 0, .int 0, .int 0, .int 0, .ref (g 7), .int 0, .ref (g 8), .int 0, .ref (g 9), .ref (g 10), .int 0, .ref (g 11), .ref (g 12), .ref (g 13), .int 0, .int 0, .ref (g 14), .ref (g 15), .int 0, .int 0, .int 0, .ref (g 16), .long 0, .ref (g 17), .ref (g 18), .ref (g 19)])), (g 3, .inl (cs 0, 7, .inl (fun _ => 0)))]) hD hS hA [0,1] rfl
  refine va_calli (va_runV (As := []) (rest := []) ⟨hx, hb, hml, hown, hT⟩ (c_X12_reads0 l D cs kK kV g H.size) (cwV 0 hT (hz_gV q_330 q_331 q_332 q_252 q_333) rfl rfl rfl (by decide +kernel) ⟨(Nat.le_of_ble_eq_true rfl), (Nat.le_of_ble_eq_true rfl)⟩) ⟨hz_C.blind, va_recv hK hP (ci := 12) (q0 := 0) rfl rfl, hz_C.mk (hP.sub (ws' := [(g 0, .inr (12, [.ref (g 1), .int 0, .int 0, .ref (g 2), .ref (g 3), .ref (g 4), .ref (g 5), .ref (g 6), .int 0, .int 0, .int 0, .int 0, .int 0, .int 0, .int 0, .ref (g 7), .int 0, .ref (g 8), .int 0, .ref (g 9), .ref (g 10), .int 0, .ref (g 11), .ref (g 12), .ref (g 13), .int 0, .int 0, .ref (g 14), .ref (g 15), .int 0, .int 0, .int 0, .ref (g 16), .long 0, .ref (g 17), .ref (g 18), .ref (g 19)])), (g 3, .inl (cs 0, 7, .inl (fun _ => 0)))]) [0,1] rfl) (hD.sub (ws' := [(g 0, .inr (12, [.ref (g 1), .int 0, .int 0, .ref (g 2), .ref (g 3), .ref (g 4), .ref (g 5), .ref (g 6), .int 0, .int 0, .int 0, .int 0, .int 0, .int 0, .int 0, .ref (g 7), .int 0, .ref (g 8), .int 0, .ref (g 9), .ref (g 10), .int 0, .ref (g 11), .ref (g 12), .ref (g 13), .int 0, .int 0, .ref (g 14), .ref (g 15), .int 0, .int 0, .int 0, .ref (g 16), .long 0, .ref (g 17), .ref (g 18), .ref (g 19)])), (g 3, .inl (cs 0, 7, .inl (fun _ => 0)))]) [0,1] (by decide) rfl) hE hS hFc⟩ rfl rfl hl.1 rfl (lv_room (Nat.le_of_ble_eq_true rfl)) dX12_rule_30 ⟨(Nat.le_of_ble_eq_true rfl), (Nat.le_of_ble_eq_true rfl)⟩) hS (fun q _ h => hFc q h) hFc (fun r_2 u t H1 locs ht hvm hw hB hz1 hk1 hS => ?_)
  obtain ⟨hP1, hD1⟩ := hB
  rw [ht] at hP1
  obtain ⟨hP, hD⟩ := va_join (wr := [(g 5, .inl (cs 0, 6, .inl f_1))]) (w1 := [(g 0, .inr (12, [.ref (g 1), .int 0, .int 0, .ref (g 2), .ref (g 3), .ref (g 4), .ref (g 5), .ref (g 6), .int 0, .int 1, .int 0, .int 0, .int 0, .int 0, .int 0, .ref (g 7), .int 0, .ref (g 8), .int 0, .ref (g 9), .ref (g 10), .int 0, .ref (g 11), .ref (g 12), .ref (g 13), .int 0, .int 0, .ref (g 14), .ref (g 15), .int 0, .int 0, .int 0, .ref (g 16), .long 0, .ref (g 17), .ref (g 18), .ref (g 19)]))]) hP hD [0, 1] [2] rfl rfl (by decide) (by decide) hk1 hFc hP1 hD1
  generalize H1 = H at hP hS ⊢
  have hP : va_P D classes [(g 5, .inl (cs 0, 6, .inl f_1)), (g 0, .inr (12, [.ref (g 1), .int 0, .int 0, .ref (g 2), .ref (g 3), .ref (g 4), .ref (g 5), .ref (g 6), .int 0, .int 1, .int 0, .int 0, .int 0, .int 0, .int 0, .ref (g 7), .int 0, .ref (g 8), .int 0, .ref (g 9), .ref (g 10), .int 0, .ref (g 11), .ref (g 12), .ref (g 13), .int 0, .int 0, .ref (g 14), .ref (g 15), .int 0, .int 0, .int 0, .ref (g 16), .long 0, .ref (g 17), .ref (g 18), .ref (g 19)]))] H := hP
  have hD : va_D A [(g 5, .inl (cs 0, 6, .inl f_1)), (g 0, .inr (12, [.ref (g 1), .int 0, .int 0, .ref (g 2), .ref (g 3), .ref (g 4), .ref (g 5), .ref (g 6), .int 0, .int 1, .int 0, .int 0, .int 0, .int 0, .int 0, .ref (g 7), .int 0, .ref (g 8), .int 0, .ref (g 9), .ref (g 10), .int 0, .ref (g 11), .ref (g 12), .ref (g 13), .int 0, .int 0, .ref (g 14), .ref (g 15), .int 0, .int 0, .int 0, .ref (g 16), .long 0, .ref (g 17), .ref (g 18), .ref (g 19)]))] := hD
  clear hk1 hFc hP1 hD1 hz1
  subst hw
  refine lv_if_ne (tgt := 44) hx hb dX12_rule_33 (by decide) (fun z => absurd (by decide) z) (fun _ => ?_)
  refine lv_bipush (v := -2) hx hb dX12_rule_36 (by decide) ?_
  refine lv_aload_n hx hb dX12_rule_38 rfl (lv_at hl 0 rfl) ?_
  refine va_get (D := D) (ci := 12) (v := .int 1) (C := RX12) (T := TX12) (N := 37) hx hb hT i_X12 hown hK hP 1 rfl rfl 9 (by decide) (hT _ q_310) (fun _ h9 => h9) rfl dX12_rule_39 ?_
  refine lv_isub hx hb dX12_rule_42 ?_
  refine hz_ev (-3) (by decide) ?_
  exact W.iret (v := -3) hx hb hr (fun t ht hW => ⟨⟨-3, (), rfl, rfl, trivial⟩, hS.F ht⟩) hS.2.2 dX12_rule_43
theorem dX12_four_0 : decode cX12_four 0 = .ok (.bipush 24, 2) := by decide +kernel
theorem dX12_four_2 : decode cX12_four 2 = .ok (.istore_n 2, 1) := by decide +kernel
theorem dX12_four_3 : decode cX12_four 3 = .ok (.iload_n 2, 1) := by decide +kernel
theorem dX12_four_4 : decode cX12_four 4 = .ok (.ifCond .lt 32, 3) := by decide +kernel
theorem dX12_four_7 : decode cX12_four 7 = .ok (.aload_n 0, 1) := by decide +kernel
theorem dX12_four_8 : decode cX12_four 8 = .ok (.getfield 7, 3) := by decide +kernel
theorem dX12_four_11 : decode cX12_four 11 = .ok (.aload_n 0, 1) := by decide +kernel
theorem dX12_four_12 : decode cX12_four 12 = .ok (.getfield 70, 3) := by decide +kernel
theorem dX12_four_15 : decode cX12_four 15 = .ok (.iload_n 1, 1) := by decide +kernel
theorem dX12_four_16 : decode cX12_four 16 = .ok (.iload_n 2, 1) := by decide +kernel
theorem dX12_four_17 : decode cX12_four 17 = .ok (.ishr, 1) := by decide +kernel
theorem dX12_four_18 : decode cX12_four 18 = .ok (.i2b, 1) := by decide +kernel
theorem dX12_four_19 : decode cX12_four 19 = .ok (.bastore, 1) := by decide +kernel
theorem dX12_four_20 : decode cX12_four 20 = .ok (.aload_n 0, 1) := by decide +kernel
theorem dX12_four_21 : decode cX12_four 21 = .ok (.dup, 1) := by decide +kernel
theorem dX12_four_22 : decode cX12_four 22 = .ok (.getfield 70, 3) := by decide +kernel
theorem dX12_four_25 : decode cX12_four 25 = .ok (.iconst 1, 1) := by decide +kernel
theorem dX12_four_26 : decode cX12_four 26 = .ok (.iadd, 1) := by decide +kernel
theorem dX12_four_27 : decode cX12_four 27 = .ok (.putfield 70, 3) := by decide +kernel
theorem dX12_four_30 : decode cX12_four 30 = .ok (.iinc 2 (-8), 3) := by decide +kernel
theorem dX12_four_33 : decode cX12_four 33 = .ok (.goto (-30), 3) := by decide +kernel
theorem dX12_four_36 : decode cX12_four 36 = .ok (.return_, 1) := by decide +kernel
set_option maxHeartbeats 4000000 in
set_option maxRecDepth 100000 in
theorem c_X12_four (l : Launch) (D : va_G) (cs : Nat → ClassId) (kK kV : Nat → Nat) (g : Nat → Nat) (L : Int32) (f : Nat → Int32) (x : Int32) (hv0 : vp_in (L) 400) (hv1 : vp_in (L + 1) 400) (hv2 : vp_in ((L + 1) + 1) 400) (hv3 : vp_in (((L + 1) + 1) + 1) 400) (L4 : Int32) (hL4 : L + 1 + 1 + 1 + 1 = L4) (sz : Nat) : Met l yX12_four (hz_w yX12_four cX12_four 3 none) ({ frames := 0, cells := 0, slots := 0, locals := 0 }) (va_Pc [.ref (g 0), .int x] (hz_C D cs kK kV sz [(g 0, .inr (12, [.ref (g 1), .int L, .int 0, .ref (g 2), .ref (g 3), .ref (g 4), .ref (g 5), .ref (g 6), .int 0, .int 0, .int 0, .int 0, .int 0, .int 0, .int 0, .ref (g 7), .int 0, .ref (g 8), .int 0, .ref (g 9), .ref (g 10), .int 0, .ref (g 11), .ref (g 12), .ref (g 13), .int 0, .int 0, .ref (g 14), .ref (g 15), .int 0, .int 0, .int 0, .ref (g 16), .long 0, .ref (g 17), .ref (g 18), .ref (g 19)])), (g 1, .inl (cs 1, 400, .inl f))])) (va_Qv (fun (_ : Unit) => True) (fun _ t => ∃ (f' : Nat → Int32), va_P D classes [(g 0, .inr (12, [.ref (g 1), .int L4, .int 0, .ref (g 2), .ref (g 3), .ref (g 4), .ref (g 5), .ref (g 6), .int 0, .int 0, .int 0, .int 0, .int 0, .int 0, .int 0, .ref (g 7), .int 0, .ref (g 8), .int 0, .ref (g 9), .ref (g 10), .int 0, .ref (g 11), .ref (g 12), .ref (g 13), .int 0, .int 0, .ref (g 14), .ref (g 15), .int 0, .int 0, .int 0, .ref (g 16), .long 0, .ref (g 17), .ref (g 18), .ref (g 19)])), (g 1, .inl (cs 1, 400, .inl (f')))] t.heap ∧ va_D (va_A [(g 0, .inr (12, [.ref (g 1), .int L, .int 0, .ref (g 2), .ref (g 3), .ref (g 4), .ref (g 5), .ref (g 6), .int 0, .int 0, .int 0, .int 0, .int 0, .int 0, .int 0, .ref (g 7), .int 0, .ref (g 8), .int 0, .ref (g 9), .ref (g 10), .int 0, .ref (g 11), .ref (g 12), .ref (g 13), .int 0, .int 0, .ref (g 14), .ref (g 15), .int 0, .int 0, .int 0, .ref (g 16), .long 0, .ref (g 17), .ref (g 18), .ref (g 19)])), (g 1, .inl (cs 1, 400, .inl f))] sz) [(g 0, .inr (12, [.ref (g 1), .int L4, .int 0, .ref (g 2), .ref (g 3), .ref (g 4), .ref (g 5), .ref (g 6), .int 0, .int 0, .int 0, .int 0, .int 0, .int 0, .int 0, .ref (g 7), .int 0, .ref (g 8), .int 0, .ref (g 9), .ref (g 10), .int 0, .ref (g 11), .ref (g 12), .ref (g 13), .int 0, .int 0, .ref (g 14), .ref (g 15), .int 0, .int 0, .int 0, .ref (g 16), .long 0, .ref (g 17), .ref (g 18), .ref (g 19)])), (g 1, .inl (cs 1, 400, .inl (f')))]) (va_A [(g 0, .inr (12, [.ref (g 1), .int L, .int 0, .ref (g 2), .ref (g 3), .ref (g 4), .ref (g 5), .ref (g 6), .int 0, .int 0, .int 0, .int 0, .int 0, .int 0, .int 0, .ref (g 7), .int 0, .ref (g 8), .int 0, .ref (g 9), .ref (g 10), .int 0, .ref (g 11), .ref (g 12), .ref (g 13), .int 0, .int 0, .ref (g 14), .ref (g 15), .int 0, .int 0, .int 0, .ref (g 16), .long 0, .ref (g 17), .ref (g 18), .ref (g 19)])), (g 1, .inl (cs 1, 400, .inl f))] sz)) 0 0 (va_A [(g 0, .inr (12, [.ref (g 1), .int L, .int 0, .ref (g 2), .ref (g 3), .ref (g 4), .ref (g 5), .ref (g 6), .int 0, .int 0, .int 0, .int 0, .int 0, .int 0, .int 0, .ref (g 7), .int 0, .ref (g 8), .int 0, .ref (g 9), .ref (g 10), .int 0, .ref (g 11), .ref (g 12), .ref (g 13), .int 0, .int 0, .ref (g 14), .ref (g 15), .int 0, .int 0, .int 0, .ref (g 16), .long 0, .ref (g 17), .ref (g 18), .ref (g 19)])), (g 1, .inl (cs 1, 400, .inl f))] sz) := by
  subst hL4
  refine Met.ofW (cc := cX12_four) (maxL := 3) (ret := none) (by decide) rfl ?_
  intro p e s m args below meth c s₁ B hml hv
  obtain ⟨rfl, hsz, hP, hD0, hE⟩ := hv
  have hx := B.exec
  have hb := B.bytes
  have hr := B.returns
  have hT : ∀ w ∈ TB, w.before _ s = true := fun w h => atoms_spec (ws := hz_w yX12_four cX12_four 3 none) B.pre w (List.mem_cons_of_mem _ h)
  have hown : s.vm.findClass RX12 = some m.cls := findClass_of_methodNamed B.named
  have hlocks := B.notSynchronized
  clear B
  subst hsz
  have hD := hD0.self (sz := s.heap.size)
  generalize hAe : va_A [(g 0, .inr (12, [.ref (g 1), .int L, .int 0, .ref (g 2), .ref (g 3), .ref (g 4), .ref (g 5), .ref (g 6), .int 0, .int 0, .int 0, .int 0, .int 0, .int 0, .int 0, .ref (g 7), .int 0, .ref (g 8), .int 0, .ref (g 9), .ref (g 10), .int 0, .ref (g 11), .ref (g 12), .ref (g 13), .int 0, .int 0, .ref (g 14), .ref (g 15), .int 0, .int 0, .int 0, .ref (g 16), .long 0, .ref (g 17), .ref (g 18), .ref (g 19)])), (g 1, .inl (cs 1, 400, .inl f))] s.heap.size = A at hD hE ⊢
  have hA : ∀ q : Nat, s.heap.size ≤ q → A q := fun q h => by rw [← hAe]; exact Or.inr h
  clear hAe hD0
  have hS : va_S A s.heap s.heap [] := va_S.rf
  have hK := hE.1
  have hl := lv_entry ([.ref (g 0), .int x]) (n := 3) (Nat.le_of_ble_eq_true rfl)
  rw [lg_entry_eq]
  generalize (lg_sl ([.ref (g 0), .int x]) ++ List.replicate (3 - (lg_sl ([.ref (g 0), .int x])).length) Slot.unset).toArray = ls at hl ⊢
  have hl : lv_has ls 3 [(0, .ref (g 0)), (1, .int x)] := hl
  obtain ⟨H, eH⟩ : ∃ z, z = s.heap := ⟨_, rfl⟩
  have hP : va_P D classes [(g 0, .inr (12, [.ref (g 1), .int L, .int 0, .ref (g 2), .ref (g 3), .ref (g 4), .ref (g 5), .ref (g 6), .int 0, .int 0, .int 0, .int 0, .int 0, .int 0, .int 0, .ref (g 7), .int 0, .ref (g 8), .int 0, .ref (g 9), .ref (g 10), .int 0, .ref (g 11), .ref (g 12), .ref (g 13), .int 0, .int 0, .ref (g 14), .ref (g 15), .int 0, .int 0, .int 0, .ref (g 16), .long 0, .ref (g 17), .ref (g 18), .ref (g 19)])), (g 1, .inl (cs 1, 400, .inl f))] H := by rw [eH]; exact hP
  have hS : va_S A s.heap H [] := by rw [eH]; exact hS
  rw [← eH]
  clear eH
  refine lv_bipush (v := 24) hx hb dX12_four_0 (by decide) ?_
  refine lv_istore_n (lv' := [(2, .int 24), (0, .ref (g 0)), (1, .int x)]) hx hb dX12_four_2 rfl hl (by decide) rfl (fun ls hl => ?_)
  refine lv_iload_n hx hb dX12_four_3 rfl (lv_at hl 0 rfl) ?_
  refine lv_if_lt (tgt := 36) hx hb dX12_four_4 (by decide) (fun z => absurd z (by decide)) (fun _ => ?_)
  refine lv_aload_n hx hb dX12_four_7 rfl (lv_at hl 1 rfl) ?_
  refine va_get (D := D) (ci := 12) (v := .ref (g 1)) (C := RX12) (T := TX12) (N := 37) hx hb hT i_X12 hown hK hP 0 rfl rfl 0 (by decide) (hT _ q_335) (fun _ h9 => h9) rfl dX12_four_8 ?_
  refine lv_aload_n hx hb dX12_four_11 rfl (lv_at hl 1 rfl) ?_
  refine va_get (D := D) (ci := 12) (v := .int L) (C := RX12) (T := TX12) (N := 37) hx hb hT i_X12 hown hK hP 0 rfl rfl 1 (by decide) (hT _ q_283) (fun _ h9 => h9) rfl dX12_four_12 ?_
  refine lv_iload_n hx hb dX12_four_15 rfl (lv_at hl 2 rfl) ?_
  refine lv_iload_n hx hb dX12_four_16 rfl (lv_at hl 0 rfl) ?_
  refine lv_ishr hx hb dX12_four_17 ?_
  refine lv_i2b (v := (x >>> (24 &&& 31)).toInt8.toInt32) hx hb dX12_four_18 rfl ?_
  refine va_bast hx hb hK hP hD hS 1 1 rfl rfl hv0 dX12_four_19 (fun H locs hP hD hS => ?_)
  have hP : va_P D classes [(g 0, .inr (12, [.ref (g 1), .int L, .int 0, .ref (g 2), .ref (g 3), .ref (g 4), .ref (g 5), .ref (g 6), .int 0, .int 0, .int 0, .int 0, .int 0, .int 0, .int 0, .ref (g 7), .int 0, .ref (g 8), .int 0, .ref (g 9), .ref (g 10), .int 0, .ref (g 11), .ref (g 12), .ref (g 13), .int 0, .int 0, .ref (g 14), .ref (g 15), .int 0, .int 0, .int 0, .ref (g 16), .long 0, .ref (g 17), .ref (g 18), .ref (g 19)])), (g 1, .inl (cs 1, 400, .inl (upd f (Int32.toNatClampNeg L) (vp_nar .byte ((x >>> (24 &&& 31)).toInt8.toInt32)))))] H := hP
  have hD : va_D A [(g 0, .inr (12, [.ref (g 1), .int L, .int 0, .ref (g 2), .ref (g 3), .ref (g 4), .ref (g 5), .ref (g 6), .int 0, .int 0, .int 0, .int 0, .int 0, .int 0, .int 0, .ref (g 7), .int 0, .ref (g 8), .int 0, .ref (g 9), .ref (g 10), .int 0, .ref (g 11), .ref (g 12), .ref (g 13), .int 0, .int 0, .ref (g 14), .ref (g 15), .int 0, .int 0, .int 0, .ref (g 16), .long 0, .ref (g 17), .ref (g 18), .ref (g 19)])), (g 1, .inl (cs 1, 400, .inl (upd f (Int32.toNatClampNeg L) (vp_nar .byte ((x >>> (24 &&& 31)).toInt8.toInt32)))))] := hD
  generalize upd f (Int32.toNatClampNeg L) (vp_nar .byte ((x >>> (24 &&& 31)).toInt8.toInt32)) = f_1 at hP hD
  refine lv_aload_n hx hb dX12_four_20 rfl (lv_at hl 1 rfl) ?_
  refine lv_dup hx hb dX12_four_21 rfl ?_
  refine va_get (D := D) (ci := 12) (v := .int L) (C := RX12) (T := TX12) (N := 37) hx hb hT i_X12 hown hK hP 0 rfl rfl 1 (by decide) (hT _ q_283) (fun _ h9 => h9) rfl dX12_four_22 ?_
  refine lv_iconst (v := 1) hx hb dX12_four_25 (by decide) ?_
  refine lv_iadd hx hb dX12_four_26 ?_
  refine va_put (D := D) (ci := 12) (v := .int (L + 1)) (ty := .int) (C := RX12) (T := TX12) (N := 37) hx hb hT i_X12 tyX12 tyX12_ok nmX12 hown hK hP hD hS 0 rfl rfl 1 (by decide) (hT _ q_283) (fun _ h9 => h9) rfl (by decide +kernel) rfl rfl (Nat.le_of_ble_eq_true rfl) dX12_four_27 (fun H locs hP hD hS => ?_)
  have hP : va_P D classes [(g 0, .inr (12, [.ref (g 1), .int (L + 1), .int 0, .ref (g 2), .ref (g 3), .ref (g 4), .ref (g 5), .ref (g 6), .int 0, .int 0, .int 0, .int 0, .int 0, .int 0, .int 0, .ref (g 7), .int 0, .ref (g 8), .int 0, .ref (g 9), .ref (g 10), .int 0, .ref (g 11), .ref (g 12), .ref (g 13), .int 0, .int 0, .ref (g 14), .ref (g 15), .int 0, .int 0, .int 0, .ref (g 16), .long 0, .ref (g 17), .ref (g 18), .ref (g 19)])), (g 1, .inl (cs 1, 400, .inl f_1))] H := hP
  have hD : va_D A [(g 0, .inr (12, [.ref (g 1), .int (L + 1), .int 0, .ref (g 2), .ref (g 3), .ref (g 4), .ref (g 5), .ref (g 6), .int 0, .int 0, .int 0, .int 0, .int 0, .int 0, .int 0, .ref (g 7), .int 0, .ref (g 8), .int 0, .ref (g 9), .ref (g 10), .int 0, .ref (g 11), .ref (g 12), .ref (g 13), .int 0, .int 0, .ref (g 14), .ref (g 15), .int 0, .int 0, .int 0, .ref (g 16), .long 0, .ref (g 17), .ref (g 18), .ref (g 19)])), (g 1, .inl (cs 1, 400, .inl f_1))] := hD
  refine lv_iinc (v := 16) (lv' := [(2, .int 16), (0, .ref (g 0)), (1, .int x)]) hx hb dX12_four_30 hl (k := 0) rfl (by decide) (by decide) rfl (fun ls hl => ?_)
  refine lv_goto (tgt := 3) hx hb dX12_four_33 (by decide) ?_
  refine lv_iload_n hx hb dX12_four_3 rfl (lv_at hl 0 rfl) ?_
  refine lv_if_lt (tgt := 36) hx hb dX12_four_4 (by decide) (fun z => absurd z (by decide)) (fun _ => ?_)
  refine lv_aload_n hx hb dX12_four_7 rfl (lv_at hl 1 rfl) ?_
  refine va_get (D := D) (ci := 12) (v := .ref (g 1)) (C := RX12) (T := TX12) (N := 37) hx hb hT i_X12 hown hK hP 0 rfl rfl 0 (by decide) (hT _ q_335) (fun _ h9 => h9) rfl dX12_four_8 ?_
  refine lv_aload_n hx hb dX12_four_11 rfl (lv_at hl 1 rfl) ?_
  refine va_get (D := D) (ci := 12) (v := .int (L + 1)) (C := RX12) (T := TX12) (N := 37) hx hb hT i_X12 hown hK hP 0 rfl rfl 1 (by decide) (hT _ q_283) (fun _ h9 => h9) rfl dX12_four_12 ?_
  refine lv_iload_n hx hb dX12_four_15 rfl (lv_at hl 2 rfl) ?_
  refine lv_iload_n hx hb dX12_four_16 rfl (lv_at hl 0 rfl) ?_
  refine lv_ishr hx hb dX12_four_17 ?_
  refine lv_i2b (v := (x >>> (16 &&& 31)).toInt8.toInt32) hx hb dX12_four_18 rfl ?_
  refine va_bast hx hb hK hP hD hS 1 1 rfl rfl hv1 dX12_four_19 (fun H locs hP hD hS => ?_)
  have hP : va_P D classes [(g 0, .inr (12, [.ref (g 1), .int (L + 1), .int 0, .ref (g 2), .ref (g 3), .ref (g 4), .ref (g 5), .ref (g 6), .int 0, .int 0, .int 0, .int 0, .int 0, .int 0, .int 0, .ref (g 7), .int 0, .ref (g 8), .int 0, .ref (g 9), .ref (g 10), .int 0, .ref (g 11), .ref (g 12), .ref (g 13), .int 0, .int 0, .ref (g 14), .ref (g 15), .int 0, .int 0, .int 0, .ref (g 16), .long 0, .ref (g 17), .ref (g 18), .ref (g 19)])), (g 1, .inl (cs 1, 400, .inl (upd f_1 (Int32.toNatClampNeg (L + 1)) (vp_nar .byte ((x >>> (16 &&& 31)).toInt8.toInt32)))))] H := hP
  have hD : va_D A [(g 0, .inr (12, [.ref (g 1), .int (L + 1), .int 0, .ref (g 2), .ref (g 3), .ref (g 4), .ref (g 5), .ref (g 6), .int 0, .int 0, .int 0, .int 0, .int 0, .int 0, .int 0, .ref (g 7), .int 0, .ref (g 8), .int 0, .ref (g 9), .ref (g 10), .int 0, .ref (g 11), .ref (g 12), .ref (g 13), .int 0, .int 0, .ref (g 14), .ref (g 15), .int 0, .int 0, .int 0, .ref (g 16), .long 0, .ref (g 17), .ref (g 18), .ref (g 19)])), (g 1, .inl (cs 1, 400, .inl (upd f_1 (Int32.toNatClampNeg (L + 1)) (vp_nar .byte ((x >>> (16 &&& 31)).toInt8.toInt32)))))] := hD
  generalize upd f_1 (Int32.toNatClampNeg (L + 1)) (vp_nar .byte ((x >>> (16 &&& 31)).toInt8.toInt32)) = f_2 at hP hD
  refine lv_aload_n hx hb dX12_four_20 rfl (lv_at hl 1 rfl) ?_
  refine lv_dup hx hb dX12_four_21 rfl ?_
  refine va_get (D := D) (ci := 12) (v := .int (L + 1)) (C := RX12) (T := TX12) (N := 37) hx hb hT i_X12 hown hK hP 0 rfl rfl 1 (by decide) (hT _ q_283) (fun _ h9 => h9) rfl dX12_four_22 ?_
  refine lv_iconst (v := 1) hx hb dX12_four_25 (by decide) ?_
  refine lv_iadd hx hb dX12_four_26 ?_
  refine va_put (D := D) (ci := 12) (v := .int ((L + 1) + 1)) (ty := .int) (C := RX12) (T := TX12) (N := 37) hx hb hT i_X12 tyX12 tyX12_ok nmX12 hown hK hP hD hS 0 rfl rfl 1 (by decide) (hT _ q_283) (fun _ h9 => h9) rfl (by decide +kernel) rfl rfl (Nat.le_of_ble_eq_true rfl) dX12_four_27 (fun H locs hP hD hS => ?_)
  have hP : va_P D classes [(g 0, .inr (12, [.ref (g 1), .int ((L + 1) + 1), .int 0, .ref (g 2), .ref (g 3), .ref (g 4), .ref (g 5), .ref (g 6), .int 0, .int 0, .int 0, .int 0, .int 0, .int 0, .int 0, .ref (g 7), .int 0, .ref (g 8), .int 0, .ref (g 9), .ref (g 10), .int 0, .ref (g 11), .ref (g 12), .ref (g 13), .int 0, .int 0, .ref (g 14), .ref (g 15), .int 0, .int 0, .int 0, .ref (g 16), .long 0, .ref (g 17), .ref (g 18), .ref (g 19)])), (g 1, .inl (cs 1, 400, .inl f_2))] H := hP
  have hD : va_D A [(g 0, .inr (12, [.ref (g 1), .int ((L + 1) + 1), .int 0, .ref (g 2), .ref (g 3), .ref (g 4), .ref (g 5), .ref (g 6), .int 0, .int 0, .int 0, .int 0, .int 0, .int 0, .int 0, .ref (g 7), .int 0, .ref (g 8), .int 0, .ref (g 9), .ref (g 10), .int 0, .ref (g 11), .ref (g 12), .ref (g 13), .int 0, .int 0, .ref (g 14), .ref (g 15), .int 0, .int 0, .int 0, .ref (g 16), .long 0, .ref (g 17), .ref (g 18), .ref (g 19)])), (g 1, .inl (cs 1, 400, .inl f_2))] := hD
  refine lv_iinc (v := 8) (lv' := [(2, .int 8), (0, .ref (g 0)), (1, .int x)]) hx hb dX12_four_30 hl (k := 0) rfl (by decide) (by decide) rfl (fun ls hl => ?_)
  refine lv_goto (tgt := 3) hx hb dX12_four_33 (by decide) ?_
  refine lv_iload_n hx hb dX12_four_3 rfl (lv_at hl 0 rfl) ?_
  refine lv_if_lt (tgt := 36) hx hb dX12_four_4 (by decide) (fun z => absurd z (by decide)) (fun _ => ?_)
  refine lv_aload_n hx hb dX12_four_7 rfl (lv_at hl 1 rfl) ?_
  refine va_get (D := D) (ci := 12) (v := .ref (g 1)) (C := RX12) (T := TX12) (N := 37) hx hb hT i_X12 hown hK hP 0 rfl rfl 0 (by decide) (hT _ q_335) (fun _ h9 => h9) rfl dX12_four_8 ?_
  refine lv_aload_n hx hb dX12_four_11 rfl (lv_at hl 1 rfl) ?_
  refine va_get (D := D) (ci := 12) (v := .int ((L + 1) + 1)) (C := RX12) (T := TX12) (N := 37) hx hb hT i_X12 hown hK hP 0 rfl rfl 1 (by decide) (hT _ q_283) (fun _ h9 => h9) rfl dX12_four_12 ?_
  refine lv_iload_n hx hb dX12_four_15 rfl (lv_at hl 2 rfl) ?_
  refine lv_iload_n hx hb dX12_four_16 rfl (lv_at hl 0 rfl) ?_
  refine lv_ishr hx hb dX12_four_17 ?_
  refine lv_i2b (v := (x >>> (8 &&& 31)).toInt8.toInt32) hx hb dX12_four_18 rfl ?_
  refine va_bast hx hb hK hP hD hS 1 1 rfl rfl hv2 dX12_four_19 (fun H locs hP hD hS => ?_)
  have hP : va_P D classes [(g 0, .inr (12, [.ref (g 1), .int ((L + 1) + 1), .int 0, .ref (g 2), .ref (g 3), .ref (g 4), .ref (g 5), .ref (g 6), .int 0, .int 0, .int 0, .int 0, .int 0, .int 0, .int 0, .ref (g 7), .int 0, .ref (g 8), .int 0, .ref (g 9), .ref (g 10), .int 0, .ref (g 11), .ref (g 12), .ref (g 13), .int 0, .int 0, .ref (g 14), .ref (g 15), .int 0, .int 0, .int 0, .ref (g 16), .long 0, .ref (g 17), .ref (g 18), .ref (g 19)])), (g 1, .inl (cs 1, 400, .inl (upd f_2 (Int32.toNatClampNeg ((L + 1) + 1)) (vp_nar .byte ((x >>> (8 &&& 31)).toInt8.toInt32)))))] H := hP
  have hD : va_D A [(g 0, .inr (12, [.ref (g 1), .int ((L + 1) + 1), .int 0, .ref (g 2), .ref (g 3), .ref (g 4), .ref (g 5), .ref (g 6), .int 0, .int 0, .int 0, .int 0, .int 0, .int 0, .int 0, .ref (g 7), .int 0, .ref (g 8), .int 0, .ref (g 9), .ref (g 10), .int 0, .ref (g 11), .ref (g 12), .ref (g 13), .int 0, .int 0, .ref (g 14), .ref (g 15), .int 0, .int 0, .int 0, .ref (g 16), .long 0, .ref (g 17), .ref (g 18), .ref (g 19)])), (g 1, .inl (cs 1, 400, .inl (upd f_2 (Int32.toNatClampNeg ((L + 1) + 1)) (vp_nar .byte ((x >>> (8 &&& 31)).toInt8.toInt32)))))] := hD
  generalize upd f_2 (Int32.toNatClampNeg ((L + 1) + 1)) (vp_nar .byte ((x >>> (8 &&& 31)).toInt8.toInt32)) = f_3 at hP hD
  refine lv_aload_n hx hb dX12_four_20 rfl (lv_at hl 1 rfl) ?_
  refine lv_dup hx hb dX12_four_21 rfl ?_
  refine va_get (D := D) (ci := 12) (v := .int ((L + 1) + 1)) (C := RX12) (T := TX12) (N := 37) hx hb hT i_X12 hown hK hP 0 rfl rfl 1 (by decide) (hT _ q_283) (fun _ h9 => h9) rfl dX12_four_22 ?_
  refine lv_iconst (v := 1) hx hb dX12_four_25 (by decide) ?_
  refine lv_iadd hx hb dX12_four_26 ?_
  refine va_put (D := D) (ci := 12) (v := .int (((L + 1) + 1) + 1)) (ty := .int) (C := RX12) (T := TX12) (N := 37) hx hb hT i_X12 tyX12 tyX12_ok nmX12 hown hK hP hD hS 0 rfl rfl 1 (by decide) (hT _ q_283) (fun _ h9 => h9) rfl (by decide +kernel) rfl rfl (Nat.le_of_ble_eq_true rfl) dX12_four_27 (fun H locs hP hD hS => ?_)
  have hP : va_P D classes [(g 0, .inr (12, [.ref (g 1), .int (((L + 1) + 1) + 1), .int 0, .ref (g 2), .ref (g 3), .ref (g 4), .ref (g 5), .ref (g 6), .int 0, .int 0, .int 0, .int 0, .int 0, .int 0, .int 0, .ref (g 7), .int 0, .ref (g 8), .int 0, .ref (g 9), .ref (g 10), .int 0, .ref (g 11), .ref (g 12), .ref (g 13), .int 0, .int 0, .ref (g 14), .ref (g 15), .int 0, .int 0, .int 0, .ref (g 16), .long 0, .ref (g 17), .ref (g 18), .ref (g 19)])), (g 1, .inl (cs 1, 400, .inl f_3))] H := hP
  have hD : va_D A [(g 0, .inr (12, [.ref (g 1), .int (((L + 1) + 1) + 1), .int 0, .ref (g 2), .ref (g 3), .ref (g 4), .ref (g 5), .ref (g 6), .int 0, .int 0, .int 0, .int 0, .int 0, .int 0, .int 0, .ref (g 7), .int 0, .ref (g 8), .int 0, .ref (g 9), .ref (g 10), .int 0, .ref (g 11), .ref (g 12), .ref (g 13), .int 0, .int 0, .ref (g 14), .ref (g 15), .int 0, .int 0, .int 0, .ref (g 16), .long 0, .ref (g 17), .ref (g 18), .ref (g 19)])), (g 1, .inl (cs 1, 400, .inl f_3))] := hD
  refine lv_iinc (v := 0) (lv' := [(2, .int 0), (0, .ref (g 0)), (1, .int x)]) hx hb dX12_four_30 hl (k := 0) rfl (by decide) (by decide) rfl (fun ls hl => ?_)
  refine lv_goto (tgt := 3) hx hb dX12_four_33 (by decide) ?_
  refine lv_iload_n hx hb dX12_four_3 rfl (lv_at hl 0 rfl) ?_
  refine lv_if_lt (tgt := 36) hx hb dX12_four_4 (by decide) (fun z => absurd z (by decide)) (fun _ => ?_)
  refine lv_aload_n hx hb dX12_four_7 rfl (lv_at hl 1 rfl) ?_
  refine va_get (D := D) (ci := 12) (v := .ref (g 1)) (C := RX12) (T := TX12) (N := 37) hx hb hT i_X12 hown hK hP 0 rfl rfl 0 (by decide) (hT _ q_335) (fun _ h9 => h9) rfl dX12_four_8 ?_
  refine lv_aload_n hx hb dX12_four_11 rfl (lv_at hl 1 rfl) ?_
  refine va_get (D := D) (ci := 12) (v := .int (((L + 1) + 1) + 1)) (C := RX12) (T := TX12) (N := 37) hx hb hT i_X12 hown hK hP 0 rfl rfl 1 (by decide) (hT _ q_283) (fun _ h9 => h9) rfl dX12_four_12 ?_
  refine lv_iload_n hx hb dX12_four_15 rfl (lv_at hl 2 rfl) ?_
  refine lv_iload_n hx hb dX12_four_16 rfl (lv_at hl 0 rfl) ?_
  refine lv_ishr hx hb dX12_four_17 ?_
  refine lv_i2b (v := (x >>> (0 &&& 31)).toInt8.toInt32) hx hb dX12_four_18 rfl ?_
  refine va_bast hx hb hK hP hD hS 1 1 rfl rfl hv3 dX12_four_19 (fun H locs hP hD hS => ?_)
  have hP : va_P D classes [(g 0, .inr (12, [.ref (g 1), .int (((L + 1) + 1) + 1), .int 0, .ref (g 2), .ref (g 3), .ref (g 4), .ref (g 5), .ref (g 6), .int 0, .int 0, .int 0, .int 0, .int 0, .int 0, .int 0, .ref (g 7), .int 0, .ref (g 8), .int 0, .ref (g 9), .ref (g 10), .int 0, .ref (g 11), .ref (g 12), .ref (g 13), .int 0, .int 0, .ref (g 14), .ref (g 15), .int 0, .int 0, .int 0, .ref (g 16), .long 0, .ref (g 17), .ref (g 18), .ref (g 19)])), (g 1, .inl (cs 1, 400, .inl (upd f_3 (Int32.toNatClampNeg (((L + 1) + 1) + 1)) (vp_nar .byte ((x >>> (0 &&& 31)).toInt8.toInt32)))))] H := hP
  have hD : va_D A [(g 0, .inr (12, [.ref (g 1), .int (((L + 1) + 1) + 1), .int 0, .ref (g 2), .ref (g 3), .ref (g 4), .ref (g 5), .ref (g 6), .int 0, .int 0, .int 0, .int 0, .int 0, .int 0, .int 0, .ref (g 7), .int 0, .ref (g 8), .int 0, .ref (g 9), .ref (g 10), .int 0, .ref (g 11), .ref (g 12), .ref (g 13), .int 0, .int 0, .ref (g 14), .ref (g 15), .int 0, .int 0, .int 0, .ref (g 16), .long 0, .ref (g 17), .ref (g 18), .ref (g 19)])), (g 1, .inl (cs 1, 400, .inl (upd f_3 (Int32.toNatClampNeg (((L + 1) + 1) + 1)) (vp_nar .byte ((x >>> (0 &&& 31)).toInt8.toInt32)))))] := hD
  generalize upd f_3 (Int32.toNatClampNeg (((L + 1) + 1) + 1)) (vp_nar .byte ((x >>> (0 &&& 31)).toInt8.toInt32)) = f_4 at hP hD
  refine lv_aload_n hx hb dX12_four_20 rfl (lv_at hl 1 rfl) ?_
  refine lv_dup hx hb dX12_four_21 rfl ?_
  refine va_get (D := D) (ci := 12) (v := .int (((L + 1) + 1) + 1)) (C := RX12) (T := TX12) (N := 37) hx hb hT i_X12 hown hK hP 0 rfl rfl 1 (by decide) (hT _ q_283) (fun _ h9 => h9) rfl dX12_four_22 ?_
  refine lv_iconst (v := 1) hx hb dX12_four_25 (by decide) ?_
  refine lv_iadd hx hb dX12_four_26 ?_
  refine va_put (D := D) (ci := 12) (v := .int ((((L + 1) + 1) + 1) + 1)) (ty := .int) (C := RX12) (T := TX12) (N := 37) hx hb hT i_X12 tyX12 tyX12_ok nmX12 hown hK hP hD hS 0 rfl rfl 1 (by decide) (hT _ q_283) (fun _ h9 => h9) rfl (by decide +kernel) rfl rfl (Nat.le_of_ble_eq_true rfl) dX12_four_27 (fun H locs hP hD hS => ?_)
  have hP : va_P D classes [(g 0, .inr (12, [.ref (g 1), .int ((((L + 1) + 1) + 1) + 1), .int 0, .ref (g 2), .ref (g 3), .ref (g 4), .ref (g 5), .ref (g 6), .int 0, .int 0, .int 0, .int 0, .int 0, .int 0, .int 0, .ref (g 7), .int 0, .ref (g 8), .int 0, .ref (g 9), .ref (g 10), .int 0, .ref (g 11), .ref (g 12), .ref (g 13), .int 0, .int 0, .ref (g 14), .ref (g 15), .int 0, .int 0, .int 0, .ref (g 16), .long 0, .ref (g 17), .ref (g 18), .ref (g 19)])), (g 1, .inl (cs 1, 400, .inl f_4))] H := hP
  have hD : va_D A [(g 0, .inr (12, [.ref (g 1), .int ((((L + 1) + 1) + 1) + 1), .int 0, .ref (g 2), .ref (g 3), .ref (g 4), .ref (g 5), .ref (g 6), .int 0, .int 0, .int 0, .int 0, .int 0, .int 0, .int 0, .ref (g 7), .int 0, .ref (g 8), .int 0, .ref (g 9), .ref (g 10), .int 0, .ref (g 11), .ref (g 12), .ref (g 13), .int 0, .int 0, .ref (g 14), .ref (g 15), .int 0, .int 0, .int 0, .ref (g 16), .long 0, .ref (g 17), .ref (g 18), .ref (g 19)])), (g 1, .inl (cs 1, 400, .inl f_4))] := hD
  refine lv_iinc (v := -8) (lv' := [(2, .int (-8)), (0, .ref (g 0)), (1, .int x)]) hx hb dX12_four_30 hl (k := 0) rfl (by decide) (by decide) rfl (fun ls hl => ?_)
  refine lv_goto (tgt := 3) hx hb dX12_four_33 (by decide) ?_
  refine lv_iload_n hx hb dX12_four_3 rfl (lv_at hl 0 rfl) ?_
  refine lv_if_lt (tgt := 36) hx hb dX12_four_4 (by decide) (fun _ => ?_) (fun z => absurd (by decide) z)
  exact W.vret hx hb hr (fun t ht hW => ⟨⟨(), rfl, trivial, _, by rw [ht]; exact hP.sub [0, 1] rfl, hD.sub [0, 1] (by decide) rfl⟩, hS.F ht⟩) hS.2.2 dX12_four_36
theorem dX12_feed_0 : decode cX12_feed 0 = .ok (.aload_n 0, 1) := by decide +kernel
theorem dX12_feed_1 : decode cX12_feed 1 = .ok (.getfield 70, 3) := by decide +kernel
theorem dX12_feed_4 : decode cX12_feed 4 = .ok (.bipush 20, 2) := by decide +kernel
theorem dX12_feed_6 : decode cX12_feed 6 = .ok (.iadd, 1) := by decide +kernel
theorem dX12_feed_7 : decode cX12_feed 7 = .ok (.sipush 400, 3) := by decide +kernel
theorem dX12_feed_10 : decode cX12_feed 10 = .ok (.if_icmp .le 5, 3) := by decide +kernel
theorem dX12_feed_15 : decode cX12_feed 15 = .ok (.aload_n 0, 1) := by decide +kernel
theorem dX12_feed_16 : decode cX12_feed 16 = .ok (.iload_n 1, 1) := by decide +kernel
theorem dX12_feed_17 : decode cX12_feed 17 = .ok (.invokevirtual 74, 3) := by decide +kernel
theorem dX12_feed_20 : decode cX12_feed 20 = .ok (.aload_n 0, 1) := by decide +kernel
theorem dX12_feed_21 : decode cX12_feed 21 = .ok (.iload_n 2, 1) := by decide +kernel
theorem dX12_feed_22 : decode cX12_feed 22 = .ok (.invokevirtual 74, 3) := by decide +kernel
theorem dX12_feed_25 : decode cX12_feed 25 = .ok (.aload_n 0, 1) := by decide +kernel
theorem dX12_feed_26 : decode cX12_feed 26 = .ok (.iload_n 3, 1) := by decide +kernel
theorem dX12_feed_27 : decode cX12_feed 27 = .ok (.invokevirtual 74, 3) := by decide +kernel
theorem dX12_feed_30 : decode cX12_feed 30 = .ok (.aload_n 0, 1) := by decide +kernel
theorem dX12_feed_31 : decode cX12_feed 31 = .ok (.iload 4, 2) := by decide +kernel
theorem dX12_feed_33 : decode cX12_feed 33 = .ok (.invokevirtual 74, 3) := by decide +kernel
theorem dX12_feed_36 : decode cX12_feed 36 = .ok (.aload_n 0, 1) := by decide +kernel
theorem dX12_feed_37 : decode cX12_feed 37 = .ok (.iload 5, 2) := by decide +kernel
theorem dX12_feed_39 : decode cX12_feed 39 = .ok (.invokevirtual 74, 3) := by decide +kernel
theorem dX12_feed_42 : decode cX12_feed 42 = .ok (.aload_n 0, 1) := by decide +kernel
theorem dX12_feed_43 : decode cX12_feed 43 = .ok (.getfield 70, 3) := by decide +kernel
theorem dX12_feed_46 : decode cX12_feed 46 = .ok (.ireturn, 1) := by decide +kernel
set_option maxHeartbeats 4000000 in
set_option maxRecDepth 100000 in
theorem c_X12_feed (l : Launch) (D : va_G) (cs : Nat → ClassId) (kK kV : Nat → Nat) (g : Nat → Nat) (p0 : Int32) (p1 : Int32) (p2 : Int32) (p3 : Int32) (p4 : Int32) (sz : Nat) : Met l yX12_feed (hz_w yX12_feed cX12_feed 6 (some .int)) ({ frames := 1, cells := 0, slots := 0, locals := 22 }) (va_Pc [.ref (g 0), .int p0, .int p1, .int p2, .int p3, .int p4] (hz_C D cs kK kV sz [(g 0, .inr (12, [.ref (g 1), .int 0, .int 0, .ref (g 2), .ref (g 3), .ref (g 4), .ref (g 5), .ref (g 6), .int 0, .int 0, .int 0, .int 0, .int 0, .int 0, .int 0, .ref (g 7), .int 0, .ref (g 8), .int 0, .ref (g 9), .ref (g 10), .int 0, .ref (g 11), .ref (g 12), .ref (g 13), .int 0, .int 0, .ref (g 14), .ref (g 15), .int 0, .int 0, .int 0, .ref (g 16), .long 0, .ref (g 17), .ref (g 18), .ref (g 19)])), (g 1, .inl (cs 1, 400, .inl (fun _ => 0)))])) (va_Qi (fun (r : Int32) (_ : Unit) => r = 20) (fun _ t => True) (va_A [(g 0, .inr (12, [.ref (g 1), .int 0, .int 0, .ref (g 2), .ref (g 3), .ref (g 4), .ref (g 5), .ref (g 6), .int 0, .int 0, .int 0, .int 0, .int 0, .int 0, .int 0, .ref (g 7), .int 0, .ref (g 8), .int 0, .ref (g 9), .ref (g 10), .int 0, .ref (g 11), .ref (g 12), .ref (g 13), .int 0, .int 0, .ref (g 14), .ref (g 15), .int 0, .int 0, .int 0, .ref (g 16), .long 0, .ref (g 17), .ref (g 18), .ref (g 19)])), (g 1, .inl (cs 1, 400, .inl (fun _ => 0)))] sz)) 0 0 (va_A [(g 0, .inr (12, [.ref (g 1), .int 0, .int 0, .ref (g 2), .ref (g 3), .ref (g 4), .ref (g 5), .ref (g 6), .int 0, .int 0, .int 0, .int 0, .int 0, .int 0, .int 0, .ref (g 7), .int 0, .ref (g 8), .int 0, .ref (g 9), .ref (g 10), .int 0, .ref (g 11), .ref (g 12), .ref (g 13), .int 0, .int 0, .ref (g 14), .ref (g 15), .int 0, .int 0, .int 0, .ref (g 16), .long 0, .ref (g 17), .ref (g 18), .ref (g 19)])), (g 1, .inl (cs 1, 400, .inl (fun _ => 0)))] sz) := by
  refine Met.ofW (cc := cX12_feed) (maxL := 6) (ret := (some .int)) (by decide) rfl ?_
  intro p e s m args below meth c s₁ B hml hv
  obtain ⟨rfl, hsz, hP, hD0, hE⟩ := hv
  have hx := B.exec
  have hb := B.bytes
  have hr := B.returns
  have hT : ∀ w ∈ TB, w.before _ s = true := fun w h => atoms_spec (ws := hz_w yX12_feed cX12_feed 6 (some .int)) B.pre w (List.mem_cons_of_mem _ h)
  have hown : s.vm.findClass RX12 = some m.cls := findClass_of_methodNamed B.named
  have hlocks := B.notSynchronized
  clear B
  subst hsz
  have hD := hD0.self (sz := s.heap.size)
  generalize hAe : va_A [(g 0, .inr (12, [.ref (g 1), .int 0, .int 0, .ref (g 2), .ref (g 3), .ref (g 4), .ref (g 5), .ref (g 6), .int 0, .int 0, .int 0, .int 0, .int 0, .int 0, .int 0, .ref (g 7), .int 0, .ref (g 8), .int 0, .ref (g 9), .ref (g 10), .int 0, .ref (g 11), .ref (g 12), .ref (g 13), .int 0, .int 0, .ref (g 14), .ref (g 15), .int 0, .int 0, .int 0, .ref (g 16), .long 0, .ref (g 17), .ref (g 18), .ref (g 19)])), (g 1, .inl (cs 1, 400, .inl (fun _ => 0)))] s.heap.size = A at hD hE ⊢
  have hA : ∀ q : Nat, s.heap.size ≤ q → A q := fun q h => by rw [← hAe]; exact Or.inr h
  clear hAe hD0
  have hS : va_S A s.heap s.heap [] := va_S.rf
  have hK := hE.1
  have hl := lv_entry ([.ref (g 0), .int p0, .int p1, .int p2, .int p3, .int p4]) (n := 6) (Nat.le_of_ble_eq_true rfl)
  rw [lg_entry_eq]
  generalize (lg_sl ([.ref (g 0), .int p0, .int p1, .int p2, .int p3, .int p4]) ++ List.replicate (6 - (lg_sl ([.ref (g 0), .int p0, .int p1, .int p2, .int p3, .int p4])).length) Slot.unset).toArray = ls at hl ⊢
  have hl : lv_has ls 6 [(0, .ref (g 0)), (1, .int p0), (2, .int p1), (3, .int p2), (4, .int p3), (5, .int p4)] := hl
  obtain ⟨H, eH⟩ : ∃ z, z = s.heap := ⟨_, rfl⟩
  have hP : va_P D classes [(g 0, .inr (12, [.ref (g 1), .int 0, .int 0, .ref (g 2), .ref (g 3), .ref (g 4), .ref (g 5), .ref (g 6), .int 0, .int 0, .int 0, .int 0, .int 0, .int 0, .int 0, .ref (g 7), .int 0, .ref (g 8), .int 0, .ref (g 9), .ref (g 10), .int 0, .ref (g 11), .ref (g 12), .ref (g 13), .int 0, .int 0, .ref (g 14), .ref (g 15), .int 0, .int 0, .int 0, .ref (g 16), .long 0, .ref (g 17), .ref (g 18), .ref (g 19)])), (g 1, .inl (cs 1, 400, .inl (fun _ => 0)))] H := by rw [eH]; exact hP
  have hS : va_S A s.heap H [] := by rw [eH]; exact hS
  rw [← eH]
  clear eH
  refine lv_aload_n hx hb dX12_feed_0 rfl (lv_at hl 0 rfl) ?_
  refine va_get (D := D) (ci := 12) (v := .int 0) (C := RX12) (T := TX12) (N := 37) hx hb hT i_X12 hown hK hP 0 rfl rfl 1 (by decide) (hT _ q_283) (fun _ h9 => h9) rfl dX12_feed_1 ?_
  refine lv_bipush (v := 20) hx hb dX12_feed_4 (by decide) ?_
  refine lv_iadd hx hb dX12_feed_6 ?_
  refine hz_ev 20 (by decide) ?_
  refine lv_sipush (v := 400) hx hb dX12_feed_7 (by decide) ?_
  refine lv_icmp_le (tgt := 15) hx hb dX12_feed_10 (by decide) (fun _ => ?_) (fun z => absurd (by decide) z)
  refine lv_aload_n hx hb dX12_feed_15 rfl (lv_at hl 0 rfl) ?_
  refine lv_iload_n hx hb dX12_feed_16 rfl (lv_at hl 1 rfl) ?_
  have hFc := va_free (wc := [(g 0, .inr (12, [.ref (g 1), .int 0, .int 0, .ref (g 2), .ref (g 3), .ref (g 4), .ref (g 5), .ref (g 6), .int 0, .int 0, .int 0, .int 0, .int 0, .int 0, .int 0, .ref (g 7), .int 0, .ref (g 8), .int 0, .ref (g 9), .ref (g 10), .int 0, .ref (g 11), .ref (g 12), .ref (g 13), .int 0, .int 0, .ref (g 14), .ref (g 15), .int 0, .int 0, .int 0, .ref (g 16), .long 0, .ref (g 17), .ref (g 18), .ref (g 19)])), (g 1, .inl (cs 1, 400, .inl (fun _ => 0)))]) hD hS hA [0,1] rfl
  refine va_callv (va_runV (As := [.int p0]) (rest := []) ⟨hx, hb, hml, hown, hT⟩ (c_X12_four l D cs kK kV g 0 (fun _ => 0) p0 ((by unfold vp_in; decide)) ((by unfold vp_in; decide)) ((by unfold vp_in; decide)) ((by unfold vp_in; decide)) 4 ((by decide)) H.size) (cwV 1 hT (hz_gV q_336 q_337 q_338 q_252 q_339) rfl rfl rfl (by decide +kernel) ⟨(Nat.le_of_ble_eq_true rfl), (Nat.le_of_ble_eq_true rfl)⟩) ⟨hz_C.blind, va_recv hK hP (ci := 12) (q0 := 0) rfl rfl, hz_C.mk (hP.sub (ws' := [(g 0, .inr (12, [.ref (g 1), .int 0, .int 0, .ref (g 2), .ref (g 3), .ref (g 4), .ref (g 5), .ref (g 6), .int 0, .int 0, .int 0, .int 0, .int 0, .int 0, .int 0, .ref (g 7), .int 0, .ref (g 8), .int 0, .ref (g 9), .ref (g 10), .int 0, .ref (g 11), .ref (g 12), .ref (g 13), .int 0, .int 0, .ref (g 14), .ref (g 15), .int 0, .int 0, .int 0, .ref (g 16), .long 0, .ref (g 17), .ref (g 18), .ref (g 19)])), (g 1, .inl (cs 1, 400, .inl (fun _ => 0)))]) [0,1] rfl) (hD.sub (ws' := [(g 0, .inr (12, [.ref (g 1), .int 0, .int 0, .ref (g 2), .ref (g 3), .ref (g 4), .ref (g 5), .ref (g 6), .int 0, .int 0, .int 0, .int 0, .int 0, .int 0, .int 0, .ref (g 7), .int 0, .ref (g 8), .int 0, .ref (g 9), .ref (g 10), .int 0, .ref (g 11), .ref (g 12), .ref (g 13), .int 0, .int 0, .ref (g 14), .ref (g 15), .int 0, .int 0, .int 0, .ref (g 16), .long 0, .ref (g 17), .ref (g 18), .ref (g 19)])), (g 1, .inl (cs 1, 400, .inl (fun _ => 0)))]) [0,1] (by decide) rfl) hE hS hFc⟩ rfl rfl hl.1 rfl (lv_room (Nat.le_of_ble_eq_true rfl)) dX12_feed_17 ⟨(Nat.le_of_ble_eq_true rfl), (Nat.le_of_ble_eq_true rfl)⟩) hS (fun q _ h => hFc q h) hFc (fun u t H1 locs ht hvm hw hB hz1 hk1 hS => ?_)
  obtain ⟨f_2, hP1, hD1⟩ := hB
  rw [ht] at hP1
  obtain ⟨hP, hD⟩ := va_join (wr := []) (w1 := [(g 0, .inr (12, [.ref (g 1), .int 4, .int 0, .ref (g 2), .ref (g 3), .ref (g 4), .ref (g 5), .ref (g 6), .int 0, .int 0, .int 0, .int 0, .int 0, .int 0, .int 0, .ref (g 7), .int 0, .ref (g 8), .int 0, .ref (g 9), .ref (g 10), .int 0, .ref (g 11), .ref (g 12), .ref (g 13), .int 0, .int 0, .ref (g 14), .ref (g 15), .int 0, .int 0, .int 0, .ref (g 16), .long 0, .ref (g 17), .ref (g 18), .ref (g 19)])), (g 1, .inl (cs 1, 400, .inl f_2))]) hP hD [0, 1] [] rfl rfl (by decide) (by decide) hk1 hFc hP1 hD1
  generalize H1 = H at hP hS ⊢
  have hP : va_P D classes [(g 0, .inr (12, [.ref (g 1), .int 4, .int 0, .ref (g 2), .ref (g 3), .ref (g 4), .ref (g 5), .ref (g 6), .int 0, .int 0, .int 0, .int 0, .int 0, .int 0, .int 0, .ref (g 7), .int 0, .ref (g 8), .int 0, .ref (g 9), .ref (g 10), .int 0, .ref (g 11), .ref (g 12), .ref (g 13), .int 0, .int 0, .ref (g 14), .ref (g 15), .int 0, .int 0, .int 0, .ref (g 16), .long 0, .ref (g 17), .ref (g 18), .ref (g 19)])), (g 1, .inl (cs 1, 400, .inl f_2))] H := hP
  have hD : va_D A [(g 0, .inr (12, [.ref (g 1), .int 4, .int 0, .ref (g 2), .ref (g 3), .ref (g 4), .ref (g 5), .ref (g 6), .int 0, .int 0, .int 0, .int 0, .int 0, .int 0, .int 0, .ref (g 7), .int 0, .ref (g 8), .int 0, .ref (g 9), .ref (g 10), .int 0, .ref (g 11), .ref (g 12), .ref (g 13), .int 0, .int 0, .ref (g 14), .ref (g 15), .int 0, .int 0, .int 0, .ref (g 16), .long 0, .ref (g 17), .ref (g 18), .ref (g 19)])), (g 1, .inl (cs 1, 400, .inl f_2))] := hD
  clear hk1 hFc hP1 hD1 hz1
  refine lv_aload_n hx hb dX12_feed_20 rfl (lv_at hl 0 rfl) ?_
  refine lv_iload_n hx hb dX12_feed_21 rfl (lv_at hl 2 rfl) ?_
  have hFc := va_free (wc := [(g 0, .inr (12, [.ref (g 1), .int 4, .int 0, .ref (g 2), .ref (g 3), .ref (g 4), .ref (g 5), .ref (g 6), .int 0, .int 0, .int 0, .int 0, .int 0, .int 0, .int 0, .ref (g 7), .int 0, .ref (g 8), .int 0, .ref (g 9), .ref (g 10), .int 0, .ref (g 11), .ref (g 12), .ref (g 13), .int 0, .int 0, .ref (g 14), .ref (g 15), .int 0, .int 0, .int 0, .ref (g 16), .long 0, .ref (g 17), .ref (g 18), .ref (g 19)])), (g 1, .inl (cs 1, 400, .inl f_2))]) hD hS hA [0,1] rfl
  refine va_callv (va_runV (As := [.int p1]) (rest := []) ⟨hx, hb, hml, hown, hT⟩ (c_X12_four l D cs kK kV g 4 f_2 p1 ((by unfold vp_in; decide)) ((by unfold vp_in; decide)) ((by unfold vp_in; decide)) ((by unfold vp_in; decide)) 8 ((by decide)) H.size) (cwV 1 hT (hz_gV q_336 q_337 q_338 q_252 q_339) rfl rfl rfl (by decide +kernel) ⟨(Nat.le_of_ble_eq_true rfl), (Nat.le_of_ble_eq_true rfl)⟩) ⟨hz_C.blind, va_recv hK hP (ci := 12) (q0 := 0) rfl rfl, hz_C.mk (hP.sub (ws' := [(g 0, .inr (12, [.ref (g 1), .int 4, .int 0, .ref (g 2), .ref (g 3), .ref (g 4), .ref (g 5), .ref (g 6), .int 0, .int 0, .int 0, .int 0, .int 0, .int 0, .int 0, .ref (g 7), .int 0, .ref (g 8), .int 0, .ref (g 9), .ref (g 10), .int 0, .ref (g 11), .ref (g 12), .ref (g 13), .int 0, .int 0, .ref (g 14), .ref (g 15), .int 0, .int 0, .int 0, .ref (g 16), .long 0, .ref (g 17), .ref (g 18), .ref (g 19)])), (g 1, .inl (cs 1, 400, .inl f_2))]) [0,1] rfl) (hD.sub (ws' := [(g 0, .inr (12, [.ref (g 1), .int 4, .int 0, .ref (g 2), .ref (g 3), .ref (g 4), .ref (g 5), .ref (g 6), .int 0, .int 0, .int 0, .int 0, .int 0, .int 0, .int 0, .ref (g 7), .int 0, .ref (g 8), .int 0, .ref (g 9), .ref (g 10), .int 0, .ref (g 11), .ref (g 12), .ref (g 13), .int 0, .int 0, .ref (g 14), .ref (g 15), .int 0, .int 0, .int 0, .ref (g 16), .long 0, .ref (g 17), .ref (g 18), .ref (g 19)])), (g 1, .inl (cs 1, 400, .inl f_2))]) [0,1] (by decide) rfl) hE hS hFc⟩ rfl rfl hl.1 rfl (lv_room (Nat.le_of_ble_eq_true rfl)) dX12_feed_22 ⟨(Nat.le_of_ble_eq_true rfl), (Nat.le_of_ble_eq_true rfl)⟩) hS (fun q _ h => hFc q h) hFc (fun u t H1 locs ht hvm hw hB hz1 hk1 hS => ?_)
  obtain ⟨f_4, hP1, hD1⟩ := hB
  rw [ht] at hP1
  obtain ⟨hP, hD⟩ := va_join (wr := []) (w1 := [(g 0, .inr (12, [.ref (g 1), .int 8, .int 0, .ref (g 2), .ref (g 3), .ref (g 4), .ref (g 5), .ref (g 6), .int 0, .int 0, .int 0, .int 0, .int 0, .int 0, .int 0, .ref (g 7), .int 0, .ref (g 8), .int 0, .ref (g 9), .ref (g 10), .int 0, .ref (g 11), .ref (g 12), .ref (g 13), .int 0, .int 0, .ref (g 14), .ref (g 15), .int 0, .int 0, .int 0, .ref (g 16), .long 0, .ref (g 17), .ref (g 18), .ref (g 19)])), (g 1, .inl (cs 1, 400, .inl f_4))]) hP hD [0, 1] [] rfl rfl (by decide) (by decide) hk1 hFc hP1 hD1
  generalize H1 = H at hP hS ⊢
  have hP : va_P D classes [(g 0, .inr (12, [.ref (g 1), .int 8, .int 0, .ref (g 2), .ref (g 3), .ref (g 4), .ref (g 5), .ref (g 6), .int 0, .int 0, .int 0, .int 0, .int 0, .int 0, .int 0, .ref (g 7), .int 0, .ref (g 8), .int 0, .ref (g 9), .ref (g 10), .int 0, .ref (g 11), .ref (g 12), .ref (g 13), .int 0, .int 0, .ref (g 14), .ref (g 15), .int 0, .int 0, .int 0, .ref (g 16), .long 0, .ref (g 17), .ref (g 18), .ref (g 19)])), (g 1, .inl (cs 1, 400, .inl f_4))] H := hP
  have hD : va_D A [(g 0, .inr (12, [.ref (g 1), .int 8, .int 0, .ref (g 2), .ref (g 3), .ref (g 4), .ref (g 5), .ref (g 6), .int 0, .int 0, .int 0, .int 0, .int 0, .int 0, .int 0, .ref (g 7), .int 0, .ref (g 8), .int 0, .ref (g 9), .ref (g 10), .int 0, .ref (g 11), .ref (g 12), .ref (g 13), .int 0, .int 0, .ref (g 14), .ref (g 15), .int 0, .int 0, .int 0, .ref (g 16), .long 0, .ref (g 17), .ref (g 18), .ref (g 19)])), (g 1, .inl (cs 1, 400, .inl f_4))] := hD
  clear hk1 hFc hP1 hD1 hz1
  refine lv_aload_n hx hb dX12_feed_25 rfl (lv_at hl 0 rfl) ?_
  refine lv_iload_n hx hb dX12_feed_26 rfl (lv_at hl 3 rfl) ?_
  have hFc := va_free (wc := [(g 0, .inr (12, [.ref (g 1), .int 8, .int 0, .ref (g 2), .ref (g 3), .ref (g 4), .ref (g 5), .ref (g 6), .int 0, .int 0, .int 0, .int 0, .int 0, .int 0, .int 0, .ref (g 7), .int 0, .ref (g 8), .int 0, .ref (g 9), .ref (g 10), .int 0, .ref (g 11), .ref (g 12), .ref (g 13), .int 0, .int 0, .ref (g 14), .ref (g 15), .int 0, .int 0, .int 0, .ref (g 16), .long 0, .ref (g 17), .ref (g 18), .ref (g 19)])), (g 1, .inl (cs 1, 400, .inl f_4))]) hD hS hA [0,1] rfl
  refine va_callv (va_runV (As := [.int p2]) (rest := []) ⟨hx, hb, hml, hown, hT⟩ (c_X12_four l D cs kK kV g 8 f_4 p2 ((by unfold vp_in; decide)) ((by unfold vp_in; decide)) ((by unfold vp_in; decide)) ((by unfold vp_in; decide)) 12 ((by decide)) H.size) (cwV 1 hT (hz_gV q_336 q_337 q_338 q_252 q_339) rfl rfl rfl (by decide +kernel) ⟨(Nat.le_of_ble_eq_true rfl), (Nat.le_of_ble_eq_true rfl)⟩) ⟨hz_C.blind, va_recv hK hP (ci := 12) (q0 := 0) rfl rfl, hz_C.mk (hP.sub (ws' := [(g 0, .inr (12, [.ref (g 1), .int 8, .int 0, .ref (g 2), .ref (g 3), .ref (g 4), .ref (g 5), .ref (g 6), .int 0, .int 0, .int 0, .int 0, .int 0, .int 0, .int 0, .ref (g 7), .int 0, .ref (g 8), .int 0, .ref (g 9), .ref (g 10), .int 0, .ref (g 11), .ref (g 12), .ref (g 13), .int 0, .int 0, .ref (g 14), .ref (g 15), .int 0, .int 0, .int 0, .ref (g 16), .long 0, .ref (g 17), .ref (g 18), .ref (g 19)])), (g 1, .inl (cs 1, 400, .inl f_4))]) [0,1] rfl) (hD.sub (ws' := [(g 0, .inr (12, [.ref (g 1), .int 8, .int 0, .ref (g 2), .ref (g 3), .ref (g 4), .ref (g 5), .ref (g 6), .int 0, .int 0, .int 0, .int 0, .int 0, .int 0, .int 0, .ref (g 7), .int 0, .ref (g 8), .int 0, .ref (g 9), .ref (g 10), .int 0, .ref (g 11), .ref (g 12), .ref (g 13), .int 0, .int 0, .ref (g 14), .ref (g 15), .int 0, .int 0, .int 0, .ref (g 16), .long 0, .ref (g 17), .ref (g 18), .ref (g 19)])), (g 1, .inl (cs 1, 400, .inl f_4))]) [0,1] (by decide) rfl) hE hS hFc⟩ rfl rfl hl.1 rfl (lv_room (Nat.le_of_ble_eq_true rfl)) dX12_feed_27 ⟨(Nat.le_of_ble_eq_true rfl), (Nat.le_of_ble_eq_true rfl)⟩) hS (fun q _ h => hFc q h) hFc (fun u t H1 locs ht hvm hw hB hz1 hk1 hS => ?_)
  obtain ⟨f_6, hP1, hD1⟩ := hB
  rw [ht] at hP1
  obtain ⟨hP, hD⟩ := va_join (wr := []) (w1 := [(g 0, .inr (12, [.ref (g 1), .int 12, .int 0, .ref (g 2), .ref (g 3), .ref (g 4), .ref (g 5), .ref (g 6), .int 0, .int 0, .int 0, .int 0, .int 0, .int 0, .int 0, .ref (g 7), .int 0, .ref (g 8), .int 0, .ref (g 9), .ref (g 10), .int 0, .ref (g 11), .ref (g 12), .ref (g 13), .int 0, .int 0, .ref (g 14), .ref (g 15), .int 0, .int 0, .int 0, .ref (g 16), .long 0, .ref (g 17), .ref (g 18), .ref (g 19)])), (g 1, .inl (cs 1, 400, .inl f_6))]) hP hD [0, 1] [] rfl rfl (by decide) (by decide) hk1 hFc hP1 hD1
  generalize H1 = H at hP hS ⊢
  have hP : va_P D classes [(g 0, .inr (12, [.ref (g 1), .int 12, .int 0, .ref (g 2), .ref (g 3), .ref (g 4), .ref (g 5), .ref (g 6), .int 0, .int 0, .int 0, .int 0, .int 0, .int 0, .int 0, .ref (g 7), .int 0, .ref (g 8), .int 0, .ref (g 9), .ref (g 10), .int 0, .ref (g 11), .ref (g 12), .ref (g 13), .int 0, .int 0, .ref (g 14), .ref (g 15), .int 0, .int 0, .int 0, .ref (g 16), .long 0, .ref (g 17), .ref (g 18), .ref (g 19)])), (g 1, .inl (cs 1, 400, .inl f_6))] H := hP
  have hD : va_D A [(g 0, .inr (12, [.ref (g 1), .int 12, .int 0, .ref (g 2), .ref (g 3), .ref (g 4), .ref (g 5), .ref (g 6), .int 0, .int 0, .int 0, .int 0, .int 0, .int 0, .int 0, .ref (g 7), .int 0, .ref (g 8), .int 0, .ref (g 9), .ref (g 10), .int 0, .ref (g 11), .ref (g 12), .ref (g 13), .int 0, .int 0, .ref (g 14), .ref (g 15), .int 0, .int 0, .int 0, .ref (g 16), .long 0, .ref (g 17), .ref (g 18), .ref (g 19)])), (g 1, .inl (cs 1, 400, .inl f_6))] := hD
  clear hk1 hFc hP1 hD1 hz1
  refine lv_aload_n hx hb dX12_feed_30 rfl (lv_at hl 0 rfl) ?_
  refine lv_iload hx hb dX12_feed_31 (lv_at hl 4 rfl) ?_
  have hFc := va_free (wc := [(g 0, .inr (12, [.ref (g 1), .int 12, .int 0, .ref (g 2), .ref (g 3), .ref (g 4), .ref (g 5), .ref (g 6), .int 0, .int 0, .int 0, .int 0, .int 0, .int 0, .int 0, .ref (g 7), .int 0, .ref (g 8), .int 0, .ref (g 9), .ref (g 10), .int 0, .ref (g 11), .ref (g 12), .ref (g 13), .int 0, .int 0, .ref (g 14), .ref (g 15), .int 0, .int 0, .int 0, .ref (g 16), .long 0, .ref (g 17), .ref (g 18), .ref (g 19)])), (g 1, .inl (cs 1, 400, .inl f_6))]) hD hS hA [0,1] rfl
  refine va_callv (va_runV (As := [.int p3]) (rest := []) ⟨hx, hb, hml, hown, hT⟩ (c_X12_four l D cs kK kV g 12 f_6 p3 ((by unfold vp_in; decide)) ((by unfold vp_in; decide)) ((by unfold vp_in; decide)) ((by unfold vp_in; decide)) 16 ((by decide)) H.size) (cwV 1 hT (hz_gV q_336 q_337 q_338 q_252 q_339) rfl rfl rfl (by decide +kernel) ⟨(Nat.le_of_ble_eq_true rfl), (Nat.le_of_ble_eq_true rfl)⟩) ⟨hz_C.blind, va_recv hK hP (ci := 12) (q0 := 0) rfl rfl, hz_C.mk (hP.sub (ws' := [(g 0, .inr (12, [.ref (g 1), .int 12, .int 0, .ref (g 2), .ref (g 3), .ref (g 4), .ref (g 5), .ref (g 6), .int 0, .int 0, .int 0, .int 0, .int 0, .int 0, .int 0, .ref (g 7), .int 0, .ref (g 8), .int 0, .ref (g 9), .ref (g 10), .int 0, .ref (g 11), .ref (g 12), .ref (g 13), .int 0, .int 0, .ref (g 14), .ref (g 15), .int 0, .int 0, .int 0, .ref (g 16), .long 0, .ref (g 17), .ref (g 18), .ref (g 19)])), (g 1, .inl (cs 1, 400, .inl f_6))]) [0,1] rfl) (hD.sub (ws' := [(g 0, .inr (12, [.ref (g 1), .int 12, .int 0, .ref (g 2), .ref (g 3), .ref (g 4), .ref (g 5), .ref (g 6), .int 0, .int 0, .int 0, .int 0, .int 0, .int 0, .int 0, .ref (g 7), .int 0, .ref (g 8), .int 0, .ref (g 9), .ref (g 10), .int 0, .ref (g 11), .ref (g 12), .ref (g 13), .int 0, .int 0, .ref (g 14), .ref (g 15), .int 0, .int 0, .int 0, .ref (g 16), .long 0, .ref (g 17), .ref (g 18), .ref (g 19)])), (g 1, .inl (cs 1, 400, .inl f_6))]) [0,1] (by decide) rfl) hE hS hFc⟩ rfl rfl hl.1 rfl (lv_room (Nat.le_of_ble_eq_true rfl)) dX12_feed_33 ⟨(Nat.le_of_ble_eq_true rfl), (Nat.le_of_ble_eq_true rfl)⟩) hS (fun q _ h => hFc q h) hFc (fun u t H1 locs ht hvm hw hB hz1 hk1 hS => ?_)
  obtain ⟨f_8, hP1, hD1⟩ := hB
  rw [ht] at hP1
  obtain ⟨hP, hD⟩ := va_join (wr := []) (w1 := [(g 0, .inr (12, [.ref (g 1), .int 16, .int 0, .ref (g 2), .ref (g 3), .ref (g 4), .ref (g 5), .ref (g 6), .int 0, .int 0, .int 0, .int 0, .int 0, .int 0, .int 0, .ref (g 7), .int 0, .ref (g 8), .int 0, .ref (g 9), .ref (g 10), .int 0, .ref (g 11), .ref (g 12), .ref (g 13), .int 0, .int 0, .ref (g 14), .ref (g 15), .int 0, .int 0, .int 0, .ref (g 16), .long 0, .ref (g 17), .ref (g 18), .ref (g 19)])), (g 1, .inl (cs 1, 400, .inl f_8))]) hP hD [0, 1] [] rfl rfl (by decide) (by decide) hk1 hFc hP1 hD1
  generalize H1 = H at hP hS ⊢
  have hP : va_P D classes [(g 0, .inr (12, [.ref (g 1), .int 16, .int 0, .ref (g 2), .ref (g 3), .ref (g 4), .ref (g 5), .ref (g 6), .int 0, .int 0, .int 0, .int 0, .int 0, .int 0, .int 0, .ref (g 7), .int 0, .ref (g 8), .int 0, .ref (g 9), .ref (g 10), .int 0, .ref (g 11), .ref (g 12), .ref (g 13), .int 0, .int 0, .ref (g 14), .ref (g 15), .int 0, .int 0, .int 0, .ref (g 16), .long 0, .ref (g 17), .ref (g 18), .ref (g 19)])), (g 1, .inl (cs 1, 400, .inl f_8))] H := hP
  have hD : va_D A [(g 0, .inr (12, [.ref (g 1), .int 16, .int 0, .ref (g 2), .ref (g 3), .ref (g 4), .ref (g 5), .ref (g 6), .int 0, .int 0, .int 0, .int 0, .int 0, .int 0, .int 0, .ref (g 7), .int 0, .ref (g 8), .int 0, .ref (g 9), .ref (g 10), .int 0, .ref (g 11), .ref (g 12), .ref (g 13), .int 0, .int 0, .ref (g 14), .ref (g 15), .int 0, .int 0, .int 0, .ref (g 16), .long 0, .ref (g 17), .ref (g 18), .ref (g 19)])), (g 1, .inl (cs 1, 400, .inl f_8))] := hD
  clear hk1 hFc hP1 hD1 hz1
  refine lv_aload_n hx hb dX12_feed_36 rfl (lv_at hl 0 rfl) ?_
  refine lv_iload hx hb dX12_feed_37 (lv_at hl 5 rfl) ?_
  have hFc := va_free (wc := [(g 0, .inr (12, [.ref (g 1), .int 16, .int 0, .ref (g 2), .ref (g 3), .ref (g 4), .ref (g 5), .ref (g 6), .int 0, .int 0, .int 0, .int 0, .int 0, .int 0, .int 0, .ref (g 7), .int 0, .ref (g 8), .int 0, .ref (g 9), .ref (g 10), .int 0, .ref (g 11), .ref (g 12), .ref (g 13), .int 0, .int 0, .ref (g 14), .ref (g 15), .int 0, .int 0, .int 0, .ref (g 16), .long 0, .ref (g 17), .ref (g 18), .ref (g 19)])), (g 1, .inl (cs 1, 400, .inl f_8))]) hD hS hA [0,1] rfl
  refine va_callv (va_runV (As := [.int p4]) (rest := []) ⟨hx, hb, hml, hown, hT⟩ (c_X12_four l D cs kK kV g 16 f_8 p4 ((by unfold vp_in; decide)) ((by unfold vp_in; decide)) ((by unfold vp_in; decide)) ((by unfold vp_in; decide)) 20 ((by decide)) H.size) (cwV 1 hT (hz_gV q_336 q_337 q_338 q_252 q_339) rfl rfl rfl (by decide +kernel) ⟨(Nat.le_of_ble_eq_true rfl), (Nat.le_of_ble_eq_true rfl)⟩) ⟨hz_C.blind, va_recv hK hP (ci := 12) (q0 := 0) rfl rfl, hz_C.mk (hP.sub (ws' := [(g 0, .inr (12, [.ref (g 1), .int 16, .int 0, .ref (g 2), .ref (g 3), .ref (g 4), .ref (g 5), .ref (g 6), .int 0, .int 0, .int 0, .int 0, .int 0, .int 0, .int 0, .ref (g 7), .int 0, .ref (g 8), .int 0, .ref (g 9), .ref (g 10), .int 0, .ref (g 11), .ref (g 12), .ref (g 13), .int 0, .int 0, .ref (g 14), .ref (g 15), .int 0, .int 0, .int 0, .ref (g 16), .long 0, .ref (g 17), .ref (g 18), .ref (g 19)])), (g 1, .inl (cs 1, 400, .inl f_8))]) [0,1] rfl) (hD.sub (ws' := [(g 0, .inr (12, [.ref (g 1), .int 16, .int 0, .ref (g 2), .ref (g 3), .ref (g 4), .ref (g 5), .ref (g 6), .int 0, .int 0, .int 0, .int 0, .int 0, .int 0, .int 0, .ref (g 7), .int 0, .ref (g 8), .int 0, .ref (g 9), .ref (g 10), .int 0, .ref (g 11), .ref (g 12), .ref (g 13), .int 0, .int 0, .ref (g 14), .ref (g 15), .int 0, .int 0, .int 0, .ref (g 16), .long 0, .ref (g 17), .ref (g 18), .ref (g 19)])), (g 1, .inl (cs 1, 400, .inl f_8))]) [0,1] (by decide) rfl) hE hS hFc⟩ rfl rfl hl.1 rfl (lv_room (Nat.le_of_ble_eq_true rfl)) dX12_feed_39 ⟨(Nat.le_of_ble_eq_true rfl), (Nat.le_of_ble_eq_true rfl)⟩) hS (fun q _ h => hFc q h) hFc (fun u t H1 locs ht hvm hw hB hz1 hk1 hS => ?_)
  obtain ⟨f_10, hP1, hD1⟩ := hB
  rw [ht] at hP1
  obtain ⟨hP, hD⟩ := va_join (wr := []) (w1 := [(g 0, .inr (12, [.ref (g 1), .int 20, .int 0, .ref (g 2), .ref (g 3), .ref (g 4), .ref (g 5), .ref (g 6), .int 0, .int 0, .int 0, .int 0, .int 0, .int 0, .int 0, .ref (g 7), .int 0, .ref (g 8), .int 0, .ref (g 9), .ref (g 10), .int 0, .ref (g 11), .ref (g 12), .ref (g 13), .int 0, .int 0, .ref (g 14), .ref (g 15), .int 0, .int 0, .int 0, .ref (g 16), .long 0, .ref (g 17), .ref (g 18), .ref (g 19)])), (g 1, .inl (cs 1, 400, .inl f_10))]) hP hD [0, 1] [] rfl rfl (by decide) (by decide) hk1 hFc hP1 hD1
  generalize H1 = H at hP hS ⊢
  have hP : va_P D classes [(g 0, .inr (12, [.ref (g 1), .int 20, .int 0, .ref (g 2), .ref (g 3), .ref (g 4), .ref (g 5), .ref (g 6), .int 0, .int 0, .int 0, .int 0, .int 0, .int 0, .int 0, .ref (g 7), .int 0, .ref (g 8), .int 0, .ref (g 9), .ref (g 10), .int 0, .ref (g 11), .ref (g 12), .ref (g 13), .int 0, .int 0, .ref (g 14), .ref (g 15), .int 0, .int 0, .int 0, .ref (g 16), .long 0, .ref (g 17), .ref (g 18), .ref (g 19)])), (g 1, .inl (cs 1, 400, .inl f_10))] H := hP
  have hD : va_D A [(g 0, .inr (12, [.ref (g 1), .int 20, .int 0, .ref (g 2), .ref (g 3), .ref (g 4), .ref (g 5), .ref (g 6), .int 0, .int 0, .int 0, .int 0, .int 0, .int 0, .int 0, .ref (g 7), .int 0, .ref (g 8), .int 0, .ref (g 9), .ref (g 10), .int 0, .ref (g 11), .ref (g 12), .ref (g 13), .int 0, .int 0, .ref (g 14), .ref (g 15), .int 0, .int 0, .int 0, .ref (g 16), .long 0, .ref (g 17), .ref (g 18), .ref (g 19)])), (g 1, .inl (cs 1, 400, .inl f_10))] := hD
  clear hk1 hFc hP1 hD1 hz1
  refine lv_aload_n hx hb dX12_feed_42 rfl (lv_at hl 0 rfl) ?_
  refine va_get (D := D) (ci := 12) (v := .int 20) (C := RX12) (T := TX12) (N := 37) hx hb hT i_X12 hown hK hP 0 rfl rfl 1 (by decide) (hT _ q_283) (fun _ h9 => h9) rfl dX12_feed_43 ?_
  exact W.iret (v := 20) hx hb hr (fun t ht hW => ⟨⟨20, (), rfl, rfl, trivial⟩, hS.F ht⟩) hS.2.2 dX12_feed_46
theorem dX12_end_0 : decode cX12_end 0 = .ok (.iload_n 1, 1) := by decide +kernel
theorem dX12_end_1 : decode cX12_end 1 = .ok (.ifCond .lt 11, 3) := by decide +kernel
theorem dX12_end_4 : decode cX12_end 4 = .ok (.iload_n 1, 1) := by decide +kernel
theorem dX12_end_5 : decode cX12_end 5 = .ok (.aload_n 0, 1) := by decide +kernel
theorem dX12_end_6 : decode cX12_end 6 = .ok (.getfield 70, 3) := by decide +kernel
theorem dX12_end_9 : decode cX12_end 9 = .ok (.if_icmp .le 5, 3) := by decide +kernel
theorem dX12_end_12 : decode cX12_end 12 = .ok (.iconst (-1), 1) := by decide +kernel
theorem dX12_end_13 : decode cX12_end 13 = .ok (.ireturn, 1) := by decide +kernel
theorem dX12_end_14 : decode cX12_end 14 = .ok (.aload_n 0, 1) := by decide +kernel
theorem dX12_end_15 : decode cX12_end 15 = .ok (.iload_n 1, 1) := by decide +kernel
theorem dX12_end_16 : decode cX12_end 16 = .ok (.putfield 70, 3) := by decide +kernel
theorem dX12_end_19 : decode cX12_end 19 = .ok (.iload_n 1, 1) := by decide +kernel
theorem dX12_end_20 : decode cX12_end 20 = .ok (.ireturn, 1) := by decide +kernel
set_option maxHeartbeats 4000000 in
set_option maxRecDepth 100000 in
theorem c_X12_end (l : Launch) (D : va_G) (cs : Nat → ClassId) (kK kV : Nat → Nat) (g : Nat → Nat) (p0 : Int32) (sz : Nat) : Met l yX12_end (hz_w yX12_end cX12_end 2 (some .int)) ({ frames := 0, cells := 0, slots := 0, locals := 0 }) (va_Pc [.ref (g 0), .int p0] (hz_C D cs kK kV sz [(g 0, .inr (12, [.ref (g 1), .int 0, .int 0, .ref (g 2), .ref (g 3), .ref (g 4), .ref (g 5), .ref (g 6), .int 0, .int 0, .int 0, .int 0, .int 0, .int 0, .int 0, .ref (g 7), .int 0, .ref (g 8), .int 0, .ref (g 9), .ref (g 10), .int 0, .ref (g 11), .ref (g 12), .ref (g 13), .int 0, .int 0, .ref (g 14), .ref (g 15), .int 0, .int 0, .int 0, .ref (g 16), .long 0, .ref (g 17), .ref (g 18), .ref (g 19)]))])) (va_Qi (fun (r : Int32) (_ : Unit) => r = hz_end p0) (fun _ t => True) (va_A [(g 0, .inr (12, [.ref (g 1), .int 0, .int 0, .ref (g 2), .ref (g 3), .ref (g 4), .ref (g 5), .ref (g 6), .int 0, .int 0, .int 0, .int 0, .int 0, .int 0, .int 0, .ref (g 7), .int 0, .ref (g 8), .int 0, .ref (g 9), .ref (g 10), .int 0, .ref (g 11), .ref (g 12), .ref (g 13), .int 0, .int 0, .ref (g 14), .ref (g 15), .int 0, .int 0, .int 0, .ref (g 16), .long 0, .ref (g 17), .ref (g 18), .ref (g 19)]))] sz)) 0 0 (va_A [(g 0, .inr (12, [.ref (g 1), .int 0, .int 0, .ref (g 2), .ref (g 3), .ref (g 4), .ref (g 5), .ref (g 6), .int 0, .int 0, .int 0, .int 0, .int 0, .int 0, .int 0, .ref (g 7), .int 0, .ref (g 8), .int 0, .ref (g 9), .ref (g 10), .int 0, .ref (g 11), .ref (g 12), .ref (g 13), .int 0, .int 0, .ref (g 14), .ref (g 15), .int 0, .int 0, .int 0, .ref (g 16), .long 0, .ref (g 17), .ref (g 18), .ref (g 19)]))] sz) := by
  refine Met.ofW (cc := cX12_end) (maxL := 2) (ret := (some .int)) (by decide) rfl ?_
  intro p e s m args below meth c s₁ B hml hv
  obtain ⟨rfl, hsz, hP, hD0, hE⟩ := hv
  have hx := B.exec
  have hb := B.bytes
  have hr := B.returns
  have hT : ∀ w ∈ TB, w.before _ s = true := fun w h => atoms_spec (ws := hz_w yX12_end cX12_end 2 (some .int)) B.pre w (List.mem_cons_of_mem _ h)
  have hown : s.vm.findClass RX12 = some m.cls := findClass_of_methodNamed B.named
  have hlocks := B.notSynchronized
  clear B
  subst hsz
  have hD := hD0.self (sz := s.heap.size)
  generalize hAe : va_A [(g 0, .inr (12, [.ref (g 1), .int 0, .int 0, .ref (g 2), .ref (g 3), .ref (g 4), .ref (g 5), .ref (g 6), .int 0, .int 0, .int 0, .int 0, .int 0, .int 0, .int 0, .ref (g 7), .int 0, .ref (g 8), .int 0, .ref (g 9), .ref (g 10), .int 0, .ref (g 11), .ref (g 12), .ref (g 13), .int 0, .int 0, .ref (g 14), .ref (g 15), .int 0, .int 0, .int 0, .ref (g 16), .long 0, .ref (g 17), .ref (g 18), .ref (g 19)]))] s.heap.size = A at hD hE ⊢
  have hA : ∀ q : Nat, s.heap.size ≤ q → A q := fun q h => by rw [← hAe]; exact Or.inr h
  clear hAe hD0
  have hS : va_S A s.heap s.heap [] := va_S.rf
  have hK := hE.1
  have hl := lv_entry ([.ref (g 0), .int p0]) (n := 2) (Nat.le_of_ble_eq_true rfl)
  rw [lg_entry_eq]
  generalize (lg_sl ([.ref (g 0), .int p0]) ++ List.replicate (2 - (lg_sl ([.ref (g 0), .int p0])).length) Slot.unset).toArray = ls at hl ⊢
  have hl : lv_has ls 2 [(0, .ref (g 0)), (1, .int p0)] := hl
  obtain ⟨H, eH⟩ : ∃ z, z = s.heap := ⟨_, rfl⟩
  have hP : va_P D classes [(g 0, .inr (12, [.ref (g 1), .int 0, .int 0, .ref (g 2), .ref (g 3), .ref (g 4), .ref (g 5), .ref (g 6), .int 0, .int 0, .int 0, .int 0, .int 0, .int 0, .int 0, .ref (g 7), .int 0, .ref (g 8), .int 0, .ref (g 9), .ref (g 10), .int 0, .ref (g 11), .ref (g 12), .ref (g 13), .int 0, .int 0, .ref (g 14), .ref (g 15), .int 0, .int 0, .int 0, .ref (g 16), .long 0, .ref (g 17), .ref (g 18), .ref (g 19)]))] H := by rw [eH]; exact hP
  have hS : va_S A s.heap H [] := by rw [eH]; exact hS
  rw [← eH]
  clear eH
  refine lv_iload_n hx hb dX12_end_0 rfl (lv_at hl 1 rfl) ?_
  refine lv_if_lt (tgt := 12) hx hb dX12_end_1 (by decide) (fun c_1 => ?_) (fun c_1 => ?_)
  · refine lv_iconst (v := -1) hx hb dX12_end_12 (by decide) ?_
    exact W.iret (v := -1) hx hb hr (fun t ht hW => ⟨⟨-1, (), rfl, (by unfold hz_end; rw [if_pos c_1]), trivial⟩, hS.F ht⟩) hS.2.2 dX12_end_13
  · refine lv_iload_n hx hb dX12_end_4 rfl (lv_at hl 1 rfl) ?_
    refine lv_aload_n hx hb dX12_end_5 rfl (lv_at hl 0 rfl) ?_
    refine va_get (D := D) (ci := 12) (v := .int 0) (C := RX12) (T := TX12) (N := 37) hx hb hT i_X12 hown hK hP 0 rfl rfl 1 (by decide) (hT _ q_283) (fun _ h9 => h9) rfl dX12_end_6 ?_
    refine lv_icmp_le (tgt := 14) hx hb dX12_end_9 (by decide) (fun c_2 => ?_) (fun c_2 => ?_)
    · refine lv_aload_n hx hb dX12_end_14 rfl (lv_at hl 0 rfl) ?_
      refine lv_iload_n hx hb dX12_end_15 rfl (lv_at hl 1 rfl) ?_
      refine va_put (D := D) (ci := 12) (v := .int p0) (ty := .int) (C := RX12) (T := TX12) (N := 37) hx hb hT i_X12 tyX12 tyX12_ok nmX12 hown hK hP hD hS 0 rfl rfl 1 (by decide) (hT _ q_283) (fun _ h9 => h9) rfl (by decide +kernel) rfl rfl (Nat.le_of_ble_eq_true rfl) dX12_end_16 (fun H locs hP hD hS => ?_)
      have hP : va_P D classes [(g 0, .inr (12, [.ref (g 1), .int p0, .int 0, .ref (g 2), .ref (g 3), .ref (g 4), .ref (g 5), .ref (g 6), .int 0, .int 0, .int 0, .int 0, .int 0, .int 0, .int 0, .ref (g 7), .int 0, .ref (g 8), .int 0, .ref (g 9), .ref (g 10), .int 0, .ref (g 11), .ref (g 12), .ref (g 13), .int 0, .int 0, .ref (g 14), .ref (g 15), .int 0, .int 0, .int 0, .ref (g 16), .long 0, .ref (g 17), .ref (g 18), .ref (g 19)]))] H := hP
      have hD : va_D A [(g 0, .inr (12, [.ref (g 1), .int p0, .int 0, .ref (g 2), .ref (g 3), .ref (g 4), .ref (g 5), .ref (g 6), .int 0, .int 0, .int 0, .int 0, .int 0, .int 0, .int 0, .ref (g 7), .int 0, .ref (g 8), .int 0, .ref (g 9), .ref (g 10), .int 0, .ref (g 11), .ref (g 12), .ref (g 13), .int 0, .int 0, .ref (g 14), .ref (g 15), .int 0, .int 0, .int 0, .ref (g 16), .long 0, .ref (g 17), .ref (g 18), .ref (g 19)]))] := hD
      refine lv_iload_n hx hb dX12_end_19 rfl (lv_at hl 1 rfl) ?_
      exact W.iret (v := p0) hx hb hr (fun t ht hW => ⟨⟨p0, (), rfl, (by unfold hz_end; rw [if_neg c_1, if_pos c_2]), trivial⟩, hS.F ht⟩) hS.2.2 dX12_end_20
    · refine lv_iconst (v := -1) hx hb dX12_end_12 (by decide) ?_
      exact W.iret (v := -1) hx hb hr (fun t ht hW => ⟨⟨-1, (), rfl, (by unfold hz_end; rw [if_neg c_1, if_neg c_2]), trivial⟩, hS.F ht⟩) hS.2.2 dX12_end_13
theorem dX12_trial_0 : decode cX12_trial 0 = .ok (.iload_n 1, 1) := by decide +kernel
theorem dX12_trial_1 : decode cX12_trial 1 = .ok (.iconst (-1), 1) := by decide +kernel
theorem dX12_trial_2 : decode cX12_trial 2 = .ok (.if_icmp .ne 13, 3) := by decide +kernel
theorem dX12_trial_5 : decode cX12_trial 5 = .ok (.aload_n 0, 1) := by decide +kernel
theorem dX12_trial_6 : decode cX12_trial 6 = .ok (.getfield 39, 3) := by decide +kernel
theorem dX12_trial_9 : decode cX12_trial 9 = .ok (.bipush 122, 2) := by decide +kernel
theorem dX12_trial_11 : decode cX12_trial 11 = .ok (.iconst 0, 1) := by decide +kernel
theorem dX12_trial_12 : decode cX12_trial 12 = .ok (.iastore, 1) := by decide +kernel
theorem dX12_trial_13 : decode cX12_trial 13 = .ok (.iconst 0, 1) := by decide +kernel
theorem dX12_trial_14 : decode cX12_trial 14 = .ok (.ireturn, 1) := by decide +kernel
theorem dX12_trial_15 : decode cX12_trial 15 = .ok (.aload_n 0, 1) := by decide +kernel
theorem dX12_trial_16 : decode cX12_trial 16 = .ok (.iload_n 1, 1) := by decide +kernel
theorem dX12_trial_17 : decode cX12_trial 17 = .ok (.invokevirtual 335, 3) := by decide +kernel
theorem dX12_trial_20 : decode cX12_trial 20 = .ok (.ifCond .eq 28, 3) := by decide +kernel
theorem dX12_trial_48 : decode cX12_trial 48 = .ok (.bipush (-2), 2) := by decide +kernel
theorem dX12_trial_50 : decode cX12_trial 50 = .ok (.ireturn, 1) := by decide +kernel
set_option maxHeartbeats 4000000 in
set_option maxRecDepth 100000 in
theorem c_X12_trial (l : Launch) (D : va_G) (cs : Nat → ClassId) (kK kV : Nat → Nat) (g : Nat → Nat) (p0 : Int32) (p1 : Int32) (p2 : Int32) (sz : Nat) : Met l yX12_trial (hz_w yX12_trial cX12_trial 5 (some .int)) ({ frames := 1, cells := 0, slots := 0, locals := 21 }) (va_Pc [.ref (g 0), .int p0, .int p1, .int p2] (hz_C D cs kK kV sz [(g 0, .inr (12, [.ref (g 1), .int 0, .int 0, .ref (g 2), .ref (g 3), .ref (g 4), .ref (g 5), .ref (g 6), .int 0, .int 0, .int 0, .int 0, .int 0, .int 0, .int 0, .ref (g 7), .int 0, .ref (g 8), .int 0, .ref (g 9), .ref (g 10), .int 0, .ref (g 11), .ref (g 12), .ref (g 13), .int 0, .int 0, .ref (g 14), .ref (g 15), .int 0, .int 0, .int 0, .ref (g 16), .long 0, .ref (g 17), .ref (g 18), .ref (g 19)])), (g 10, .inl (cs 0, 123, .inl (fun _ => 0)))])) (va_Qi (fun (r : Int32) (_ : Unit) => r = hz_trial p0) (fun _ t => True) (va_A [(g 0, .inr (12, [.ref (g 1), .int 0, .int 0, .ref (g 2), .ref (g 3), .ref (g 4), .ref (g 5), .ref (g 6), .int 0, .int 0, .int 0, .int 0, .int 0, .int 0, .int 0, .ref (g 7), .int 0, .ref (g 8), .int 0, .ref (g 9), .ref (g 10), .int 0, .ref (g 11), .ref (g 12), .ref (g 13), .int 0, .int 0, .ref (g 14), .ref (g 15), .int 0, .int 0, .int 0, .ref (g 16), .long 0, .ref (g 17), .ref (g 18), .ref (g 19)])), (g 10, .inl (cs 0, 123, .inl (fun _ => 0)))] sz)) 0 0 (va_A [(g 0, .inr (12, [.ref (g 1), .int 0, .int 0, .ref (g 2), .ref (g 3), .ref (g 4), .ref (g 5), .ref (g 6), .int 0, .int 0, .int 0, .int 0, .int 0, .int 0, .int 0, .ref (g 7), .int 0, .ref (g 8), .int 0, .ref (g 9), .ref (g 10), .int 0, .ref (g 11), .ref (g 12), .ref (g 13), .int 0, .int 0, .ref (g 14), .ref (g 15), .int 0, .int 0, .int 0, .ref (g 16), .long 0, .ref (g 17), .ref (g 18), .ref (g 19)])), (g 10, .inl (cs 0, 123, .inl (fun _ => 0)))] sz) := by
  refine Met.ofW (cc := cX12_trial) (maxL := 5) (ret := (some .int)) (by decide) rfl ?_
  intro p e s m args below meth c s₁ B hml hv
  obtain ⟨rfl, hsz, hP, hD0, hE⟩ := hv
  have hx := B.exec
  have hb := B.bytes
  have hr := B.returns
  have hT : ∀ w ∈ TB, w.before _ s = true := fun w h => atoms_spec (ws := hz_w yX12_trial cX12_trial 5 (some .int)) B.pre w (List.mem_cons_of_mem _ h)
  have hown : s.vm.findClass RX12 = some m.cls := findClass_of_methodNamed B.named
  have hlocks := B.notSynchronized
  clear B
  subst hsz
  have hD := hD0.self (sz := s.heap.size)
  generalize hAe : va_A [(g 0, .inr (12, [.ref (g 1), .int 0, .int 0, .ref (g 2), .ref (g 3), .ref (g 4), .ref (g 5), .ref (g 6), .int 0, .int 0, .int 0, .int 0, .int 0, .int 0, .int 0, .ref (g 7), .int 0, .ref (g 8), .int 0, .ref (g 9), .ref (g 10), .int 0, .ref (g 11), .ref (g 12), .ref (g 13), .int 0, .int 0, .ref (g 14), .ref (g 15), .int 0, .int 0, .int 0, .ref (g 16), .long 0, .ref (g 17), .ref (g 18), .ref (g 19)])), (g 10, .inl (cs 0, 123, .inl (fun _ => 0)))] s.heap.size = A at hD hE ⊢
  have hA : ∀ q : Nat, s.heap.size ≤ q → A q := fun q h => by rw [← hAe]; exact Or.inr h
  clear hAe hD0
  have hS : va_S A s.heap s.heap [] := va_S.rf
  have hK := hE.1
  have hl := lv_entry ([.ref (g 0), .int p0, .int p1, .int p2]) (n := 5) (Nat.le_of_ble_eq_true rfl)
  rw [lg_entry_eq]
  generalize (lg_sl ([.ref (g 0), .int p0, .int p1, .int p2]) ++ List.replicate (5 - (lg_sl ([.ref (g 0), .int p0, .int p1, .int p2])).length) Slot.unset).toArray = ls at hl ⊢
  have hl : lv_has ls 5 [(0, .ref (g 0)), (1, .int p0), (2, .int p1), (3, .int p2)] := hl
  obtain ⟨H, eH⟩ : ∃ z, z = s.heap := ⟨_, rfl⟩
  have hP : va_P D classes [(g 0, .inr (12, [.ref (g 1), .int 0, .int 0, .ref (g 2), .ref (g 3), .ref (g 4), .ref (g 5), .ref (g 6), .int 0, .int 0, .int 0, .int 0, .int 0, .int 0, .int 0, .ref (g 7), .int 0, .ref (g 8), .int 0, .ref (g 9), .ref (g 10), .int 0, .ref (g 11), .ref (g 12), .ref (g 13), .int 0, .int 0, .ref (g 14), .ref (g 15), .int 0, .int 0, .int 0, .ref (g 16), .long 0, .ref (g 17), .ref (g 18), .ref (g 19)])), (g 10, .inl (cs 0, 123, .inl (fun _ => 0)))] H := by rw [eH]; exact hP
  have hS : va_S A s.heap H [] := by rw [eH]; exact hS
  rw [← eH]
  clear eH
  refine lv_iload_n hx hb dX12_trial_0 rfl (lv_at hl 1 rfl) ?_
  refine lv_iconst (v := -1) hx hb dX12_trial_1 (by decide) ?_
  refine lv_icmp_ne (tgt := 15) hx hb dX12_trial_2 (by decide) (fun c_1 => ?_) (fun c_1 => ?_)
  · refine lv_aload_n hx hb dX12_trial_15 rfl (lv_at hl 0 rfl) ?_
    refine lv_iload_n hx hb dX12_trial_16 rfl (lv_at hl 1 rfl) ?_
    refine va_calli (va_runV (As := [.int p0]) (rest := []) ⟨hx, hb, hml, hown, hT⟩ (c_X12_isHalf l D cs kK kV g p0) (cwV 1 hT (hz_gV q_258 q_259 q_260 q_252 q_261) rfl rfl rfl (by decide +kernel) ⟨(Nat.le_of_ble_eq_true rfl), (Nat.le_of_ble_eq_true rfl)⟩) ⟨hz_P.blind, va_recv hK hP (ci := 12) (q0 := 0) rfl rfl, hz_P.mk (hP.sub (ws' := [(g 0, .inr (12, [.ref (g 1), .int 0, .int 0, .ref (g 2), .ref (g 3), .ref (g 4), .ref (g 5), .ref (g 6), .int 0, .int 0, .int 0, .int 0, .int 0, .int 0, .int 0, .ref (g 7), .int 0, .ref (g 8), .int 0, .ref (g 9), .ref (g 10), .int 0, .ref (g 11), .ref (g 12), .ref (g 13), .int 0, .int 0, .ref (g 14), .ref (g 15), .int 0, .int 0, .int 0, .ref (g 16), .long 0, .ref (g 17), .ref (g 18), .ref (g 19)])), (g 10, .inl (cs 0, 123, .inl (fun _ => 0)))]) [0,1] rfl) hE hS⟩ rfl rfl hl.1 rfl (lv_room (Nat.le_of_ble_eq_true rfl)) dX12_trial_17 ⟨(Nat.le_of_ble_eq_true rfl), (Nat.le_of_ble_eq_true rfl)⟩) hS (fun _ _ h => h.elim) (fun _ h => h.elim) (fun r_2 u t H1 locs ht hvm hw hB hz1 hk1 hS => ?_)
    have hP := hz_keep hP hk1
    clear hk1 hB hz1
    generalize H1 = H at hP hS ⊢
    subst hw
    refine lv_if_eq (tgt := 48) hx hb dX12_trial_20 (by decide) (fun _ => ?_) (fun z => absurd (by decide) z)
    refine lv_bipush (v := -2) hx hb dX12_trial_48 (by decide) ?_
    exact W.iret (v := -2) hx hb hr (fun t ht hW => ⟨⟨-2, (), rfl, (by unfold hz_trial; rw [if_neg c_1]), trivial⟩, hS.F ht⟩) hS.2.2 dX12_trial_50
  · refine lv_aload_n hx hb dX12_trial_5 rfl (lv_at hl 0 rfl) ?_
    refine va_get (D := D) (ci := 12) (v := .ref (g 10)) (C := RX12) (T := TX12) (N := 37) hx hb hT i_X12 hown hK hP 0 rfl rfl 20 (by decide) (hT _ q_247) (fun _ h9 => h9) rfl dX12_trial_6 ?_
    refine lv_bipush (v := 122) hx hb dX12_trial_9 (by decide) ?_
    refine lv_iconst (v := 0) hx hb dX12_trial_11 (by decide) ?_
    refine va_iast hx hb hK hP hD hS 1 0 rfl rfl (by unfold vp_in; decide) dX12_trial_12 (fun H locs hP hD hS => ?_)
    have hP : va_P D classes [(g 0, .inr (12, [.ref (g 1), .int 0, .int 0, .ref (g 2), .ref (g 3), .ref (g 4), .ref (g 5), .ref (g 6), .int 0, .int 0, .int 0, .int 0, .int 0, .int 0, .int 0, .ref (g 7), .int 0, .ref (g 8), .int 0, .ref (g 9), .ref (g 10), .int 0, .ref (g 11), .ref (g 12), .ref (g 13), .int 0, .int 0, .ref (g 14), .ref (g 15), .int 0, .int 0, .int 0, .ref (g 16), .long 0, .ref (g 17), .ref (g 18), .ref (g 19)])), (g 10, .inl (cs 0, 123, .inl (upd (fun _ => 0) (Int32.toNatClampNeg (122 : Int32)) (0 : Int32))))] H := hP
    have hD : va_D A [(g 0, .inr (12, [.ref (g 1), .int 0, .int 0, .ref (g 2), .ref (g 3), .ref (g 4), .ref (g 5), .ref (g 6), .int 0, .int 0, .int 0, .int 0, .int 0, .int 0, .int 0, .ref (g 7), .int 0, .ref (g 8), .int 0, .ref (g 9), .ref (g 10), .int 0, .ref (g 11), .ref (g 12), .ref (g 13), .int 0, .int 0, .ref (g 14), .ref (g 15), .int 0, .int 0, .int 0, .ref (g 16), .long 0, .ref (g 17), .ref (g 18), .ref (g 19)])), (g 10, .inl (cs 0, 123, .inl (upd (fun _ => 0) (Int32.toNatClampNeg (122 : Int32)) (0 : Int32))))] := hD
    generalize upd (fun _ => 0) (Int32.toNatClampNeg (122 : Int32)) (0 : Int32) = f_3 at hP hD
    refine lv_iconst (v := 0) hx hb dX12_trial_13 (by decide) ?_
    exact W.iret (v := 0) hx hb hr (fun t ht hW => ⟨⟨0, (), rfl, (by unfold hz_trial; rw [if_pos c_1]), trivial⟩, hS.F ht⟩) hS.2.2 dX12_trial_14
theorem dX12_seed_0 : decode cX12_seed 0 = .ok (.iload_n 1, 1) := by decide +kernel
theorem dX12_seed_1 : decode cX12_seed 1 = .ok (.ifCond .ge 5, 3) := by decide +kernel
theorem dX12_seed_4 : decode cX12_seed 4 = .ok (.iconst (-1), 1) := by decide +kernel
theorem dX12_seed_5 : decode cX12_seed 5 = .ok (.ireturn, 1) := by decide +kernel
theorem dX12_seed_6 : decode cX12_seed 6 = .ok (.aload_n 0, 1) := by decide +kernel
theorem dX12_seed_7 : decode cX12_seed 7 = .ok (.getfield 479, 3) := by decide +kernel
theorem dX12_seed_10 : decode cX12_seed 10 = .ok (.istore_n 2, 1) := by decide +kernel
theorem dX12_seed_11 : decode cX12_seed 11 = .ok (.aload_n 0, 1) := by decide +kernel
theorem dX12_seed_12 : decode cX12_seed 12 = .ok (.iload_n 1, 1) := by decide +kernel
theorem dX12_seed_13 : decode cX12_seed 13 = .ok (.putfield 479, 3) := by decide +kernel
theorem dX12_seed_16 : decode cX12_seed 16 = .ok (.iload_n 2, 1) := by decide +kernel
theorem dX12_seed_17 : decode cX12_seed 17 = .ok (.ireturn, 1) := by decide +kernel
set_option maxHeartbeats 4000000 in
set_option maxRecDepth 100000 in
theorem c_X12_seed (l : Launch) (D : va_G) (cs : Nat → ClassId) (kK kV : Nat → Nat) (g : Nat → Nat) (p0 : Int32) (sz : Nat) : Met l yX12_seed (hz_w yX12_seed cX12_seed 3 (some .int)) ({ frames := 0, cells := 0, slots := 0, locals := 0 }) (va_Pc [.ref (g 0), .int p0] (hz_C D cs kK kV sz [(g 0, .inr (12, [.ref (g 1), .int 0, .int 0, .ref (g 2), .ref (g 3), .ref (g 4), .ref (g 5), .ref (g 6), .int 0, .int 0, .int 0, .int 0, .int 0, .int 0, .int 0, .ref (g 7), .int 0, .ref (g 8), .int 0, .ref (g 9), .ref (g 10), .int 0, .ref (g 11), .ref (g 12), .ref (g 13), .int 0, .int 0, .ref (g 14), .ref (g 15), .int 0, .int 0, .int 0, .ref (g 16), .long 0, .ref (g 17), .ref (g 18), .ref (g 19)]))])) (va_Qi (fun (r : Int32) (_ : Unit) => r = hz_seed p0) (fun _ t => True) (va_A [(g 0, .inr (12, [.ref (g 1), .int 0, .int 0, .ref (g 2), .ref (g 3), .ref (g 4), .ref (g 5), .ref (g 6), .int 0, .int 0, .int 0, .int 0, .int 0, .int 0, .int 0, .ref (g 7), .int 0, .ref (g 8), .int 0, .ref (g 9), .ref (g 10), .int 0, .ref (g 11), .ref (g 12), .ref (g 13), .int 0, .int 0, .ref (g 14), .ref (g 15), .int 0, .int 0, .int 0, .ref (g 16), .long 0, .ref (g 17), .ref (g 18), .ref (g 19)]))] sz)) 0 0 (va_A [(g 0, .inr (12, [.ref (g 1), .int 0, .int 0, .ref (g 2), .ref (g 3), .ref (g 4), .ref (g 5), .ref (g 6), .int 0, .int 0, .int 0, .int 0, .int 0, .int 0, .int 0, .ref (g 7), .int 0, .ref (g 8), .int 0, .ref (g 9), .ref (g 10), .int 0, .ref (g 11), .ref (g 12), .ref (g 13), .int 0, .int 0, .ref (g 14), .ref (g 15), .int 0, .int 0, .int 0, .ref (g 16), .long 0, .ref (g 17), .ref (g 18), .ref (g 19)]))] sz) := by
  refine Met.ofW (cc := cX12_seed) (maxL := 3) (ret := (some .int)) (by decide) rfl ?_
  intro p e s m args below meth c s₁ B hml hv
  obtain ⟨rfl, hsz, hP, hD0, hE⟩ := hv
  have hx := B.exec
  have hb := B.bytes
  have hr := B.returns
  have hT : ∀ w ∈ TB, w.before _ s = true := fun w h => atoms_spec (ws := hz_w yX12_seed cX12_seed 3 (some .int)) B.pre w (List.mem_cons_of_mem _ h)
  have hown : s.vm.findClass RX12 = some m.cls := findClass_of_methodNamed B.named
  have hlocks := B.notSynchronized
  clear B
  subst hsz
  have hD := hD0.self (sz := s.heap.size)
  generalize hAe : va_A [(g 0, .inr (12, [.ref (g 1), .int 0, .int 0, .ref (g 2), .ref (g 3), .ref (g 4), .ref (g 5), .ref (g 6), .int 0, .int 0, .int 0, .int 0, .int 0, .int 0, .int 0, .ref (g 7), .int 0, .ref (g 8), .int 0, .ref (g 9), .ref (g 10), .int 0, .ref (g 11), .ref (g 12), .ref (g 13), .int 0, .int 0, .ref (g 14), .ref (g 15), .int 0, .int 0, .int 0, .ref (g 16), .long 0, .ref (g 17), .ref (g 18), .ref (g 19)]))] s.heap.size = A at hD hE ⊢
  have hA : ∀ q : Nat, s.heap.size ≤ q → A q := fun q h => by rw [← hAe]; exact Or.inr h
  clear hAe hD0
  have hS : va_S A s.heap s.heap [] := va_S.rf
  have hK := hE.1
  have hl := lv_entry ([.ref (g 0), .int p0]) (n := 3) (Nat.le_of_ble_eq_true rfl)
  rw [lg_entry_eq]
  generalize (lg_sl ([.ref (g 0), .int p0]) ++ List.replicate (3 - (lg_sl ([.ref (g 0), .int p0])).length) Slot.unset).toArray = ls at hl ⊢
  have hl : lv_has ls 3 [(0, .ref (g 0)), (1, .int p0)] := hl
  obtain ⟨H, eH⟩ : ∃ z, z = s.heap := ⟨_, rfl⟩
  have hP : va_P D classes [(g 0, .inr (12, [.ref (g 1), .int 0, .int 0, .ref (g 2), .ref (g 3), .ref (g 4), .ref (g 5), .ref (g 6), .int 0, .int 0, .int 0, .int 0, .int 0, .int 0, .int 0, .ref (g 7), .int 0, .ref (g 8), .int 0, .ref (g 9), .ref (g 10), .int 0, .ref (g 11), .ref (g 12), .ref (g 13), .int 0, .int 0, .ref (g 14), .ref (g 15), .int 0, .int 0, .int 0, .ref (g 16), .long 0, .ref (g 17), .ref (g 18), .ref (g 19)]))] H := by rw [eH]; exact hP
  have hS : va_S A s.heap H [] := by rw [eH]; exact hS
  rw [← eH]
  clear eH
  refine lv_iload_n hx hb dX12_seed_0 rfl (lv_at hl 1 rfl) ?_
  refine lv_if_ge (tgt := 6) hx hb dX12_seed_1 (by decide) (fun c_1 => ?_) (fun c_1 => ?_)
  · refine lv_aload_n hx hb dX12_seed_6 rfl (lv_at hl 0 rfl) ?_
    refine va_get (D := D) (ci := 12) (v := .int 0) (C := RX12) (T := TX12) (N := 37) hx hb hT i_X12 hown hK hP 0 rfl rfl 21 (by decide) (hT _ q_282) (fun _ h9 => h9) rfl dX12_seed_7 ?_
    refine lv_istore_n (lv' := [(2, .int 0), (0, .ref (g 0)), (1, .int p0)]) hx hb dX12_seed_10 rfl hl (by decide) rfl (fun ls hl => ?_)
    refine lv_aload_n hx hb dX12_seed_11 rfl (lv_at hl 1 rfl) ?_
    refine lv_iload_n hx hb dX12_seed_12 rfl (lv_at hl 2 rfl) ?_
    refine va_put (D := D) (ci := 12) (v := .int p0) (ty := .int) (C := RX12) (T := TX12) (N := 37) hx hb hT i_X12 tyX12 tyX12_ok nmX12 hown hK hP hD hS 0 rfl rfl 21 (by decide) (hT _ q_282) (fun _ h9 => h9) rfl (by decide +kernel) rfl rfl (Nat.le_of_ble_eq_true rfl) dX12_seed_13 (fun H locs hP hD hS => ?_)
    have hP : va_P D classes [(g 0, .inr (12, [.ref (g 1), .int 0, .int 0, .ref (g 2), .ref (g 3), .ref (g 4), .ref (g 5), .ref (g 6), .int 0, .int 0, .int 0, .int 0, .int 0, .int 0, .int 0, .ref (g 7), .int 0, .ref (g 8), .int 0, .ref (g 9), .ref (g 10), .int p0, .ref (g 11), .ref (g 12), .ref (g 13), .int 0, .int 0, .ref (g 14), .ref (g 15), .int 0, .int 0, .int 0, .ref (g 16), .long 0, .ref (g 17), .ref (g 18), .ref (g 19)]))] H := hP
    have hD : va_D A [(g 0, .inr (12, [.ref (g 1), .int 0, .int 0, .ref (g 2), .ref (g 3), .ref (g 4), .ref (g 5), .ref (g 6), .int 0, .int 0, .int 0, .int 0, .int 0, .int 0, .int 0, .ref (g 7), .int 0, .ref (g 8), .int 0, .ref (g 9), .ref (g 10), .int p0, .ref (g 11), .ref (g 12), .ref (g 13), .int 0, .int 0, .ref (g 14), .ref (g 15), .int 0, .int 0, .int 0, .ref (g 16), .long 0, .ref (g 17), .ref (g 18), .ref (g 19)]))] := hD
    refine lv_iload_n hx hb dX12_seed_16 rfl (lv_at hl 0 rfl) ?_
    exact W.iret (v := 0) hx hb hr (fun t ht hW => ⟨⟨0, (), rfl, (by unfold hz_seed; rw [if_neg (Int32.not_lt.mpr c_1)]), trivial⟩, hS.F ht⟩) hS.2.2 dX12_seed_17
  · refine lv_iconst (v := -1) hx hb dX12_seed_4 (by decide) ?_
    exact W.iret (v := -1) hx hb hr (fun t ht hW => ⟨⟨-1, (), rfl, (by unfold hz_seed; rw [if_pos (Int32.not_le.mp c_1)]), trivial⟩, hS.F ht⟩) hS.2.2 dX12_seed_5
theorem dX12_image_0 : decode cX12_image 0 = .ok (.iload_n 1, 1) := by decide +kernel
theorem dX12_image_1 : decode cX12_image 1 = .ok (.i2l, 1) := by decide +kernel
theorem dX12_image_2 : decode cX12_image 2 = .ok (.lconst 0, 1) := by decide +kernel
theorem dX12_image_3 : decode cX12_image 3 = .ok (.ldc2_w 504, 3) := by decide +kernel
theorem dX12_image_6 : decode cX12_image 6 = .ok (.invokestatic 109, 3) := by decide +kernel
theorem dX12_image_9 : decode cX12_image 9 = .ok (.ifCond .ne 5, 3) := by decide +kernel
theorem dX12_image_12 : decode cX12_image 12 = .ok (.iconst (-1), 1) := by decide +kernel
theorem dX12_image_13 : decode cX12_image 13 = .ok (.ireturn, 1) := by decide +kernel
theorem dX12_image_14 : decode cX12_image 14 = .ok (.aload_n 0, 1) := by decide +kernel
theorem dX12_image_15 : decode cX12_image 15 = .ok (.getfield 66, 3) := by decide +kernel
theorem dX12_image_18 : decode cX12_image 18 = .ok (.iload_n 1, 1) := by decide +kernel
theorem dX12_image_19 : decode cX12_image 19 = .ok (.iconst 1, 1) := by decide +kernel
theorem dX12_image_20 : decode cX12_image 20 = .ok (.bastore, 1) := by decide +kernel
theorem dX12_image_21 : decode cX12_image 21 = .ok (.aload_n 0, 1) := by decide +kernel
theorem dX12_image_22 : decode cX12_image 22 = .ok (.getfield 63, 3) := by decide +kernel
theorem dX12_image_25 : decode cX12_image 25 = .ok (.iload_n 1, 1) := by decide +kernel
theorem dX12_image_26 : decode cX12_image 26 = .ok (.aload_n 0, 1) := by decide +kernel
theorem dX12_image_27 : decode cX12_image 27 = .ok (.getfield 479, 3) := by decide +kernel
theorem dX12_image_30 : decode cX12_image 30 = .ok (.iastore, 1) := by decide +kernel
theorem dX12_image_31 : decode cX12_image 31 = .ok (.iconst 0, 1) := by decide +kernel
theorem dX12_image_32 : decode cX12_image 32 = .ok (.istore_n 2, 1) := by decide +kernel
theorem dX12_image_33 : decode cX12_image 33 = .ok (.iload_n 2, 1) := by decide +kernel
theorem dX12_image_34 : decode cX12_image 34 = .ok (.bipush 123, 2) := by decide +kernel
theorem dX12_image_36 : decode cX12_image 36 = .ok (.if_icmp .ge 26, 3) := by decide +kernel
theorem dX12_image_39 : decode cX12_image 39 = .ok (.aload_n 0, 1) := by decide +kernel
theorem dX12_image_40 : decode cX12_image 40 = .ok (.getfield 60, 3) := by decide +kernel
theorem dX12_image_43 : decode cX12_image 43 = .ok (.bipush 123, 2) := by decide +kernel
theorem dX12_image_45 : decode cX12_image 45 = .ok (.iload_n 1, 1) := by decide +kernel
theorem dX12_image_46 : decode cX12_image 46 = .ok (.imul, 1) := by decide +kernel
theorem dX12_image_47 : decode cX12_image 47 = .ok (.iload_n 2, 1) := by decide +kernel
theorem dX12_image_48 : decode cX12_image 48 = .ok (.iadd, 1) := by decide +kernel
theorem dX12_image_49 : decode cX12_image 49 = .ok (.aload_n 0, 1) := by decide +kernel
theorem dX12_image_50 : decode cX12_image 50 = .ok (.getfield 39, 3) := by decide +kernel
theorem dX12_image_53 : decode cX12_image 53 = .ok (.iload_n 2, 1) := by decide +kernel
theorem dX12_image_54 : decode cX12_image 54 = .ok (.iaload, 1) := by decide +kernel
theorem dX12_image_55 : decode cX12_image 55 = .ok (.iastore, 1) := by decide +kernel
theorem dX12_image_56 : decode cX12_image 56 = .ok (.iinc 2 1, 3) := by decide +kernel
theorem dX12_image_59 : decode cX12_image 59 = .ok (.goto (-26), 3) := by decide +kernel
theorem dX12_image_62 : decode cX12_image 62 = .ok (.aload_n 0, 1) := by decide +kernel
theorem dX12_image_63 : decode cX12_image 63 = .ok (.getfield 39, 3) := by decide +kernel
theorem dX12_image_66 : decode cX12_image 66 = .ok (.iconst 3, 1) := by decide +kernel
theorem dX12_image_67 : decode cX12_image 67 = .ok (.iaload, 1) := by decide +kernel
theorem dX12_image_68 : decode cX12_image 68 = .ok (.ireturn, 1) := by decide +kernel
set_option maxHeartbeats 4000000 in
set_option maxRecDepth 100000 in
theorem c_X12_image (l : Launch) (D : va_G) (cs : Nat → ClassId) (kK kV : Nat → Nat) (g : Nat → Nat) (p0 : Int32) (sz : Nat) : Met l yX12_image (hz_w yX12_image cX12_image 3 (some .int)) ({ frames := 1, cells := 0, slots := 0, locals := 25 }) (va_Pc [.ref (g 0), .int p0] (hz_C D cs kK kV sz [(g 0, .inr (12, [.ref (g 1), .int 0, .int 0, .ref (g 2), .ref (g 3), .ref (g 4), .ref (g 5), .ref (g 6), .int 0, .int 0, .int 0, .int 0, .int 0, .int 0, .int 0, .ref (g 7), .int 0, .ref (g 8), .int 0, .ref (g 9), .ref (g 10), .int 0, .ref (g 11), .ref (g 12), .ref (g 13), .int 0, .int 0, .ref (g 14), .ref (g 15), .int 0, .int 0, .int 0, .ref (g 16), .long 0, .ref (g 17), .ref (g 18), .ref (g 19)])), (g 10, .inl (cs 0, 123, .inl (fun _ => 0))), (g 17, .inl (cs 0, 492, .inl (fun _ => 0))), (g 18, .inl (cs 0, 4, .inl (fun _ => 0))), (g 19, .inl (cs 2, 4, .inl (fun _ => 0)))])) (va_Qi (fun (r : Int32) (_ : Unit) => r = hz_image p0) (fun _ t => True) (va_A [(g 0, .inr (12, [.ref (g 1), .int 0, .int 0, .ref (g 2), .ref (g 3), .ref (g 4), .ref (g 5), .ref (g 6), .int 0, .int 0, .int 0, .int 0, .int 0, .int 0, .int 0, .ref (g 7), .int 0, .ref (g 8), .int 0, .ref (g 9), .ref (g 10), .int 0, .ref (g 11), .ref (g 12), .ref (g 13), .int 0, .int 0, .ref (g 14), .ref (g 15), .int 0, .int 0, .int 0, .ref (g 16), .long 0, .ref (g 17), .ref (g 18), .ref (g 19)])), (g 10, .inl (cs 0, 123, .inl (fun _ => 0))), (g 17, .inl (cs 0, 492, .inl (fun _ => 0))), (g 18, .inl (cs 0, 4, .inl (fun _ => 0))), (g 19, .inl (cs 2, 4, .inl (fun _ => 0)))] sz)) 0 0 (va_A [(g 0, .inr (12, [.ref (g 1), .int 0, .int 0, .ref (g 2), .ref (g 3), .ref (g 4), .ref (g 5), .ref (g 6), .int 0, .int 0, .int 0, .int 0, .int 0, .int 0, .int 0, .ref (g 7), .int 0, .ref (g 8), .int 0, .ref (g 9), .ref (g 10), .int 0, .ref (g 11), .ref (g 12), .ref (g 13), .int 0, .int 0, .ref (g 14), .ref (g 15), .int 0, .int 0, .int 0, .ref (g 16), .long 0, .ref (g 17), .ref (g 18), .ref (g 19)])), (g 10, .inl (cs 0, 123, .inl (fun _ => 0))), (g 17, .inl (cs 0, 492, .inl (fun _ => 0))), (g 18, .inl (cs 0, 4, .inl (fun _ => 0))), (g 19, .inl (cs 2, 4, .inl (fun _ => 0)))] sz) := by
  refine Met.ofW (cc := cX12_image) (maxL := 3) (ret := (some .int)) (by decide) rfl ?_
  intro p e s m args below meth c s₁ B hml hv
  obtain ⟨rfl, hsz, hP, hD0, hE⟩ := hv
  have hx := B.exec
  have hb := B.bytes
  have hr := B.returns
  have hT : ∀ w ∈ TB, w.before _ s = true := fun w h => atoms_spec (ws := hz_w yX12_image cX12_image 3 (some .int)) B.pre w (List.mem_cons_of_mem _ h)
  have hown : s.vm.findClass RX12 = some m.cls := findClass_of_methodNamed B.named
  have hlocks := B.notSynchronized
  clear B
  subst hsz
  have hD := hD0.self (sz := s.heap.size)
  generalize hAe : va_A [(g 0, .inr (12, [.ref (g 1), .int 0, .int 0, .ref (g 2), .ref (g 3), .ref (g 4), .ref (g 5), .ref (g 6), .int 0, .int 0, .int 0, .int 0, .int 0, .int 0, .int 0, .ref (g 7), .int 0, .ref (g 8), .int 0, .ref (g 9), .ref (g 10), .int 0, .ref (g 11), .ref (g 12), .ref (g 13), .int 0, .int 0, .ref (g 14), .ref (g 15), .int 0, .int 0, .int 0, .ref (g 16), .long 0, .ref (g 17), .ref (g 18), .ref (g 19)])), (g 10, .inl (cs 0, 123, .inl (fun _ => 0))), (g 17, .inl (cs 0, 492, .inl (fun _ => 0))), (g 18, .inl (cs 0, 4, .inl (fun _ => 0))), (g 19, .inl (cs 2, 4, .inl (fun _ => 0)))] s.heap.size = A at hD hE ⊢
  have hA : ∀ q : Nat, s.heap.size ≤ q → A q := fun q h => by rw [← hAe]; exact Or.inr h
  clear hAe hD0
  have hS : va_S A s.heap s.heap [] := va_S.rf
  have hK := hE.1
  have hl := lv_entry ([.ref (g 0), .int p0]) (n := 3) (Nat.le_of_ble_eq_true rfl)
  rw [lg_entry_eq]
  generalize (lg_sl ([.ref (g 0), .int p0]) ++ List.replicate (3 - (lg_sl ([.ref (g 0), .int p0])).length) Slot.unset).toArray = ls at hl ⊢
  have hl : lv_has ls 3 [(0, .ref (g 0)), (1, .int p0)] := hl
  obtain ⟨H, eH⟩ : ∃ z, z = s.heap := ⟨_, rfl⟩
  have hP : va_P D classes [(g 0, .inr (12, [.ref (g 1), .int 0, .int 0, .ref (g 2), .ref (g 3), .ref (g 4), .ref (g 5), .ref (g 6), .int 0, .int 0, .int 0, .int 0, .int 0, .int 0, .int 0, .ref (g 7), .int 0, .ref (g 8), .int 0, .ref (g 9), .ref (g 10), .int 0, .ref (g 11), .ref (g 12), .ref (g 13), .int 0, .int 0, .ref (g 14), .ref (g 15), .int 0, .int 0, .int 0, .ref (g 16), .long 0, .ref (g 17), .ref (g 18), .ref (g 19)])), (g 10, .inl (cs 0, 123, .inl (fun _ => 0))), (g 17, .inl (cs 0, 492, .inl (fun _ => 0))), (g 18, .inl (cs 0, 4, .inl (fun _ => 0))), (g 19, .inl (cs 2, 4, .inl (fun _ => 0)))] H := by rw [eH]; exact hP
  have hS : va_S A s.heap H [] := by rw [eH]; exact hS
  rw [← eH]
  clear eH
  refine lv_iload_n hx hb dX12_image_0 rfl (lv_at hl 1 rfl) ?_
  refine lv_i2l (v := p0.toInt64) hx hb dX12_image_1 rfl ?_
  refine lv_lconst (v := 0) hx hb dX12_image_2 (by decide) ?_
  refine lv_ldc2 hx hb hown (hT _ q_284) dX12_image_3 ?_
  refine va_calli (va_runS (As := [.long p0.toInt64, .long 0, .long 3]) (rest := []) ⟨hx, hb, hml, hown, hT⟩ (c_X12_in l D cs kK kV p0) (va_cwS 3 hT (hz_gS q_285 q_286 q_252 q_287) rfl rfl rfl (by decide +kernel) ⟨(Nat.le_of_ble_eq_true rfl), (Nat.le_of_ble_eq_true rfl)⟩) ⟨hz_P.blind, hz_P.mk (hP.sub (ws' := []) [] rfl) hE hS⟩ rfl rfl hl.1 rfl (lv_room (Nat.le_of_ble_eq_true rfl)) dX12_image_6 ⟨(Nat.le_of_ble_eq_true rfl), (Nat.le_of_ble_eq_true rfl)⟩) hS (fun _ _ h => h.elim) (fun _ h => h.elim) (fun r_1 u t H1 locs ht hvm hw hB hz1 hk1 hS => ?_)
  have hP := hz_keep hP hk1
  clear hk1 hB hz1
  generalize H1 = H at hP hS ⊢
  subst hw
  refine lv_if_ne (tgt := 14) hx hb dX12_image_9 (by decide) (fun c_2 => ?_) (fun c_2 => ?_)
  · refine lv_aload_n hx hb dX12_image_14 rfl (lv_at hl 0 rfl) ?_
    refine va_get (D := D) (ci := 12) (v := .ref (g 19)) (C := RX12) (T := TX12) (N := 37) hx hb hT i_X12 hown hK hP 0 rfl rfl 36 (by decide) (hT _ q_288) (fun _ h9 => h9) rfl dX12_image_15 ?_
    refine lv_iload_n hx hb dX12_image_18 rfl (lv_at hl 1 rfl) ?_
    refine lv_iconst (v := 1) hx hb dX12_image_19 (by decide) ?_
    refine va_zast hx hb hK hP hD hS 4 2 rfl rfl (hz_vinb c_2) dX12_image_20 (fun H locs hP hD hS => ?_)
    have hP : va_P D classes [(g 0, .inr (12, [.ref (g 1), .int 0, .int 0, .ref (g 2), .ref (g 3), .ref (g 4), .ref (g 5), .ref (g 6), .int 0, .int 0, .int 0, .int 0, .int 0, .int 0, .int 0, .ref (g 7), .int 0, .ref (g 8), .int 0, .ref (g 9), .ref (g 10), .int 0, .ref (g 11), .ref (g 12), .ref (g 13), .int 0, .int 0, .ref (g 14), .ref (g 15), .int 0, .int 0, .int 0, .ref (g 16), .long 0, .ref (g 17), .ref (g 18), .ref (g 19)])), (g 10, .inl (cs 0, 123, .inl (fun _ => 0))), (g 17, .inl (cs 0, 492, .inl (fun _ => 0))), (g 18, .inl (cs 0, 4, .inl (fun _ => 0))), (g 19, .inl (cs 2, 4, .inl (upd (fun _ => 0) (Int32.toNatClampNeg p0) (vp_nar .boolean (1 : Int32)))))] H := hP
    have hD : va_D A [(g 0, .inr (12, [.ref (g 1), .int 0, .int 0, .ref (g 2), .ref (g 3), .ref (g 4), .ref (g 5), .ref (g 6), .int 0, .int 0, .int 0, .int 0, .int 0, .int 0, .int 0, .ref (g 7), .int 0, .ref (g 8), .int 0, .ref (g 9), .ref (g 10), .int 0, .ref (g 11), .ref (g 12), .ref (g 13), .int 0, .int 0, .ref (g 14), .ref (g 15), .int 0, .int 0, .int 0, .ref (g 16), .long 0, .ref (g 17), .ref (g 18), .ref (g 19)])), (g 10, .inl (cs 0, 123, .inl (fun _ => 0))), (g 17, .inl (cs 0, 492, .inl (fun _ => 0))), (g 18, .inl (cs 0, 4, .inl (fun _ => 0))), (g 19, .inl (cs 2, 4, .inl (upd (fun _ => 0) (Int32.toNatClampNeg p0) (vp_nar .boolean (1 : Int32)))))] := hD
    generalize upd (fun _ => 0) (Int32.toNatClampNeg p0) (vp_nar .boolean (1 : Int32)) = f_3 at hP hD
    refine lv_aload_n hx hb dX12_image_21 rfl (lv_at hl 0 rfl) ?_
    refine va_get (D := D) (ci := 12) (v := .ref (g 18)) (C := RX12) (T := TX12) (N := 37) hx hb hT i_X12 hown hK hP 0 rfl rfl 35 (by decide) (hT _ q_340) (fun _ h9 => h9) rfl dX12_image_22 ?_
    refine lv_iload_n hx hb dX12_image_25 rfl (lv_at hl 1 rfl) ?_
    refine lv_aload_n hx hb dX12_image_26 rfl (lv_at hl 0 rfl) ?_
    refine va_get (D := D) (ci := 12) (v := .int 0) (C := RX12) (T := TX12) (N := 37) hx hb hT i_X12 hown hK hP 0 rfl rfl 21 (by decide) (hT _ q_282) (fun _ h9 => h9) rfl dX12_image_27 ?_
    refine va_iast hx hb hK hP hD hS 3 0 rfl rfl (hz_vinb c_2) dX12_image_30 (fun H locs hP hD hS => ?_)
    have hP : va_P D classes [(g 0, .inr (12, [.ref (g 1), .int 0, .int 0, .ref (g 2), .ref (g 3), .ref (g 4), .ref (g 5), .ref (g 6), .int 0, .int 0, .int 0, .int 0, .int 0, .int 0, .int 0, .ref (g 7), .int 0, .ref (g 8), .int 0, .ref (g 9), .ref (g 10), .int 0, .ref (g 11), .ref (g 12), .ref (g 13), .int 0, .int 0, .ref (g 14), .ref (g 15), .int 0, .int 0, .int 0, .ref (g 16), .long 0, .ref (g 17), .ref (g 18), .ref (g 19)])), (g 10, .inl (cs 0, 123, .inl (fun _ => 0))), (g 17, .inl (cs 0, 492, .inl (fun _ => 0))), (g 18, .inl (cs 0, 4, .inl (upd (fun _ => 0) (Int32.toNatClampNeg p0) (0 : Int32)))), (g 19, .inl (cs 2, 4, .inl f_3))] H := hP
    have hD : va_D A [(g 0, .inr (12, [.ref (g 1), .int 0, .int 0, .ref (g 2), .ref (g 3), .ref (g 4), .ref (g 5), .ref (g 6), .int 0, .int 0, .int 0, .int 0, .int 0, .int 0, .int 0, .ref (g 7), .int 0, .ref (g 8), .int 0, .ref (g 9), .ref (g 10), .int 0, .ref (g 11), .ref (g 12), .ref (g 13), .int 0, .int 0, .ref (g 14), .ref (g 15), .int 0, .int 0, .int 0, .ref (g 16), .long 0, .ref (g 17), .ref (g 18), .ref (g 19)])), (g 10, .inl (cs 0, 123, .inl (fun _ => 0))), (g 17, .inl (cs 0, 492, .inl (fun _ => 0))), (g 18, .inl (cs 0, 4, .inl (upd (fun _ => 0) (Int32.toNatClampNeg p0) (0 : Int32)))), (g 19, .inl (cs 2, 4, .inl f_3))] := hD
    generalize upd (fun _ => 0) (Int32.toNatClampNeg p0) (0 : Int32) = f_4 at hP hD
    refine lv_iconst (v := 0) hx hb dX12_image_31 (by decide) ?_
    refine lv_istore_n (lv' := [(2, .int 0), (0, .ref (g 0)), (1, .int p0)]) hx hb dX12_image_32 rfl hl (by decide) rfl (fun ls hl => ?_)
    obtain ⟨j, hj, ej⟩ := vp_in_of (hz_vinb c_2) (by decide)
    have LOOP : ∀ (n i : Nat) (fi : Nat → Int32), i + n = 123 → ∀ (H : Heap) (locs : List Loc), va_P D classes [(g 0, .inr (12, [.ref (g 1), .int 0, .int 0, .ref (g 2), .ref (g 3), .ref (g 4), .ref (g 5), .ref (g 6), .int 0, .int 0, .int 0, .int 0, .int 0, .int 0, .int 0, .ref (g 7), .int 0, .ref (g 8), .int 0, .ref (g 9), .ref (g 10), .int 0, .ref (g 11), .ref (g 12), .ref (g 13), .int 0, .int 0, .ref (g 14), .ref (g 15), .int 0, .int 0, .int 0, .ref (g 16), .long 0, .ref (g 17), .ref (g 18), .ref (g 19)])), (g 10, .inl (cs 0, 123, .inl (fun _ => 0))), (g 17, .inl (cs 0, 492, .inl fi)), (g 18, .inl (cs 0, 4, .inl f_4)), (g 19, .inl (cs 2, 4, .inl f_3))] H → va_D A [(g 0, .inr (12, [.ref (g 1), .int 0, .int 0, .ref (g 2), .ref (g 3), .ref (g 4), .ref (g 5), .ref (g 6), .int 0, .int 0, .int 0, .int 0, .int 0, .int 0, .int 0, .ref (g 7), .int 0, .ref (g 8), .int 0, .ref (g 9), .ref (g 10), .int 0, .ref (g 11), .ref (g 12), .ref (g 13), .int 0, .int 0, .ref (g 14), .ref (g 15), .int 0, .int 0, .int 0, .ref (g 16), .long 0, .ref (g 17), .ref (g 18), .ref (g 19)])), (g 10, .inl (cs 0, 123, .inl (fun _ => 0))), (g 17, .inl (cs 0, 492, .inl fi)), (g 18, .inl (cs 0, 4, .inl f_4)), (g 19, .inl (cs 2, 4, .inl f_3))] → va_S A s.heap H locs → ∀ ls : Array Slot, lv_has ls 3 [(2, .int (nI i)), (0, .ref (g 0)), (1, .int p0)] → W p l e (headSpec (hz_w yX12_image cX12_image 3 (some .int)) ({ frames := 1, cells := 0, slots := 0, locals := 25 })).room s m [.ref (g 0), .int p0].toArray below meth c H locs 0 0 (MQ below (va_Qi (fun (r : Int32) (_ : Unit) => r = hz_image p0) (fun _ t => True) A) [.ref (g 0), .int p0].toArray s 0 0 A) (F0 m 33 ls []) := by
      intro n
      induction n with
      | zero =>
        intro i fi hin H locs hP hD hS ls hl
        have hge : (123 : Int32) ≤ nI i := by rw [show i = 123 by omega]; decide
        refine lv_iload_n hx hb dX12_image_33 rfl (lv_at hl 0 rfl) ?_
        refine lv_bipush (v := 123) hx hb dX12_image_34 (by decide) ?_
        refine lv_icmp_ge (tgt := 62) hx hb dX12_image_36 (by decide) (fun _ => ?_) (fun z => absurd hge z)
        refine lv_aload_n hx hb dX12_image_62 rfl (lv_at hl 1 rfl) ?_
        refine va_get (D := D) (ci := 12) (v := .ref (g 10)) (C := RX12) (T := TX12) (N := 37) hx hb hT i_X12 hown hK hP 0 rfl rfl 20 (by decide) (hT _ q_247) (fun _ h9 => h9) rfl dX12_image_63 ?_
        refine lv_iconst (v := 3) hx hb dX12_image_66 (by decide) ?_
        refine va_iald hx hb hK hP 1 0 rfl rfl (by unfold vp_in; decide) dX12_image_67 ?_
        refine hz_ev 0 rfl ?_
        exact W.iret (v := 0) hx hb hr (fun t ht hW => ⟨⟨0, (), rfl, (hz_imgY c_2), trivial⟩, hS.F ht⟩) hS.2.2 dX12_image_68
      | succ n ih =>
        intro i fi hin H locs hP hD hS ls hl
        have hi : i < 123 := by omega
        have hge : ¬ (123 : Int32) ≤ nI i := by rw [show (123 : Int32) = nI 123 from rfl]; exact nI_ge hi (by decide)
        refine lv_iload_n hx hb dX12_image_33 rfl (lv_at hl 0 rfl) ?_
        refine lv_bipush (v := 123) hx hb dX12_image_34 (by decide) ?_
        refine lv_icmp_ge (tgt := 62) hx hb dX12_image_36 (by decide) (fun z => absurd z hge) (fun _ => ?_)
        refine lv_aload_n hx hb dX12_image_39 rfl (lv_at hl 1 rfl) ?_
        refine va_get (D := D) (ci := 12) (v := .ref (g 17)) (C := RX12) (T := TX12) (N := 37) hx hb hT i_X12 hown hK hP 0 rfl rfl 34 (by decide) (hT _ q_341) (fun _ h9 => h9) rfl dX12_image_40 ?_
        refine lv_bipush (v := 123) hx hb dX12_image_43 (by decide) ?_
        refine lv_iload_n hx hb dX12_image_45 rfl (lv_at hl 2 rfl) ?_
        refine lv_imul hx hb dX12_image_46 ?_
        refine lv_iload_n hx hb dX12_image_47 rfl (lv_at hl 0 rfl) ?_
        refine lv_iadd hx hb dX12_image_48 ?_
        refine lv_aload_n hx hb dX12_image_49 rfl (lv_at hl 1 rfl) ?_
        refine va_get (D := D) (ci := 12) (v := .ref (g 10)) (C := RX12) (T := TX12) (N := 37) hx hb hT i_X12 hown hK hP 0 rfl rfl 20 (by decide) (hT _ q_247) (fun _ h9 => h9) rfl dX12_image_50 ?_
        refine lv_iload_n hx hb dX12_image_53 rfl (lv_at hl 0 rfl) ?_
        refine va_iald hx hb hK hP 1 0 rfl rfl (vp_in_nI hi (by decide)) dX12_image_54 ?_
        refine hz_ev 0 rfl ?_
        refine va_iast hx hb hK hP hD hS 2 0 rfl rfl (by rw [ej, hz_ix]; exact vp_in_nI (by omega) (by decide)) dX12_image_55 (fun H locs hP hD hS => ?_)
        have hP : va_P D classes [(g 0, .inr (12, [.ref (g 1), .int 0, .int 0, .ref (g 2), .ref (g 3), .ref (g 4), .ref (g 5), .ref (g 6), .int 0, .int 0, .int 0, .int 0, .int 0, .int 0, .int 0, .ref (g 7), .int 0, .ref (g 8), .int 0, .ref (g 9), .ref (g 10), .int 0, .ref (g 11), .ref (g 12), .ref (g 13), .int 0, .int 0, .ref (g 14), .ref (g 15), .int 0, .int 0, .int 0, .ref (g 16), .long 0, .ref (g 17), .ref (g 18), .ref (g 19)])), (g 10, .inl (cs 0, 123, .inl (fun _ => 0))), (g 17, .inl (cs 0, 492, .inl (upd fi (Int32.toNatClampNeg ((123 * p0) + (nI i))) (0 : Int32)))), (g 18, .inl (cs 0, 4, .inl f_4)), (g 19, .inl (cs 2, 4, .inl f_3))] H := hP
        have hD : va_D A [(g 0, .inr (12, [.ref (g 1), .int 0, .int 0, .ref (g 2), .ref (g 3), .ref (g 4), .ref (g 5), .ref (g 6), .int 0, .int 0, .int 0, .int 0, .int 0, .int 0, .int 0, .ref (g 7), .int 0, .ref (g 8), .int 0, .ref (g 9), .ref (g 10), .int 0, .ref (g 11), .ref (g 12), .ref (g 13), .int 0, .int 0, .ref (g 14), .ref (g 15), .int 0, .int 0, .int 0, .ref (g 16), .long 0, .ref (g 17), .ref (g 18), .ref (g 19)])), (g 10, .inl (cs 0, 123, .inl (fun _ => 0))), (g 17, .inl (cs 0, 492, .inl (upd fi (Int32.toNatClampNeg ((123 * p0) + (nI i))) (0 : Int32)))), (g 18, .inl (cs 0, 4, .inl f_4)), (g 19, .inl (cs 2, 4, .inl f_3))] := hD
        generalize upd fi (Int32.toNatClampNeg ((123 * p0) + (nI i))) (0 : Int32) = f_5 at hP hD
        refine lv_iinc (v := (nI i) + 1) (lv' := [(2, .int ((nI i) + 1)), (0, .ref (g 0)), (1, .int p0)]) hx hb dX12_image_56 hl (k := 0) rfl rfl (by decide) rfl (fun ls hl => ?_)
        refine lv_goto (tgt := 33) hx hb dX12_image_59 (by decide) ?_
        exact ih (i + 1) _ (by omega) H locs hP hD hS ls (lv_sub hl [0, 1, 2] (by rw [nI_succ]; rfl))
    exact LOOP 123 0 _ rfl H locs hP hD hS ls (lv_sub hl [0, 1, 2] rfl)
  · refine lv_iconst (v := -1) hx hb dX12_image_12 (by decide) ?_
    exact W.iret (v := -1) hx hb hr (fun t ht hW => ⟨⟨-1, (), rfl, (hz_imgN c_2), trivial⟩, hS.F ht⟩) hS.2.2 dX12_image_13
