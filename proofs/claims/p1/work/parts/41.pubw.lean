theorem dX11_feed_0 : decode cX11_feed 0 = .ok (.aload_n 0, 1) := by decide +kernel
theorem dX11_feed_1 : decode cX11_feed 1 = .ok (.getfield 10, 3) := by decide +kernel
theorem dX11_feed_4 : decode cX11_feed 4 = .ok (.getfield 91, 3) := by decide +kernel
theorem dX11_feed_7 : decode cX11_feed 7 = .ok (.bipush 20, 2) := by decide +kernel
theorem dX11_feed_9 : decode cX11_feed 9 = .ok (.iadd, 1) := by decide +kernel
theorem dX11_feed_10 : decode cX11_feed 10 = .ok (.sipush 400, 3) := by decide +kernel
theorem dX11_feed_13 : decode cX11_feed 13 = .ok (.if_icmp .le 5, 3) := by decide +kernel
theorem dX11_feed_18 : decode cX11_feed 18 = .ok (.aload_n 0, 1) := by decide +kernel
theorem dX11_feed_19 : decode cX11_feed 19 = .ok (.getfield 10, 3) := by decide +kernel
theorem dX11_feed_22 : decode cX11_feed 22 = .ok (.iload_n 1, 1) := by decide +kernel
theorem dX11_feed_23 : decode cX11_feed 23 = .ok (.invokevirtual 95, 3) := by decide +kernel
theorem dX11_feed_26 : decode cX11_feed 26 = .ok (.aload_n 0, 1) := by decide +kernel
theorem dX11_feed_27 : decode cX11_feed 27 = .ok (.getfield 10, 3) := by decide +kernel
theorem dX11_feed_30 : decode cX11_feed 30 = .ok (.iload_n 2, 1) := by decide +kernel
theorem dX11_feed_31 : decode cX11_feed 31 = .ok (.invokevirtual 95, 3) := by decide +kernel
theorem dX11_feed_34 : decode cX11_feed 34 = .ok (.aload_n 0, 1) := by decide +kernel
theorem dX11_feed_35 : decode cX11_feed 35 = .ok (.getfield 10, 3) := by decide +kernel
theorem dX11_feed_38 : decode cX11_feed 38 = .ok (.iload_n 3, 1) := by decide +kernel
theorem dX11_feed_39 : decode cX11_feed 39 = .ok (.invokevirtual 95, 3) := by decide +kernel
theorem dX11_feed_42 : decode cX11_feed 42 = .ok (.aload_n 0, 1) := by decide +kernel
theorem dX11_feed_43 : decode cX11_feed 43 = .ok (.getfield 10, 3) := by decide +kernel
theorem dX11_feed_46 : decode cX11_feed 46 = .ok (.iload 4, 2) := by decide +kernel
theorem dX11_feed_48 : decode cX11_feed 48 = .ok (.invokevirtual 95, 3) := by decide +kernel
theorem dX11_feed_51 : decode cX11_feed 51 = .ok (.aload_n 0, 1) := by decide +kernel
theorem dX11_feed_52 : decode cX11_feed 52 = .ok (.getfield 10, 3) := by decide +kernel
theorem dX11_feed_55 : decode cX11_feed 55 = .ok (.iload 5, 2) := by decide +kernel
theorem dX11_feed_57 : decode cX11_feed 57 = .ok (.invokevirtual 95, 3) := by decide +kernel
theorem dX11_feed_60 : decode cX11_feed 60 = .ok (.aload_n 0, 1) := by decide +kernel
theorem dX11_feed_61 : decode cX11_feed 61 = .ok (.getfield 10, 3) := by decide +kernel
theorem dX11_feed_64 : decode cX11_feed 64 = .ok (.getfield 91, 3) := by decide +kernel
theorem dX11_feed_67 : decode cX11_feed 67 = .ok (.ireturn, 1) := by decide +kernel
set_option maxHeartbeats 4000000 in
set_option maxRecDepth 100000 in
theorem c_X11_feed (l : Launch) (D : va_G) (cs : Nat → ClassId) (kK kV : Nat → Nat) (g : Nat → Nat) (rr : Nat → Nat) (p0 : Int32) (p1 : Int32) (p2 : Int32) (p3 : Int32) (p4 : Int32) (sz : Nat) : Met l yX11_feed (hz_w yX11_feed cX11_feed 6 (some .int)) ({ frames := 1, cells := 0, slots := 0, locals := 22 }) (va_Pc [.ref (g 0), .int p0, .int p1, .int p2, .int p3, .int p4] (hz_C D cs kK kV sz [(g 0, .inr (11, [.ref (g 1), .ref (g 2), .ref (g 3), .ref (g 4), .int 0, .ref (g 5), .ref (g 6), .ref (g 7), .ref (g 8), .int 0, .int 0, .ref (g 9), .ref (g 10), .ref (g 11), .ref (g 12), .ref (g 13), .int 0])), (g 1, .inr (7, [.ref (g 14), .int 0, .int 0, .int 0])), (g 14, .inl (cs 0, 400, .inl (fun _ => 0)))])) (va_Qi (fun (r : Int32) (_ : Unit) => r = 20) (fun _ t => True) (va_A [(g 0, .inr (11, [.ref (g 1), .ref (g 2), .ref (g 3), .ref (g 4), .int 0, .ref (g 5), .ref (g 6), .ref (g 7), .ref (g 8), .int 0, .int 0, .ref (g 9), .ref (g 10), .ref (g 11), .ref (g 12), .ref (g 13), .int 0])), (g 1, .inr (7, [.ref (g 14), .int 0, .int 0, .int 0])), (g 14, .inl (cs 0, 400, .inl (fun _ => 0)))] sz)) 0 0 (va_A [(g 0, .inr (11, [.ref (g 1), .ref (g 2), .ref (g 3), .ref (g 4), .int 0, .ref (g 5), .ref (g 6), .ref (g 7), .ref (g 8), .int 0, .int 0, .ref (g 9), .ref (g 10), .ref (g 11), .ref (g 12), .ref (g 13), .int 0])), (g 1, .inr (7, [.ref (g 14), .int 0, .int 0, .int 0])), (g 14, .inl (cs 0, 400, .inl (fun _ => 0)))] sz) := by
  refine Met.ofW (cc := cX11_feed) (maxL := 6) (ret := (some .int)) (by decide) rfl ?_
  intro p e s m args below meth c s₁ B hml hv
  obtain ⟨rfl, hsz, hP, hD0, hE⟩ := hv
  have hx := B.exec
  have hb := B.bytes
  have hr := B.returns
  have hT : ∀ w ∈ TB, w.before _ s = true := fun w h => atoms_spec (ws := hz_w yX11_feed cX11_feed 6 (some .int)) B.pre w (List.mem_cons_of_mem _ h)
  have hown : s.vm.findClass RX11 = some m.cls := findClass_of_methodNamed B.named
  have hlocks := B.notSynchronized
  clear B
  subst hsz
  have hD := hD0.self (sz := s.heap.size)
  generalize hAe : va_A [(g 0, .inr (11, [.ref (g 1), .ref (g 2), .ref (g 3), .ref (g 4), .int 0, .ref (g 5), .ref (g 6), .ref (g 7), .ref (g 8), .int 0, .int 0, .ref (g 9), .ref (g 10), .ref (g 11), .ref (g 12), .ref (g 13), .int 0])), (g 1, .inr (7, [.ref (g 14), .int 0, .int 0, .int 0])), (g 14, .inl (cs 0, 400, .inl (fun _ => 0)))] s.heap.size = A at hD hE ⊢
  have hA : ∀ q : Nat, s.heap.size ≤ q → A q := fun q h => by rw [← hAe]; exact Or.inr h
  clear hAe hD0
  have hS : va_S A s.heap s.heap [] := va_S.rf
  have hK := hE.1
  have hl := lv_entry ([.ref (g 0), .int p0, .int p1, .int p2, .int p3, .int p4]) (n := 6) (Nat.le_of_ble_eq_true rfl)
  rw [lg_entry_eq]
  generalize (lg_sl ([.ref (g 0), .int p0, .int p1, .int p2, .int p3, .int p4]) ++ List.replicate (6 - (lg_sl ([.ref (g 0), .int p0, .int p1, .int p2, .int p3, .int p4])).length) Slot.unset).toArray = ls at hl ⊢
  have hl : lv_has ls 6 [(0, .ref (g 0)), (1, .int p0), (2, .int p1), (3, .int p2), (4, .int p3), (5, .int p4)] := hl
  obtain ⟨H, eH⟩ : ∃ z, z = s.heap := ⟨_, rfl⟩
  have hP : va_P D classes [(g 0, .inr (11, [.ref (g 1), .ref (g 2), .ref (g 3), .ref (g 4), .int 0, .ref (g 5), .ref (g 6), .ref (g 7), .ref (g 8), .int 0, .int 0, .ref (g 9), .ref (g 10), .ref (g 11), .ref (g 12), .ref (g 13), .int 0])), (g 1, .inr (7, [.ref (g 14), .int 0, .int 0, .int 0])), (g 14, .inl (cs 0, 400, .inl (fun _ => 0)))] H := by rw [eH]; exact hP
  have hS : va_S A s.heap H [] := by rw [eH]; exact hS
  rw [← eH]
  clear eH
  refine lv_aload_n hx hb dX11_feed_0 rfl (lv_at hl 0 rfl) ?_
  refine va_get (D := D) (ci := 11) (v := .ref (g 1)) (C := RX11) (T := TX11) (N := 17) hx hb hT i_X11 hown hK hP 0 rfl rfl 0 (by decide) (hT _ q_212) (fun _ h9 => h9) rfl dX11_feed_1 ?_
  refine va_get (D := D) (ci := 7) (v := .int 0) (C := RX7) (T := TX7) (N := 4) hx hb hT i_X7 hown hK hP 1 rfl rfl 1 (by decide) (hT _ q_213) (fun _ h9 => h9) rfl dX11_feed_4 ?_
  refine lv_bipush (v := 20) hx hb dX11_feed_7 (by decide) ?_
  refine lv_iadd hx hb dX11_feed_9 ?_
  refine hz_ev 20 (by decide) ?_
  refine lv_sipush (v := 400) hx hb dX11_feed_10 (by decide) ?_
  refine lv_icmp_le (tgt := 18) hx hb dX11_feed_13 (by decide) (fun _ => ?_) (fun z => absurd (by decide) z)
  refine lv_aload_n hx hb dX11_feed_18 rfl (lv_at hl 0 rfl) ?_
  refine va_get (D := D) (ci := 11) (v := .ref (g 1)) (C := RX11) (T := TX11) (N := 17) hx hb hT i_X11 hown hK hP 0 rfl rfl 0 (by decide) (hT _ q_212) (fun _ h9 => h9) rfl dX11_feed_19 ?_
  refine lv_iload_n hx hb dX11_feed_22 rfl (lv_at hl 1 rfl) ?_
  have hFc := va_free (wc := [(g 1, .inr (7, [.ref (g 14), .int 0, .int 0, .int 0])), (g 14, .inl (cs 0, 400, .inl (fun _ => 0)))]) hD hS hA [1,2] rfl
  refine va_callv (va_runV (As := [.int p0]) (rest := []) ⟨hx, hb, hml, hown, hT⟩ (c_X7_append l D cs kK kV (g 1) (g 14) 0 (fun _ => 0) p0 ((by unfold vp_in; decide)) ((by decide)) ((by unfold vp_in; decide)) ((by decide)) ((by unfold vp_in; decide)) ((by decide)) ((by unfold vp_in; decide)) ((by decide)) H.size) (cwV 1 hT (hz_gV q_215 q_216 q_217 q_96 q_218) rfl rfl rfl (by decide +kernel) ⟨(Nat.le_of_ble_eq_true rfl), (Nat.le_of_ble_eq_true rfl)⟩) ⟨hz_C.blind, va_recv hK hP (ci := 7) (q0 := 1) rfl rfl, hz_C.mk (hP.sub (ws' := [(g 1, .inr (7, [.ref (g 14), .int 0, .int 0, .int 0])), (g 14, .inl (cs 0, 400, .inl (fun _ => 0)))]) [1,2] rfl) (hD.sub (ws' := [(g 1, .inr (7, [.ref (g 14), .int 0, .int 0, .int 0])), (g 14, .inl (cs 0, 400, .inl (fun _ => 0)))]) [1,2] (by decide) rfl) hE hS hFc⟩ rfl rfl hl.1 rfl (lv_room (Nat.le_of_ble_eq_true rfl)) dX11_feed_23 ⟨(Nat.le_of_ble_eq_true rfl), (Nat.le_of_ble_eq_true rfl)⟩) hS (fun q _ h => hFc q h) hFc (fun u t H1 locs ht hvm hw hB hz1 hk1 hS => ?_)
  obtain ⟨f_2, hP1, hD1⟩ := hB
  rw [ht] at hP1
  obtain ⟨hP, hD⟩ := va_join (wr := [(g 0, .inr (11, [.ref (g 1), .ref (g 2), .ref (g 3), .ref (g 4), .int 0, .ref (g 5), .ref (g 6), .ref (g 7), .ref (g 8), .int 0, .int 0, .ref (g 9), .ref (g 10), .ref (g 11), .ref (g 12), .ref (g 13), .int 0]))]) (w1 := [(g 1, .inr (7, [.ref (g 14), .int 4, .int 0, .int 0])), (g 14, .inl (cs 0, 400, .inl f_2))]) hP hD [1, 2] [0] rfl rfl (by decide) (by decide) hk1 hFc hP1 hD1
  generalize H1 = H at hP hS ⊢
  have hP : va_P D classes [(g 0, .inr (11, [.ref (g 1), .ref (g 2), .ref (g 3), .ref (g 4), .int 0, .ref (g 5), .ref (g 6), .ref (g 7), .ref (g 8), .int 0, .int 0, .ref (g 9), .ref (g 10), .ref (g 11), .ref (g 12), .ref (g 13), .int 0])), (g 1, .inr (7, [.ref (g 14), .int 4, .int 0, .int 0])), (g 14, .inl (cs 0, 400, .inl f_2))] H := hP
  have hD : va_D A [(g 0, .inr (11, [.ref (g 1), .ref (g 2), .ref (g 3), .ref (g 4), .int 0, .ref (g 5), .ref (g 6), .ref (g 7), .ref (g 8), .int 0, .int 0, .ref (g 9), .ref (g 10), .ref (g 11), .ref (g 12), .ref (g 13), .int 0])), (g 1, .inr (7, [.ref (g 14), .int 4, .int 0, .int 0])), (g 14, .inl (cs 0, 400, .inl f_2))] := hD
  clear hk1 hFc hP1 hD1 hz1
  refine lv_aload_n hx hb dX11_feed_26 rfl (lv_at hl 0 rfl) ?_
  refine va_get (D := D) (ci := 11) (v := .ref (g 1)) (C := RX11) (T := TX11) (N := 17) hx hb hT i_X11 hown hK hP 0 rfl rfl 0 (by decide) (hT _ q_212) (fun _ h9 => h9) rfl dX11_feed_27 ?_
  refine lv_iload_n hx hb dX11_feed_30 rfl (lv_at hl 2 rfl) ?_
  have hFc := va_free (wc := [(g 1, .inr (7, [.ref (g 14), .int 4, .int 0, .int 0])), (g 14, .inl (cs 0, 400, .inl f_2))]) hD hS hA [1,2] rfl
  refine va_callv (va_runV (As := [.int p1]) (rest := []) ⟨hx, hb, hml, hown, hT⟩ (c_X7_append l D cs kK kV (g 1) (g 14) 4 f_2 p1 ((by unfold vp_in; decide)) ((by decide)) ((by unfold vp_in; decide)) ((by decide)) ((by unfold vp_in; decide)) ((by decide)) ((by unfold vp_in; decide)) ((by decide)) H.size) (cwV 1 hT (hz_gV q_215 q_216 q_217 q_96 q_218) rfl rfl rfl (by decide +kernel) ⟨(Nat.le_of_ble_eq_true rfl), (Nat.le_of_ble_eq_true rfl)⟩) ⟨hz_C.blind, va_recv hK hP (ci := 7) (q0 := 1) rfl rfl, hz_C.mk (hP.sub (ws' := [(g 1, .inr (7, [.ref (g 14), .int 4, .int 0, .int 0])), (g 14, .inl (cs 0, 400, .inl f_2))]) [1,2] rfl) (hD.sub (ws' := [(g 1, .inr (7, [.ref (g 14), .int 4, .int 0, .int 0])), (g 14, .inl (cs 0, 400, .inl f_2))]) [1,2] (by decide) rfl) hE hS hFc⟩ rfl rfl hl.1 rfl (lv_room (Nat.le_of_ble_eq_true rfl)) dX11_feed_31 ⟨(Nat.le_of_ble_eq_true rfl), (Nat.le_of_ble_eq_true rfl)⟩) hS (fun q _ h => hFc q h) hFc (fun u t H1 locs ht hvm hw hB hz1 hk1 hS => ?_)
  obtain ⟨f_4, hP1, hD1⟩ := hB
  rw [ht] at hP1
  obtain ⟨hP, hD⟩ := va_join (wr := [(g 0, .inr (11, [.ref (g 1), .ref (g 2), .ref (g 3), .ref (g 4), .int 0, .ref (g 5), .ref (g 6), .ref (g 7), .ref (g 8), .int 0, .int 0, .ref (g 9), .ref (g 10), .ref (g 11), .ref (g 12), .ref (g 13), .int 0]))]) (w1 := [(g 1, .inr (7, [.ref (g 14), .int 8, .int 0, .int 0])), (g 14, .inl (cs 0, 400, .inl f_4))]) hP hD [1, 2] [0] rfl rfl (by decide) (by decide) hk1 hFc hP1 hD1
  generalize H1 = H at hP hS ⊢
  have hP : va_P D classes [(g 0, .inr (11, [.ref (g 1), .ref (g 2), .ref (g 3), .ref (g 4), .int 0, .ref (g 5), .ref (g 6), .ref (g 7), .ref (g 8), .int 0, .int 0, .ref (g 9), .ref (g 10), .ref (g 11), .ref (g 12), .ref (g 13), .int 0])), (g 1, .inr (7, [.ref (g 14), .int 8, .int 0, .int 0])), (g 14, .inl (cs 0, 400, .inl f_4))] H := hP
  have hD : va_D A [(g 0, .inr (11, [.ref (g 1), .ref (g 2), .ref (g 3), .ref (g 4), .int 0, .ref (g 5), .ref (g 6), .ref (g 7), .ref (g 8), .int 0, .int 0, .ref (g 9), .ref (g 10), .ref (g 11), .ref (g 12), .ref (g 13), .int 0])), (g 1, .inr (7, [.ref (g 14), .int 8, .int 0, .int 0])), (g 14, .inl (cs 0, 400, .inl f_4))] := hD
  clear hk1 hFc hP1 hD1 hz1
  refine lv_aload_n hx hb dX11_feed_34 rfl (lv_at hl 0 rfl) ?_
  refine va_get (D := D) (ci := 11) (v := .ref (g 1)) (C := RX11) (T := TX11) (N := 17) hx hb hT i_X11 hown hK hP 0 rfl rfl 0 (by decide) (hT _ q_212) (fun _ h9 => h9) rfl dX11_feed_35 ?_
  refine lv_iload_n hx hb dX11_feed_38 rfl (lv_at hl 3 rfl) ?_
  have hFc := va_free (wc := [(g 1, .inr (7, [.ref (g 14), .int 8, .int 0, .int 0])), (g 14, .inl (cs 0, 400, .inl f_4))]) hD hS hA [1,2] rfl
  refine va_callv (va_runV (As := [.int p2]) (rest := []) ⟨hx, hb, hml, hown, hT⟩ (c_X7_append l D cs kK kV (g 1) (g 14) 8 f_4 p2 ((by unfold vp_in; decide)) ((by decide)) ((by unfold vp_in; decide)) ((by decide)) ((by unfold vp_in; decide)) ((by decide)) ((by unfold vp_in; decide)) ((by decide)) H.size) (cwV 1 hT (hz_gV q_215 q_216 q_217 q_96 q_218) rfl rfl rfl (by decide +kernel) ⟨(Nat.le_of_ble_eq_true rfl), (Nat.le_of_ble_eq_true rfl)⟩) ⟨hz_C.blind, va_recv hK hP (ci := 7) (q0 := 1) rfl rfl, hz_C.mk (hP.sub (ws' := [(g 1, .inr (7, [.ref (g 14), .int 8, .int 0, .int 0])), (g 14, .inl (cs 0, 400, .inl f_4))]) [1,2] rfl) (hD.sub (ws' := [(g 1, .inr (7, [.ref (g 14), .int 8, .int 0, .int 0])), (g 14, .inl (cs 0, 400, .inl f_4))]) [1,2] (by decide) rfl) hE hS hFc⟩ rfl rfl hl.1 rfl (lv_room (Nat.le_of_ble_eq_true rfl)) dX11_feed_39 ⟨(Nat.le_of_ble_eq_true rfl), (Nat.le_of_ble_eq_true rfl)⟩) hS (fun q _ h => hFc q h) hFc (fun u t H1 locs ht hvm hw hB hz1 hk1 hS => ?_)
  obtain ⟨f_6, hP1, hD1⟩ := hB
  rw [ht] at hP1
  obtain ⟨hP, hD⟩ := va_join (wr := [(g 0, .inr (11, [.ref (g 1), .ref (g 2), .ref (g 3), .ref (g 4), .int 0, .ref (g 5), .ref (g 6), .ref (g 7), .ref (g 8), .int 0, .int 0, .ref (g 9), .ref (g 10), .ref (g 11), .ref (g 12), .ref (g 13), .int 0]))]) (w1 := [(g 1, .inr (7, [.ref (g 14), .int 12, .int 0, .int 0])), (g 14, .inl (cs 0, 400, .inl f_6))]) hP hD [1, 2] [0] rfl rfl (by decide) (by decide) hk1 hFc hP1 hD1
  generalize H1 = H at hP hS ⊢
  have hP : va_P D classes [(g 0, .inr (11, [.ref (g 1), .ref (g 2), .ref (g 3), .ref (g 4), .int 0, .ref (g 5), .ref (g 6), .ref (g 7), .ref (g 8), .int 0, .int 0, .ref (g 9), .ref (g 10), .ref (g 11), .ref (g 12), .ref (g 13), .int 0])), (g 1, .inr (7, [.ref (g 14), .int 12, .int 0, .int 0])), (g 14, .inl (cs 0, 400, .inl f_6))] H := hP
  have hD : va_D A [(g 0, .inr (11, [.ref (g 1), .ref (g 2), .ref (g 3), .ref (g 4), .int 0, .ref (g 5), .ref (g 6), .ref (g 7), .ref (g 8), .int 0, .int 0, .ref (g 9), .ref (g 10), .ref (g 11), .ref (g 12), .ref (g 13), .int 0])), (g 1, .inr (7, [.ref (g 14), .int 12, .int 0, .int 0])), (g 14, .inl (cs 0, 400, .inl f_6))] := hD
  clear hk1 hFc hP1 hD1 hz1
  refine lv_aload_n hx hb dX11_feed_42 rfl (lv_at hl 0 rfl) ?_
  refine va_get (D := D) (ci := 11) (v := .ref (g 1)) (C := RX11) (T := TX11) (N := 17) hx hb hT i_X11 hown hK hP 0 rfl rfl 0 (by decide) (hT _ q_212) (fun _ h9 => h9) rfl dX11_feed_43 ?_
  refine lv_iload hx hb dX11_feed_46 (lv_at hl 4 rfl) ?_
  have hFc := va_free (wc := [(g 1, .inr (7, [.ref (g 14), .int 12, .int 0, .int 0])), (g 14, .inl (cs 0, 400, .inl f_6))]) hD hS hA [1,2] rfl
  refine va_callv (va_runV (As := [.int p3]) (rest := []) ⟨hx, hb, hml, hown, hT⟩ (c_X7_append l D cs kK kV (g 1) (g 14) 12 f_6 p3 ((by unfold vp_in; decide)) ((by decide)) ((by unfold vp_in; decide)) ((by decide)) ((by unfold vp_in; decide)) ((by decide)) ((by unfold vp_in; decide)) ((by decide)) H.size) (cwV 1 hT (hz_gV q_215 q_216 q_217 q_96 q_218) rfl rfl rfl (by decide +kernel) ⟨(Nat.le_of_ble_eq_true rfl), (Nat.le_of_ble_eq_true rfl)⟩) ⟨hz_C.blind, va_recv hK hP (ci := 7) (q0 := 1) rfl rfl, hz_C.mk (hP.sub (ws' := [(g 1, .inr (7, [.ref (g 14), .int 12, .int 0, .int 0])), (g 14, .inl (cs 0, 400, .inl f_6))]) [1,2] rfl) (hD.sub (ws' := [(g 1, .inr (7, [.ref (g 14), .int 12, .int 0, .int 0])), (g 14, .inl (cs 0, 400, .inl f_6))]) [1,2] (by decide) rfl) hE hS hFc⟩ rfl rfl hl.1 rfl (lv_room (Nat.le_of_ble_eq_true rfl)) dX11_feed_48 ⟨(Nat.le_of_ble_eq_true rfl), (Nat.le_of_ble_eq_true rfl)⟩) hS (fun q _ h => hFc q h) hFc (fun u t H1 locs ht hvm hw hB hz1 hk1 hS => ?_)
  obtain ⟨f_8, hP1, hD1⟩ := hB
  rw [ht] at hP1
  obtain ⟨hP, hD⟩ := va_join (wr := [(g 0, .inr (11, [.ref (g 1), .ref (g 2), .ref (g 3), .ref (g 4), .int 0, .ref (g 5), .ref (g 6), .ref (g 7), .ref (g 8), .int 0, .int 0, .ref (g 9), .ref (g 10), .ref (g 11), .ref (g 12), .ref (g 13), .int 0]))]) (w1 := [(g 1, .inr (7, [.ref (g 14), .int 16, .int 0, .int 0])), (g 14, .inl (cs 0, 400, .inl f_8))]) hP hD [1, 2] [0] rfl rfl (by decide) (by decide) hk1 hFc hP1 hD1
  generalize H1 = H at hP hS ⊢
  have hP : va_P D classes [(g 0, .inr (11, [.ref (g 1), .ref (g 2), .ref (g 3), .ref (g 4), .int 0, .ref (g 5), .ref (g 6), .ref (g 7), .ref (g 8), .int 0, .int 0, .ref (g 9), .ref (g 10), .ref (g 11), .ref (g 12), .ref (g 13), .int 0])), (g 1, .inr (7, [.ref (g 14), .int 16, .int 0, .int 0])), (g 14, .inl (cs 0, 400, .inl f_8))] H := hP
  have hD : va_D A [(g 0, .inr (11, [.ref (g 1), .ref (g 2), .ref (g 3), .ref (g 4), .int 0, .ref (g 5), .ref (g 6), .ref (g 7), .ref (g 8), .int 0, .int 0, .ref (g 9), .ref (g 10), .ref (g 11), .ref (g 12), .ref (g 13), .int 0])), (g 1, .inr (7, [.ref (g 14), .int 16, .int 0, .int 0])), (g 14, .inl (cs 0, 400, .inl f_8))] := hD
  clear hk1 hFc hP1 hD1 hz1
  refine lv_aload_n hx hb dX11_feed_51 rfl (lv_at hl 0 rfl) ?_
  refine va_get (D := D) (ci := 11) (v := .ref (g 1)) (C := RX11) (T := TX11) (N := 17) hx hb hT i_X11 hown hK hP 0 rfl rfl 0 (by decide) (hT _ q_212) (fun _ h9 => h9) rfl dX11_feed_52 ?_
  refine lv_iload hx hb dX11_feed_55 (lv_at hl 5 rfl) ?_
  have hFc := va_free (wc := [(g 1, .inr (7, [.ref (g 14), .int 16, .int 0, .int 0])), (g 14, .inl (cs 0, 400, .inl f_8))]) hD hS hA [1,2] rfl
  refine va_callv (va_runV (As := [.int p4]) (rest := []) ⟨hx, hb, hml, hown, hT⟩ (c_X7_append l D cs kK kV (g 1) (g 14) 16 f_8 p4 ((by unfold vp_in; decide)) ((by decide)) ((by unfold vp_in; decide)) ((by decide)) ((by unfold vp_in; decide)) ((by decide)) ((by unfold vp_in; decide)) ((by decide)) H.size) (cwV 1 hT (hz_gV q_215 q_216 q_217 q_96 q_218) rfl rfl rfl (by decide +kernel) ⟨(Nat.le_of_ble_eq_true rfl), (Nat.le_of_ble_eq_true rfl)⟩) ⟨hz_C.blind, va_recv hK hP (ci := 7) (q0 := 1) rfl rfl, hz_C.mk (hP.sub (ws' := [(g 1, .inr (7, [.ref (g 14), .int 16, .int 0, .int 0])), (g 14, .inl (cs 0, 400, .inl f_8))]) [1,2] rfl) (hD.sub (ws' := [(g 1, .inr (7, [.ref (g 14), .int 16, .int 0, .int 0])), (g 14, .inl (cs 0, 400, .inl f_8))]) [1,2] (by decide) rfl) hE hS hFc⟩ rfl rfl hl.1 rfl (lv_room (Nat.le_of_ble_eq_true rfl)) dX11_feed_57 ⟨(Nat.le_of_ble_eq_true rfl), (Nat.le_of_ble_eq_true rfl)⟩) hS (fun q _ h => hFc q h) hFc (fun u t H1 locs ht hvm hw hB hz1 hk1 hS => ?_)
  obtain ⟨f_10, hP1, hD1⟩ := hB
  rw [ht] at hP1
  obtain ⟨hP, hD⟩ := va_join (wr := [(g 0, .inr (11, [.ref (g 1), .ref (g 2), .ref (g 3), .ref (g 4), .int 0, .ref (g 5), .ref (g 6), .ref (g 7), .ref (g 8), .int 0, .int 0, .ref (g 9), .ref (g 10), .ref (g 11), .ref (g 12), .ref (g 13), .int 0]))]) (w1 := [(g 1, .inr (7, [.ref (g 14), .int 20, .int 0, .int 0])), (g 14, .inl (cs 0, 400, .inl f_10))]) hP hD [1, 2] [0] rfl rfl (by decide) (by decide) hk1 hFc hP1 hD1
  generalize H1 = H at hP hS ⊢
  have hP : va_P D classes [(g 0, .inr (11, [.ref (g 1), .ref (g 2), .ref (g 3), .ref (g 4), .int 0, .ref (g 5), .ref (g 6), .ref (g 7), .ref (g 8), .int 0, .int 0, .ref (g 9), .ref (g 10), .ref (g 11), .ref (g 12), .ref (g 13), .int 0])), (g 1, .inr (7, [.ref (g 14), .int 20, .int 0, .int 0])), (g 14, .inl (cs 0, 400, .inl f_10))] H := hP
  have hD : va_D A [(g 0, .inr (11, [.ref (g 1), .ref (g 2), .ref (g 3), .ref (g 4), .int 0, .ref (g 5), .ref (g 6), .ref (g 7), .ref (g 8), .int 0, .int 0, .ref (g 9), .ref (g 10), .ref (g 11), .ref (g 12), .ref (g 13), .int 0])), (g 1, .inr (7, [.ref (g 14), .int 20, .int 0, .int 0])), (g 14, .inl (cs 0, 400, .inl f_10))] := hD
  clear hk1 hFc hP1 hD1 hz1
  refine lv_aload_n hx hb dX11_feed_60 rfl (lv_at hl 0 rfl) ?_
  refine va_get (D := D) (ci := 11) (v := .ref (g 1)) (C := RX11) (T := TX11) (N := 17) hx hb hT i_X11 hown hK hP 0 rfl rfl 0 (by decide) (hT _ q_212) (fun _ h9 => h9) rfl dX11_feed_61 ?_
  refine va_get (D := D) (ci := 7) (v := .int 20) (C := RX7) (T := TX7) (N := 4) hx hb hT i_X7 hown hK hP 1 rfl rfl 1 (by decide) (hT _ q_213) (fun _ h9 => h9) rfl dX11_feed_64 ?_
  exact W.iret (v := 20) hx hb hr (fun t ht hW => ⟨⟨20, (), rfl, rfl, trivial⟩, hS.F ht⟩) hS.2.2 dX11_feed_67
theorem dX11_end_0 : decode cX11_end 0 = .ok (.iload_n 1, 1) := by decide +kernel
theorem dX11_end_1 : decode cX11_end 1 = .ok (.ifCond .lt 14, 3) := by decide +kernel
theorem dX11_end_4 : decode cX11_end 4 = .ok (.iload_n 1, 1) := by decide +kernel
theorem dX11_end_5 : decode cX11_end 5 = .ok (.aload_n 0, 1) := by decide +kernel
theorem dX11_end_6 : decode cX11_end 6 = .ok (.getfield 10, 3) := by decide +kernel
theorem dX11_end_9 : decode cX11_end 9 = .ok (.getfield 91, 3) := by decide +kernel
theorem dX11_end_12 : decode cX11_end 12 = .ok (.if_icmp .le 5, 3) := by decide +kernel
theorem dX11_end_15 : decode cX11_end 15 = .ok (.iconst (-1), 1) := by decide +kernel
theorem dX11_end_16 : decode cX11_end 16 = .ok (.ireturn, 1) := by decide +kernel
theorem dX11_end_17 : decode cX11_end 17 = .ok (.aload_n 0, 1) := by decide +kernel
theorem dX11_end_18 : decode cX11_end 18 = .ok (.getfield 10, 3) := by decide +kernel
theorem dX11_end_21 : decode cX11_end 21 = .ok (.iload_n 1, 1) := by decide +kernel
theorem dX11_end_22 : decode cX11_end 22 = .ok (.putfield 91, 3) := by decide +kernel
theorem dX11_end_25 : decode cX11_end 25 = .ok (.iload_n 1, 1) := by decide +kernel
theorem dX11_end_26 : decode cX11_end 26 = .ok (.ireturn, 1) := by decide +kernel
set_option maxHeartbeats 4000000 in
set_option maxRecDepth 100000 in
theorem c_X11_end (l : Launch) (D : va_G) (cs : Nat → ClassId) (kK kV : Nat → Nat) (g : Nat → Nat) (rr : Nat → Nat) (p0 : Int32) (sz : Nat) : Met l yX11_end (hz_w yX11_end cX11_end 2 (some .int)) ({ frames := 0, cells := 0, slots := 0, locals := 0 }) (va_Pc [.ref (g 0), .int p0] (hz_C D cs kK kV sz [(g 0, .inr (11, [.ref (g 1), .ref (g 2), .ref (g 3), .ref (g 4), .int 0, .ref (g 5), .ref (g 6), .ref (g 7), .ref (g 8), .int 0, .int 0, .ref (g 9), .ref (g 10), .ref (g 11), .ref (g 12), .ref (g 13), .int 0])), (g 1, .inr (7, [.ref (g 14), .int 0, .int 0, .int 0]))])) (va_Qi (fun (r : Int32) (_ : Unit) => r = hz_end p0) (fun _ t => True) (va_A [(g 0, .inr (11, [.ref (g 1), .ref (g 2), .ref (g 3), .ref (g 4), .int 0, .ref (g 5), .ref (g 6), .ref (g 7), .ref (g 8), .int 0, .int 0, .ref (g 9), .ref (g 10), .ref (g 11), .ref (g 12), .ref (g 13), .int 0])), (g 1, .inr (7, [.ref (g 14), .int 0, .int 0, .int 0]))] sz)) 0 0 (va_A [(g 0, .inr (11, [.ref (g 1), .ref (g 2), .ref (g 3), .ref (g 4), .int 0, .ref (g 5), .ref (g 6), .ref (g 7), .ref (g 8), .int 0, .int 0, .ref (g 9), .ref (g 10), .ref (g 11), .ref (g 12), .ref (g 13), .int 0])), (g 1, .inr (7, [.ref (g 14), .int 0, .int 0, .int 0]))] sz) := by
  refine Met.ofW (cc := cX11_end) (maxL := 2) (ret := (some .int)) (by decide) rfl ?_
  intro p e s m args below meth c s₁ B hml hv
  obtain ⟨rfl, hsz, hP, hD0, hE⟩ := hv
  have hx := B.exec
  have hb := B.bytes
  have hr := B.returns
  have hT : ∀ w ∈ TB, w.before _ s = true := fun w h => atoms_spec (ws := hz_w yX11_end cX11_end 2 (some .int)) B.pre w (List.mem_cons_of_mem _ h)
  have hown : s.vm.findClass RX11 = some m.cls := findClass_of_methodNamed B.named
  have hlocks := B.notSynchronized
  clear B
  subst hsz
  have hD := hD0.self (sz := s.heap.size)
  generalize hAe : va_A [(g 0, .inr (11, [.ref (g 1), .ref (g 2), .ref (g 3), .ref (g 4), .int 0, .ref (g 5), .ref (g 6), .ref (g 7), .ref (g 8), .int 0, .int 0, .ref (g 9), .ref (g 10), .ref (g 11), .ref (g 12), .ref (g 13), .int 0])), (g 1, .inr (7, [.ref (g 14), .int 0, .int 0, .int 0]))] s.heap.size = A at hD hE ⊢
  have hA : ∀ q : Nat, s.heap.size ≤ q → A q := fun q h => by rw [← hAe]; exact Or.inr h
  clear hAe hD0
  have hS : va_S A s.heap s.heap [] := va_S.rf
  have hK := hE.1
  have hl := lv_entry ([.ref (g 0), .int p0]) (n := 2) (Nat.le_of_ble_eq_true rfl)
  rw [lg_entry_eq]
  generalize (lg_sl ([.ref (g 0), .int p0]) ++ List.replicate (2 - (lg_sl ([.ref (g 0), .int p0])).length) Slot.unset).toArray = ls at hl ⊢
  have hl : lv_has ls 2 [(0, .ref (g 0)), (1, .int p0)] := hl
  obtain ⟨H, eH⟩ : ∃ z, z = s.heap := ⟨_, rfl⟩
  have hP : va_P D classes [(g 0, .inr (11, [.ref (g 1), .ref (g 2), .ref (g 3), .ref (g 4), .int 0, .ref (g 5), .ref (g 6), .ref (g 7), .ref (g 8), .int 0, .int 0, .ref (g 9), .ref (g 10), .ref (g 11), .ref (g 12), .ref (g 13), .int 0])), (g 1, .inr (7, [.ref (g 14), .int 0, .int 0, .int 0]))] H := by rw [eH]; exact hP
  have hS : va_S A s.heap H [] := by rw [eH]; exact hS
  rw [← eH]
  clear eH
  refine lv_iload_n hx hb dX11_end_0 rfl (lv_at hl 1 rfl) ?_
  refine lv_if_lt (tgt := 15) hx hb dX11_end_1 (by decide) (fun c_1 => ?_) (fun c_1 => ?_)
  · refine lv_iconst (v := -1) hx hb dX11_end_15 (by decide) ?_
    exact W.iret (v := -1) hx hb hr (fun t ht hW => ⟨⟨-1, (), rfl, (by unfold hz_end; rw [if_pos c_1]), trivial⟩, hS.F ht⟩) hS.2.2 dX11_end_16
  · refine lv_iload_n hx hb dX11_end_4 rfl (lv_at hl 1 rfl) ?_
    refine lv_aload_n hx hb dX11_end_5 rfl (lv_at hl 0 rfl) ?_
    refine va_get (D := D) (ci := 11) (v := .ref (g 1)) (C := RX11) (T := TX11) (N := 17) hx hb hT i_X11 hown hK hP 0 rfl rfl 0 (by decide) (hT _ q_212) (fun _ h9 => h9) rfl dX11_end_6 ?_
    refine va_get (D := D) (ci := 7) (v := .int 0) (C := RX7) (T := TX7) (N := 4) hx hb hT i_X7 hown hK hP 1 rfl rfl 1 (by decide) (hT _ q_213) (fun _ h9 => h9) rfl dX11_end_9 ?_
    refine lv_icmp_le (tgt := 17) hx hb dX11_end_12 (by decide) (fun c_2 => ?_) (fun c_2 => ?_)
    · refine lv_aload_n hx hb dX11_end_17 rfl (lv_at hl 0 rfl) ?_
      refine va_get (D := D) (ci := 11) (v := .ref (g 1)) (C := RX11) (T := TX11) (N := 17) hx hb hT i_X11 hown hK hP 0 rfl rfl 0 (by decide) (hT _ q_212) (fun _ h9 => h9) rfl dX11_end_18 ?_
      refine lv_iload_n hx hb dX11_end_21 rfl (lv_at hl 1 rfl) ?_
      refine va_put (D := D) (ci := 7) (v := .int p0) (ty := .int) (C := RX7) (T := TX7) (N := 4) hx hb hT i_X7 tyX7 tyX7_ok nmX7 hown hK hP hD hS 1 rfl rfl 1 (by decide) (hT _ q_213) (fun _ h9 => h9) rfl (by decide +kernel) rfl rfl (Nat.le_of_ble_eq_true rfl) dX11_end_22 (fun H locs hP hD hS => ?_)
      have hP : va_P D classes [(g 0, .inr (11, [.ref (g 1), .ref (g 2), .ref (g 3), .ref (g 4), .int 0, .ref (g 5), .ref (g 6), .ref (g 7), .ref (g 8), .int 0, .int 0, .ref (g 9), .ref (g 10), .ref (g 11), .ref (g 12), .ref (g 13), .int 0])), (g 1, .inr (7, [.ref (g 14), .int p0, .int 0, .int 0]))] H := hP
      have hD : va_D A [(g 0, .inr (11, [.ref (g 1), .ref (g 2), .ref (g 3), .ref (g 4), .int 0, .ref (g 5), .ref (g 6), .ref (g 7), .ref (g 8), .int 0, .int 0, .ref (g 9), .ref (g 10), .ref (g 11), .ref (g 12), .ref (g 13), .int 0])), (g 1, .inr (7, [.ref (g 14), .int p0, .int 0, .int 0]))] := hD
      refine lv_iload_n hx hb dX11_end_25 rfl (lv_at hl 1 rfl) ?_
      exact W.iret (v := p0) hx hb hr (fun t ht hW => ⟨⟨p0, (), rfl, (by unfold hz_end; rw [if_neg c_1, if_pos c_2]), trivial⟩, hS.F ht⟩) hS.2.2 dX11_end_26
    · refine lv_iconst (v := -1) hx hb dX11_end_15 (by decide) ?_
      exact W.iret (v := -1) hx hb hr (fun t ht hW => ⟨⟨-1, (), rfl, (by unfold hz_end; rw [if_neg c_1, if_neg c_2]), trivial⟩, hS.F ht⟩) hS.2.2 dX11_end_16
theorem dX11_fair_0 : decode cX11_fair 0 = .ok (.aload_n 0, 1) := by decide +kernel
theorem dX11_fair_1 : decode cX11_fair 1 = .ok (.getfield 19, 3) := by decide +kernel
theorem dX11_fair_4 : decode cX11_fair 4 = .ok (.aload_n 0, 1) := by decide +kernel
theorem dX11_fair_5 : decode cX11_fair 5 = .ok (.getfield 10, 3) := by decide +kernel
theorem dX11_fair_8 : decode cX11_fair 8 = .ok (.invokevirtual 99, 3) := by decide +kernel
theorem dX11_fair_11 : decode cX11_fair 11 = .ok (.astore_n 1, 1) := by decide +kernel
theorem dX11_fair_12 : decode cX11_fair 12 = .ok (.aload_n 0, 1) := by decide +kernel
theorem dX11_fair_13 : decode cX11_fair 13 = .ok (.getfield 10, 3) := by decide +kernel
theorem dX11_fair_16 : decode cX11_fair 16 = .ok (.getfield 103, 3) := by decide +kernel
theorem dX11_fair_19 : decode cX11_fair 19 = .ok (.ifCond .eq 14, 3) := by decide +kernel
theorem dX11_fair_22 : decode cX11_fair 22 = .ok (.bipush (-2), 2) := by decide +kernel
theorem dX11_fair_24 : decode cX11_fair 24 = .ok (.aload_n 0, 1) := by decide +kernel
theorem dX11_fair_25 : decode cX11_fair 25 = .ok (.getfield 10, 3) := by decide +kernel
theorem dX11_fair_28 : decode cX11_fair 28 = .ok (.getfield 103, 3) := by decide +kernel
theorem dX11_fair_31 : decode cX11_fair 31 = .ok (.isub, 1) := by decide +kernel
theorem dX11_fair_32 : decode cX11_fair 32 = .ok (.ireturn, 1) := by decide +kernel
set_option maxHeartbeats 4000000 in
set_option maxRecDepth 100000 in
theorem c_X11_fair (l : Launch) (D : va_G) (cs : Nat → ClassId) (kK kV : Nat → Nat) (g : Nat → Nat) (rr : Nat → Nat) (sz : Nat) : Met l yX11_fair (hz_w yX11_fair cX11_fair 2 (some .int)) ({ frames := 7, cells := 10, slots := 102, locals := 157 }) (va_Pc [.ref (g 0)] (hz_C D cs kK kV sz [(g 0, .inr (11, [.ref (g 1), .ref (g 2), .ref (g 3), .ref (g 4), .int 0, .ref (g 5), .ref (g 6), .ref (g 7), .ref (g 8), .int 0, .int 0, .ref (g 9), .ref (g 10), .ref (g 11), .ref (g 12), .ref (g 13), .int 0])), (g 2, .inr (0, [.null, .null, .int 0])), (g 1, .inr (7, [.ref (g 14), .int 0, .int 0, .int 0]))])) (va_Qi (fun (r : Int32) (_ : Unit) => r = -3) (fun _ t => True) (va_A [(g 0, .inr (11, [.ref (g 1), .ref (g 2), .ref (g 3), .ref (g 4), .int 0, .ref (g 5), .ref (g 6), .ref (g 7), .ref (g 8), .int 0, .int 0, .ref (g 9), .ref (g 10), .ref (g 11), .ref (g 12), .ref (g 13), .int 0])), (g 2, .inr (0, [.null, .null, .int 0])), (g 1, .inr (7, [.ref (g 14), .int 0, .int 0, .int 0]))] sz)) 10 102 (va_A [(g 0, .inr (11, [.ref (g 1), .ref (g 2), .ref (g 3), .ref (g 4), .int 0, .ref (g 5), .ref (g 6), .ref (g 7), .ref (g 8), .int 0, .int 0, .ref (g 9), .ref (g 10), .ref (g 11), .ref (g 12), .ref (g 13), .int 0])), (g 2, .inr (0, [.null, .null, .int 0])), (g 1, .inr (7, [.ref (g 14), .int 0, .int 0, .int 0]))] sz) := by
  refine Met.ofW (cc := cX11_fair) (maxL := 2) (ret := (some .int)) (by decide) rfl ?_
  intro p e s m args below meth c s₁ B hml hv
  obtain ⟨rfl, hsz, hP, hD0, hE⟩ := hv
  have hx := B.exec
  have hb := B.bytes
  have hr := B.returns
  have hT : ∀ w ∈ TB, w.before _ s = true := fun w h => atoms_spec (ws := hz_w yX11_fair cX11_fair 2 (some .int)) B.pre w (List.mem_cons_of_mem _ h)
  have hown : s.vm.findClass RX11 = some m.cls := findClass_of_methodNamed B.named
  have hlocks := B.notSynchronized
  clear B
  subst hsz
  have hD := hD0.self (sz := s.heap.size)
  generalize hAe : va_A [(g 0, .inr (11, [.ref (g 1), .ref (g 2), .ref (g 3), .ref (g 4), .int 0, .ref (g 5), .ref (g 6), .ref (g 7), .ref (g 8), .int 0, .int 0, .ref (g 9), .ref (g 10), .ref (g 11), .ref (g 12), .ref (g 13), .int 0])), (g 2, .inr (0, [.null, .null, .int 0])), (g 1, .inr (7, [.ref (g 14), .int 0, .int 0, .int 0]))] s.heap.size = A at hD hE ⊢
  have hA : ∀ q : Nat, s.heap.size ≤ q → A q := fun q h => by rw [← hAe]; exact Or.inr h
  clear hAe hD0
  have hS : va_S A s.heap s.heap [] := va_S.rf
  have hK := hE.1
  have hl := lv_entry ([.ref (g 0)]) (n := 2) (Nat.le_of_ble_eq_true rfl)
  rw [lg_entry_eq]
  generalize (lg_sl ([.ref (g 0)]) ++ List.replicate (2 - (lg_sl ([.ref (g 0)])).length) Slot.unset).toArray = ls at hl ⊢
  have hl : lv_has ls 2 [(0, .ref (g 0))] := hl
  obtain ⟨H, eH⟩ : ∃ z, z = s.heap := ⟨_, rfl⟩
  have hP : va_P D classes [(g 0, .inr (11, [.ref (g 1), .ref (g 2), .ref (g 3), .ref (g 4), .int 0, .ref (g 5), .ref (g 6), .ref (g 7), .ref (g 8), .int 0, .int 0, .ref (g 9), .ref (g 10), .ref (g 11), .ref (g 12), .ref (g 13), .int 0])), (g 2, .inr (0, [.null, .null, .int 0])), (g 1, .inr (7, [.ref (g 14), .int 0, .int 0, .int 0]))] H := by rw [eH]; exact hP
  have hS : va_S A s.heap H [] := by rw [eH]; exact hS
  rw [← eH]
  clear eH
  refine lv_aload_n hx hb dX11_fair_0 rfl (lv_at hl 0 rfl) ?_
  refine va_get (D := D) (ci := 11) (v := .ref (g 2)) (C := RX11) (T := TX11) (N := 17) hx hb hT i_X11 hown hK hP 0 rfl rfl 1 (by decide) (hT _ q_219) (fun _ h9 => h9) rfl dX11_fair_1 ?_
  refine lv_aload_n hx hb dX11_fair_4 rfl (lv_at hl 0 rfl) ?_
  refine va_get (D := D) (ci := 11) (v := .ref (g 1)) (C := RX11) (T := TX11) (N := 17) hx hb hT i_X11 hown hK hP 0 rfl rfl 0 (by decide) (hT _ q_212) (fun _ h9 => h9) rfl dX11_fair_5 ?_
  have hFc := va_free (wc := [(g 2, .inr (0, [.null, .null, .int 0])), (g 1, .inr (7, [.ref (g 14), .int 0, .int 0, .int 0]))]) hD hS hA [1,2] rfl
  refine va_callr (va_runV (As := [.ref (g 1)]) (rest := []) ⟨hx, hb, hml, hown, hT⟩ (c_X0_readFair l D cs kK kV (g 2) (g 1) (g 14) H.size) (cwV 1 hT (hz_gV q_220 q_221 q_222 q_137 q_223) rfl rfl rfl (by decide +kernel) ⟨(Nat.le_of_ble_eq_true rfl), (Nat.le_of_ble_eq_true rfl)⟩) ⟨hz_C.blind, va_recv hK hP (ci := 0) (q0 := 1) rfl rfl, hz_C.mk (hP.sub (ws' := [(g 2, .inr (0, [.null, .null, .int 0])), (g 1, .inr (7, [.ref (g 14), .int 0, .int 0, .int 0]))]) [1,2] rfl) (hD.sub (ws' := [(g 2, .inr (0, [.null, .null, .int 0])), (g 1, .inr (7, [.ref (g 14), .int 0, .int 0, .int 0]))]) [1,2] (by decide) rfl) hE hS hFc⟩ rfl rfl hl.1 rfl (lv_room (Nat.le_of_ble_eq_true rfl)) dX11_fair_8 ⟨(Nat.le_of_ble_eq_true rfl), (Nat.le_of_ble_eq_true rfl)⟩) hS (fun q _ h => hFc q h) hFc (fun u r_1 t H1 locs ht hvm hw hB hz1 hk1 hS => ?_)
  obtain ⟨hP1, hD1⟩ := hB
  rw [ht] at hP1
  obtain ⟨hP, hD⟩ := va_join (wr := [(g 0, .inr (11, [.ref (g 1), .ref (g 2), .ref (g 3), .ref (g 4), .int 0, .ref (g 5), .ref (g 6), .ref (g 7), .ref (g 8), .int 0, .int 0, .ref (g 9), .ref (g 10), .ref (g 11), .ref (g 12), .ref (g 13), .int 0]))]) (w1 := [(g 1, .inr (7, [.ref (g 14), .int 0, .int 0, .int 1]))]) hP hD [1, 2] [0] rfl rfl (by decide) (by decide) hk1 hFc hP1 hD1
  generalize H1 = H at hP hS ⊢
  have hP : va_P D classes [(g 0, .inr (11, [.ref (g 1), .ref (g 2), .ref (g 3), .ref (g 4), .int 0, .ref (g 5), .ref (g 6), .ref (g 7), .ref (g 8), .int 0, .int 0, .ref (g 9), .ref (g 10), .ref (g 11), .ref (g 12), .ref (g 13), .int 0])), (g 1, .inr (7, [.ref (g 14), .int 0, .int 0, .int 1]))] H := hP
  have hD : va_D A [(g 0, .inr (11, [.ref (g 1), .ref (g 2), .ref (g 3), .ref (g 4), .int 0, .ref (g 5), .ref (g 6), .ref (g 7), .ref (g 8), .int 0, .int 0, .ref (g 9), .ref (g 10), .ref (g 11), .ref (g 12), .ref (g 13), .int 0])), (g 1, .inr (7, [.ref (g 14), .int 0, .int 0, .int 1]))] := hD
  clear hk1 hFc hP1 hD1 hz1
  refine W.widen (k := 10) (n := 102) (Nat.le_of_ble_eq_true rfl) (Nat.le_of_ble_eq_true rfl) ?_
  refine lv_astore_n (lv' := [(1, .ref r_1), (0, .ref (g 0))]) hx hb dX11_fair_11 rfl hl (by decide) rfl (fun ls hl => ?_)
  refine lv_aload_n hx hb dX11_fair_12 rfl (lv_at hl 1 rfl) ?_
  refine va_get (D := D) (ci := 11) (v := .ref (g 1)) (C := RX11) (T := TX11) (N := 17) hx hb hT i_X11 hown hK hP 0 rfl rfl 0 (by decide) (hT _ q_212) (fun _ h9 => h9) rfl dX11_fair_13 ?_
  refine va_get (D := D) (ci := 7) (v := .int 1) (C := RX7) (T := TX7) (N := 4) hx hb hT i_X7 hown hK hP 1 rfl rfl 3 (by decide) (hT _ q_224) (fun _ h9 => h9) rfl dX11_fair_16 ?_
  refine lv_if_eq (tgt := 33) hx hb dX11_fair_19 (by decide) (fun z => absurd z (by decide)) (fun _ => ?_)
  refine lv_bipush (v := -2) hx hb dX11_fair_22 (by decide) ?_
  refine lv_aload_n hx hb dX11_fair_24 rfl (lv_at hl 1 rfl) ?_
  refine va_get (D := D) (ci := 11) (v := .ref (g 1)) (C := RX11) (T := TX11) (N := 17) hx hb hT i_X11 hown hK hP 0 rfl rfl 0 (by decide) (hT _ q_212) (fun _ h9 => h9) rfl dX11_fair_25 ?_
  refine va_get (D := D) (ci := 7) (v := .int 1) (C := RX7) (T := TX7) (N := 4) hx hb hT i_X7 hown hK hP 1 rfl rfl 3 (by decide) (hT _ q_224) (fun _ h9 => h9) rfl dX11_fair_28 ?_
  refine lv_isub hx hb dX11_fair_31 ?_
  refine hz_ev (-3) (by decide) ?_
  exact W.iret (v := -3) hx hb hr (fun t ht hW => ⟨⟨-3, (), rfl, rfl, trivial⟩, hS.F ht⟩) hS.2.2 dX11_fair_32
theorem dX11_rule_0 : decode cX11_rule 0 = .ok (.aload_n 0, 1) := by decide +kernel
theorem dX11_rule_1 : decode cX11_rule 1 = .ok (.getfield 122, 3) := by decide +kernel
theorem dX11_rule_4 : decode cX11_rule 4 = .ok (.bipush 6, 2) := by decide +kernel
theorem dX11_rule_6 : decode cX11_rule 6 = .ok (.if_icmp .lt 5, 3) := by decide +kernel
theorem dX11_rule_11 : decode cX11_rule 11 = .ok (.aload_n 0, 1) := by decide +kernel
theorem dX11_rule_12 : decode cX11_rule 12 = .ok (.getfield 26, 3) := by decide +kernel
theorem dX11_rule_15 : decode cX11_rule 15 = .ok (.aload_n 0, 1) := by decide +kernel
theorem dX11_rule_16 : decode cX11_rule 16 = .ok (.getfield 10, 3) := by decide +kernel
theorem dX11_rule_19 : decode cX11_rule 19 = .ok (.invokevirtual 125, 3) := by decide +kernel
theorem dX11_rule_22 : decode cX11_rule 22 = .ok (.astore_n 1, 1) := by decide +kernel
theorem dX11_rule_23 : decode cX11_rule 23 = .ok (.aload_n 0, 1) := by decide +kernel
theorem dX11_rule_24 : decode cX11_rule 24 = .ok (.getfield 10, 3) := by decide +kernel
theorem dX11_rule_27 : decode cX11_rule 27 = .ok (.iconst 0, 1) := by decide +kernel
theorem dX11_rule_28 : decode cX11_rule 28 = .ok (.putfield 91, 3) := by decide +kernel
theorem dX11_rule_31 : decode cX11_rule 31 = .ok (.aload_n 0, 1) := by decide +kernel
theorem dX11_rule_32 : decode cX11_rule 32 = .ok (.getfield 10, 3) := by decide +kernel
theorem dX11_rule_35 : decode cX11_rule 35 = .ok (.getfield 103, 3) := by decide +kernel
theorem dX11_rule_38 : decode cX11_rule 38 = .ok (.ifCond .eq 14, 3) := by decide +kernel
theorem dX11_rule_41 : decode cX11_rule 41 = .ok (.bipush (-2), 2) := by decide +kernel
theorem dX11_rule_43 : decode cX11_rule 43 = .ok (.aload_n 0, 1) := by decide +kernel
theorem dX11_rule_44 : decode cX11_rule 44 = .ok (.getfield 10, 3) := by decide +kernel
theorem dX11_rule_47 : decode cX11_rule 47 = .ok (.getfield 103, 3) := by decide +kernel
theorem dX11_rule_50 : decode cX11_rule 50 = .ok (.isub, 1) := by decide +kernel
theorem dX11_rule_51 : decode cX11_rule 51 = .ok (.ireturn, 1) := by decide +kernel
set_option maxHeartbeats 4000000 in
set_option maxRecDepth 100000 in
theorem c_X11_rule (l : Launch) (D : va_G) (cs : Nat → ClassId) (kK kV : Nat → Nat) (g : Nat → Nat) (rr : Nat → Nat) (sz : Nat) : Met l yX11_rule (hz_w yX11_rule cX11_rule 2 (some .int)) ({ frames := 7, cells := 6, slots := 54, locals := 159 }) (va_Pc [.ref (g 0)] (hz_C D cs kK kV sz [(g 0, .inr (11, [.ref (g 1), .ref (g 2), .ref (g 3), .ref (g 4), .int 0, .ref (g 5), .ref (g 6), .ref (g 7), .ref (g 8), .int 0, .int 0, .ref (g 9), .ref (g 10), .ref (g 11), .ref (g 12), .ref (g 13), .int 0])), (g 3, .inr (5, [.null, .ref (g 15), .int 0, .int 0])), (g 1, .inr (7, [.ref (g 14), .int 0, .int 0, .int 0]))])) (va_Qi (fun (r : Int32) (_ : Unit) => r = -3) (fun _ t => True) (va_A [(g 0, .inr (11, [.ref (g 1), .ref (g 2), .ref (g 3), .ref (g 4), .int 0, .ref (g 5), .ref (g 6), .ref (g 7), .ref (g 8), .int 0, .int 0, .ref (g 9), .ref (g 10), .ref (g 11), .ref (g 12), .ref (g 13), .int 0])), (g 3, .inr (5, [.null, .ref (g 15), .int 0, .int 0])), (g 1, .inr (7, [.ref (g 14), .int 0, .int 0, .int 0]))] sz)) 6 54 (va_A [(g 0, .inr (11, [.ref (g 1), .ref (g 2), .ref (g 3), .ref (g 4), .int 0, .ref (g 5), .ref (g 6), .ref (g 7), .ref (g 8), .int 0, .int 0, .ref (g 9), .ref (g 10), .ref (g 11), .ref (g 12), .ref (g 13), .int 0])), (g 3, .inr (5, [.null, .ref (g 15), .int 0, .int 0])), (g 1, .inr (7, [.ref (g 14), .int 0, .int 0, .int 0]))] sz) := by
  refine Met.ofW (cc := cX11_rule) (maxL := 2) (ret := (some .int)) (by decide) rfl ?_
  intro p e s m args below meth c s₁ B hml hv
  obtain ⟨rfl, hsz, hP, hD0, hE⟩ := hv
  have hx := B.exec
  have hb := B.bytes
  have hr := B.returns
  have hT : ∀ w ∈ TB, w.before _ s = true := fun w h => atoms_spec (ws := hz_w yX11_rule cX11_rule 2 (some .int)) B.pre w (List.mem_cons_of_mem _ h)
  have hown : s.vm.findClass RX11 = some m.cls := findClass_of_methodNamed B.named
  have hlocks := B.notSynchronized
  clear B
  subst hsz
  have hD := hD0.self (sz := s.heap.size)
  generalize hAe : va_A [(g 0, .inr (11, [.ref (g 1), .ref (g 2), .ref (g 3), .ref (g 4), .int 0, .ref (g 5), .ref (g 6), .ref (g 7), .ref (g 8), .int 0, .int 0, .ref (g 9), .ref (g 10), .ref (g 11), .ref (g 12), .ref (g 13), .int 0])), (g 3, .inr (5, [.null, .ref (g 15), .int 0, .int 0])), (g 1, .inr (7, [.ref (g 14), .int 0, .int 0, .int 0]))] s.heap.size = A at hD hE ⊢
  have hA : ∀ q : Nat, s.heap.size ≤ q → A q := fun q h => by rw [← hAe]; exact Or.inr h
  clear hAe hD0
  have hS : va_S A s.heap s.heap [] := va_S.rf
  have hK := hE.1
  have hl := lv_entry ([.ref (g 0)]) (n := 2) (Nat.le_of_ble_eq_true rfl)
  rw [lg_entry_eq]
  generalize (lg_sl ([.ref (g 0)]) ++ List.replicate (2 - (lg_sl ([.ref (g 0)])).length) Slot.unset).toArray = ls at hl ⊢
  have hl : lv_has ls 2 [(0, .ref (g 0))] := hl
  obtain ⟨H, eH⟩ : ∃ z, z = s.heap := ⟨_, rfl⟩
  have hP : va_P D classes [(g 0, .inr (11, [.ref (g 1), .ref (g 2), .ref (g 3), .ref (g 4), .int 0, .ref (g 5), .ref (g 6), .ref (g 7), .ref (g 8), .int 0, .int 0, .ref (g 9), .ref (g 10), .ref (g 11), .ref (g 12), .ref (g 13), .int 0])), (g 3, .inr (5, [.null, .ref (g 15), .int 0, .int 0])), (g 1, .inr (7, [.ref (g 14), .int 0, .int 0, .int 0]))] H := by rw [eH]; exact hP
  have hS : va_S A s.heap H [] := by rw [eH]; exact hS
  rw [← eH]
  clear eH
  refine lv_aload_n hx hb dX11_rule_0 rfl (lv_at hl 0 rfl) ?_
  refine va_get (D := D) (ci := 11) (v := .int 0) (C := RX11) (T := TX11) (N := 17) hx hb hT i_X11 hown hK hP 0 rfl rfl 4 (by decide) (hT _ q_170) (fun _ h9 => h9) rfl dX11_rule_1 ?_
  refine lv_bipush (v := 6) hx hb dX11_rule_4 (by decide) ?_
  refine lv_icmp_lt (tgt := 11) hx hb dX11_rule_6 (by decide) (fun _ => ?_) (fun z => absurd (by decide) z)
  refine lv_aload_n hx hb dX11_rule_11 rfl (lv_at hl 0 rfl) ?_
  refine va_get (D := D) (ci := 11) (v := .ref (g 3)) (C := RX11) (T := TX11) (N := 17) hx hb hT i_X11 hown hK hP 0 rfl rfl 2 (by decide) (hT _ q_225) (fun _ h9 => h9) rfl dX11_rule_12 ?_
  refine lv_aload_n hx hb dX11_rule_15 rfl (lv_at hl 0 rfl) ?_
  refine va_get (D := D) (ci := 11) (v := .ref (g 1)) (C := RX11) (T := TX11) (N := 17) hx hb hT i_X11 hown hK hP 0 rfl rfl 0 (by decide) (hT _ q_212) (fun _ h9 => h9) rfl dX11_rule_16 ?_
  have hFc := va_free (wc := [(g 3, .inr (5, [.null, .ref (g 15), .int 0, .int 0])), (g 1, .inr (7, [.ref (g 14), .int 0, .int 0, .int 0]))]) hD hS hA [1,2] rfl
  refine va_callr (va_runV (As := [.ref (g 1)]) (rest := []) ⟨hx, hb, hml, hown, hT⟩ (c_X5_readRule l D cs kK kV (g 3) (g 1) (g 14) (g 15) H.size) (cwV 1 hT (hz_gV q_226 q_227 q_228 q_160 q_229) rfl rfl rfl (by decide +kernel) ⟨(Nat.le_of_ble_eq_true rfl), (Nat.le_of_ble_eq_true rfl)⟩) ⟨hz_C.blind, va_recv hK hP (ci := 5) (q0 := 1) rfl rfl, hz_C.mk (hP.sub (ws' := [(g 3, .inr (5, [.null, .ref (g 15), .int 0, .int 0])), (g 1, .inr (7, [.ref (g 14), .int 0, .int 0, .int 0]))]) [1,2] rfl) (hD.sub (ws' := [(g 3, .inr (5, [.null, .ref (g 15), .int 0, .int 0])), (g 1, .inr (7, [.ref (g 14), .int 0, .int 0, .int 0]))]) [1,2] (by decide) rfl) hE hS hFc⟩ rfl rfl hl.1 rfl (lv_room (Nat.le_of_ble_eq_true rfl)) dX11_rule_19 ⟨(Nat.le_of_ble_eq_true rfl), (Nat.le_of_ble_eq_true rfl)⟩) hS (fun q _ h => hFc q h) hFc (fun u r_1 t H1 locs ht hvm hw hB hz1 hk1 hS => ?_)
  obtain ⟨hP1, hD1⟩ := hB
  rw [ht] at hP1
  obtain ⟨hP, hD⟩ := va_join (wr := [(g 0, .inr (11, [.ref (g 1), .ref (g 2), .ref (g 3), .ref (g 4), .int 0, .ref (g 5), .ref (g 6), .ref (g 7), .ref (g 8), .int 0, .int 0, .ref (g 9), .ref (g 10), .ref (g 11), .ref (g 12), .ref (g 13), .int 0]))]) (w1 := [(g 1, .inr (7, [.ref (g 14), .int 0, .int 0, .int 1]))]) hP hD [1, 2] [0] rfl rfl (by decide) (by decide) hk1 hFc hP1 hD1
  generalize H1 = H at hP hS ⊢
  have hP : va_P D classes [(g 0, .inr (11, [.ref (g 1), .ref (g 2), .ref (g 3), .ref (g 4), .int 0, .ref (g 5), .ref (g 6), .ref (g 7), .ref (g 8), .int 0, .int 0, .ref (g 9), .ref (g 10), .ref (g 11), .ref (g 12), .ref (g 13), .int 0])), (g 1, .inr (7, [.ref (g 14), .int 0, .int 0, .int 1]))] H := hP
  have hD : va_D A [(g 0, .inr (11, [.ref (g 1), .ref (g 2), .ref (g 3), .ref (g 4), .int 0, .ref (g 5), .ref (g 6), .ref (g 7), .ref (g 8), .int 0, .int 0, .ref (g 9), .ref (g 10), .ref (g 11), .ref (g 12), .ref (g 13), .int 0])), (g 1, .inr (7, [.ref (g 14), .int 0, .int 0, .int 1]))] := hD
  clear hk1 hFc hP1 hD1 hz1
  refine W.widen (k := 6) (n := 54) (Nat.le_of_ble_eq_true rfl) (Nat.le_of_ble_eq_true rfl) ?_
  refine lv_astore_n (lv' := [(1, .ref r_1), (0, .ref (g 0))]) hx hb dX11_rule_22 rfl hl (by decide) rfl (fun ls hl => ?_)
  refine lv_aload_n hx hb dX11_rule_23 rfl (lv_at hl 1 rfl) ?_
  refine va_get (D := D) (ci := 11) (v := .ref (g 1)) (C := RX11) (T := TX11) (N := 17) hx hb hT i_X11 hown hK hP 0 rfl rfl 0 (by decide) (hT _ q_212) (fun _ h9 => h9) rfl dX11_rule_24 ?_
  refine lv_iconst (v := 0) hx hb dX11_rule_27 (by decide) ?_
  refine va_put (D := D) (ci := 7) (v := .int 0) (ty := .int) (C := RX7) (T := TX7) (N := 4) hx hb hT i_X7 tyX7 tyX7_ok nmX7 hown hK hP hD hS 1 rfl rfl 1 (by decide) (hT _ q_213) (fun _ h9 => h9) rfl (by decide +kernel) rfl rfl (Nat.le_of_ble_eq_true rfl) dX11_rule_28 (fun H locs hP hD hS => ?_)
  have hP : va_P D classes [(g 0, .inr (11, [.ref (g 1), .ref (g 2), .ref (g 3), .ref (g 4), .int 0, .ref (g 5), .ref (g 6), .ref (g 7), .ref (g 8), .int 0, .int 0, .ref (g 9), .ref (g 10), .ref (g 11), .ref (g 12), .ref (g 13), .int 0])), (g 1, .inr (7, [.ref (g 14), .int 0, .int 0, .int 1]))] H := hP
  have hD : va_D A [(g 0, .inr (11, [.ref (g 1), .ref (g 2), .ref (g 3), .ref (g 4), .int 0, .ref (g 5), .ref (g 6), .ref (g 7), .ref (g 8), .int 0, .int 0, .ref (g 9), .ref (g 10), .ref (g 11), .ref (g 12), .ref (g 13), .int 0])), (g 1, .inr (7, [.ref (g 14), .int 0, .int 0, .int 1]))] := hD
  refine lv_aload_n hx hb dX11_rule_31 rfl (lv_at hl 1 rfl) ?_
  refine va_get (D := D) (ci := 11) (v := .ref (g 1)) (C := RX11) (T := TX11) (N := 17) hx hb hT i_X11 hown hK hP 0 rfl rfl 0 (by decide) (hT _ q_212) (fun _ h9 => h9) rfl dX11_rule_32 ?_
  refine va_get (D := D) (ci := 7) (v := .int 1) (C := RX7) (T := TX7) (N := 4) hx hb hT i_X7 hown hK hP 1 rfl rfl 3 (by decide) (hT _ q_224) (fun _ h9 => h9) rfl dX11_rule_35 ?_
  refine lv_if_eq (tgt := 52) hx hb dX11_rule_38 (by decide) (fun z => absurd z (by decide)) (fun _ => ?_)
  refine lv_bipush (v := -2) hx hb dX11_rule_41 (by decide) ?_
  refine lv_aload_n hx hb dX11_rule_43 rfl (lv_at hl 1 rfl) ?_
  refine va_get (D := D) (ci := 11) (v := .ref (g 1)) (C := RX11) (T := TX11) (N := 17) hx hb hT i_X11 hown hK hP 0 rfl rfl 0 (by decide) (hT _ q_212) (fun _ h9 => h9) rfl dX11_rule_44 ?_
  refine va_get (D := D) (ci := 7) (v := .int 1) (C := RX7) (T := TX7) (N := 4) hx hb hT i_X7 hown hK hP 1 rfl rfl 3 (by decide) (hT _ q_224) (fun _ h9 => h9) rfl dX11_rule_47 ?_
  refine lv_isub hx hb dX11_rule_50 ?_
  refine hz_ev (-3) (by decide) ?_
  exact W.iret (v := -3) hx hb hr (fun t ht hW => ⟨⟨-3, (), rfl, rfl, trivial⟩, hS.F ht⟩) hS.2.2 dX11_rule_51
theorem dX11_trial_0 : decode cX11_trial 0 = .ok (.iload_n 1, 1) := by decide +kernel
theorem dX11_trial_1 : decode cX11_trial 1 = .ok (.iconst (-1), 1) := by decide +kernel
theorem dX11_trial_2 : decode cX11_trial 2 = .ok (.if_icmp .ne 13, 3) := by decide +kernel
theorem dX11_trial_5 : decode cX11_trial 5 = .ok (.aload_n 0, 1) := by decide +kernel
theorem dX11_trial_6 : decode cX11_trial 6 = .ok (.getfield 60, 3) := by decide +kernel
theorem dX11_trial_9 : decode cX11_trial 9 = .ok (.iconst 0, 1) := by decide +kernel
theorem dX11_trial_10 : decode cX11_trial 10 = .ok (.putfield 113, 3) := by decide +kernel
theorem dX11_trial_13 : decode cX11_trial 13 = .ok (.iconst 0, 1) := by decide +kernel
theorem dX11_trial_14 : decode cX11_trial 14 = .ok (.ireturn, 1) := by decide +kernel
theorem dX11_trial_15 : decode cX11_trial 15 = .ok (.aload_n 0, 1) := by decide +kernel
theorem dX11_trial_16 : decode cX11_trial 16 = .ok (.getfield 39, 3) := by decide +kernel
theorem dX11_trial_19 : decode cX11_trial 19 = .ok (.iload_n 1, 1) := by decide +kernel
theorem dX11_trial_20 : decode cX11_trial 20 = .ok (.invokevirtual 129, 3) := by decide +kernel
theorem dX11_trial_23 : decode cX11_trial 23 = .ok (.ifCond .eq 29, 3) := by decide +kernel
theorem dX11_trial_52 : decode cX11_trial 52 = .ok (.bipush (-2), 2) := by decide +kernel
theorem dX11_trial_54 : decode cX11_trial 54 = .ok (.ireturn, 1) := by decide +kernel
set_option maxHeartbeats 4000000 in
set_option maxRecDepth 100000 in
theorem c_X11_trial (l : Launch) (D : va_G) (cs : Nat → ClassId) (kK kV : Nat → Nat) (g : Nat → Nat) (rr : Nat → Nat) (p0 : Int32) (p1 : Int32) (p2 : Int32) (sz : Nat) : Met l yX11_trial (hz_w yX11_trial cX11_trial 4 (some .int)) ({ frames := 1, cells := 0, slots := 0, locals := 21 }) (va_Pc [.ref (g 0), .int p0, .int p1, .int p2] (hz_C D cs kK kV sz [(g 0, .inr (11, [.ref (g 1), .ref (g 2), .ref (g 3), .ref (g 4), .int 0, .ref (g 5), .ref (g 6), .ref (g 7), .ref (g 8), .int 0, .int 0, .ref (g 9), .ref (g 10), .ref (g 11), .ref (g 12), .ref (g 13), .int 0])), (g 5, .inr (8, [.int 0, .int 0, .int 0, .int 0, .int 0, .int 12, .int 5, .int 1, .int 0, .ref (rr 0), .ref (rr 1), .ref (rr 2), .ref (rr 3), .ref (rr 4), .ref (rr 5), .ref (rr 6), .ref (rr 7), .ref (rr 8)])), (g 9, .inr (9, [.int 0, .int 0, .int 0, .ref (g 21), .ref (g 22), .ref (g 23), .ref (g 24)]))])) (va_Qi (fun (r : Int32) (_ : Unit) => r = hz_trial p0) (fun _ t => True) (va_A [(g 0, .inr (11, [.ref (g 1), .ref (g 2), .ref (g 3), .ref (g 4), .int 0, .ref (g 5), .ref (g 6), .ref (g 7), .ref (g 8), .int 0, .int 0, .ref (g 9), .ref (g 10), .ref (g 11), .ref (g 12), .ref (g 13), .int 0])), (g 5, .inr (8, [.int 0, .int 0, .int 0, .int 0, .int 0, .int 12, .int 5, .int 1, .int 0, .ref (rr 0), .ref (rr 1), .ref (rr 2), .ref (rr 3), .ref (rr 4), .ref (rr 5), .ref (rr 6), .ref (rr 7), .ref (rr 8)])), (g 9, .inr (9, [.int 0, .int 0, .int 0, .ref (g 21), .ref (g 22), .ref (g 23), .ref (g 24)]))] sz)) 0 0 (va_A [(g 0, .inr (11, [.ref (g 1), .ref (g 2), .ref (g 3), .ref (g 4), .int 0, .ref (g 5), .ref (g 6), .ref (g 7), .ref (g 8), .int 0, .int 0, .ref (g 9), .ref (g 10), .ref (g 11), .ref (g 12), .ref (g 13), .int 0])), (g 5, .inr (8, [.int 0, .int 0, .int 0, .int 0, .int 0, .int 12, .int 5, .int 1, .int 0, .ref (rr 0), .ref (rr 1), .ref (rr 2), .ref (rr 3), .ref (rr 4), .ref (rr 5), .ref (rr 6), .ref (rr 7), .ref (rr 8)])), (g 9, .inr (9, [.int 0, .int 0, .int 0, .ref (g 21), .ref (g 22), .ref (g 23), .ref (g 24)]))] sz) := by
  refine Met.ofW (cc := cX11_trial) (maxL := 4) (ret := (some .int)) (by decide) rfl ?_
  intro p e s m args below meth c s₁ B hml hv
  obtain ⟨rfl, hsz, hP, hD0, hE⟩ := hv
  have hx := B.exec
  have hb := B.bytes
  have hr := B.returns
  have hT : ∀ w ∈ TB, w.before _ s = true := fun w h => atoms_spec (ws := hz_w yX11_trial cX11_trial 4 (some .int)) B.pre w (List.mem_cons_of_mem _ h)
  have hown : s.vm.findClass RX11 = some m.cls := findClass_of_methodNamed B.named
  have hlocks := B.notSynchronized
  clear B
  subst hsz
  have hD := hD0.self (sz := s.heap.size)
  generalize hAe : va_A [(g 0, .inr (11, [.ref (g 1), .ref (g 2), .ref (g 3), .ref (g 4), .int 0, .ref (g 5), .ref (g 6), .ref (g 7), .ref (g 8), .int 0, .int 0, .ref (g 9), .ref (g 10), .ref (g 11), .ref (g 12), .ref (g 13), .int 0])), (g 5, .inr (8, [.int 0, .int 0, .int 0, .int 0, .int 0, .int 12, .int 5, .int 1, .int 0, .ref (rr 0), .ref (rr 1), .ref (rr 2), .ref (rr 3), .ref (rr 4), .ref (rr 5), .ref (rr 6), .ref (rr 7), .ref (rr 8)])), (g 9, .inr (9, [.int 0, .int 0, .int 0, .ref (g 21), .ref (g 22), .ref (g 23), .ref (g 24)]))] s.heap.size = A at hD hE ⊢
  have hA : ∀ q : Nat, s.heap.size ≤ q → A q := fun q h => by rw [← hAe]; exact Or.inr h
  clear hAe hD0
  have hS : va_S A s.heap s.heap [] := va_S.rf
  have hK := hE.1
  have hl := lv_entry ([.ref (g 0), .int p0, .int p1, .int p2]) (n := 4) (Nat.le_of_ble_eq_true rfl)
  rw [lg_entry_eq]
  generalize (lg_sl ([.ref (g 0), .int p0, .int p1, .int p2]) ++ List.replicate (4 - (lg_sl ([.ref (g 0), .int p0, .int p1, .int p2])).length) Slot.unset).toArray = ls at hl ⊢
  have hl : lv_has ls 4 [(0, .ref (g 0)), (1, .int p0), (2, .int p1), (3, .int p2)] := hl
  obtain ⟨H, eH⟩ : ∃ z, z = s.heap := ⟨_, rfl⟩
  have hP : va_P D classes [(g 0, .inr (11, [.ref (g 1), .ref (g 2), .ref (g 3), .ref (g 4), .int 0, .ref (g 5), .ref (g 6), .ref (g 7), .ref (g 8), .int 0, .int 0, .ref (g 9), .ref (g 10), .ref (g 11), .ref (g 12), .ref (g 13), .int 0])), (g 5, .inr (8, [.int 0, .int 0, .int 0, .int 0, .int 0, .int 12, .int 5, .int 1, .int 0, .ref (rr 0), .ref (rr 1), .ref (rr 2), .ref (rr 3), .ref (rr 4), .ref (rr 5), .ref (rr 6), .ref (rr 7), .ref (rr 8)])), (g 9, .inr (9, [.int 0, .int 0, .int 0, .ref (g 21), .ref (g 22), .ref (g 23), .ref (g 24)]))] H := by rw [eH]; exact hP
  have hS : va_S A s.heap H [] := by rw [eH]; exact hS
  rw [← eH]
  clear eH
  refine lv_iload_n hx hb dX11_trial_0 rfl (lv_at hl 1 rfl) ?_
  refine lv_iconst (v := -1) hx hb dX11_trial_1 (by decide) ?_
  refine lv_icmp_ne (tgt := 15) hx hb dX11_trial_2 (by decide) (fun c_1 => ?_) (fun c_1 => ?_)
  · refine lv_aload_n hx hb dX11_trial_15 rfl (lv_at hl 0 rfl) ?_
    refine va_get (D := D) (ci := 11) (v := .ref (g 5)) (C := RX11) (T := TX11) (N := 17) hx hb hT i_X11 hown hK hP 0 rfl rfl 5 (by decide) (hT _ q_168) (fun _ h9 => h9) rfl dX11_trial_16 ?_
    refine lv_iload_n hx hb dX11_trial_19 rfl (lv_at hl 1 rfl) ?_
    refine va_calli (va_runV (As := [.int p0]) (rest := []) ⟨hx, hb, hml, hown, hT⟩ (c_X8_isHalf l D cs kK kV (g 5) rr p0) (cwV 1 hT (hz_gV q_180 q_181 q_182 q_121 q_183) rfl rfl rfl (by decide +kernel) ⟨(Nat.le_of_ble_eq_true rfl), (Nat.le_of_ble_eq_true rfl)⟩) ⟨hz_P.blind, va_recv hK hP (ci := 8) (q0 := 1) rfl rfl, hz_P.mk (hP.sub (ws' := [(g 5, .inr (8, [.int 0, .int 0, .int 0, .int 0, .int 0, .int 12, .int 5, .int 1, .int 0, .ref (rr 0), .ref (rr 1), .ref (rr 2), .ref (rr 3), .ref (rr 4), .ref (rr 5), .ref (rr 6), .ref (rr 7), .ref (rr 8)]))]) [1] rfl) hE hS⟩ rfl rfl hl.1 rfl (lv_room (Nat.le_of_ble_eq_true rfl)) dX11_trial_20 ⟨(Nat.le_of_ble_eq_true rfl), (Nat.le_of_ble_eq_true rfl)⟩) hS (fun _ _ h => h.elim) (fun _ h => h.elim) (fun r_2 u t H1 locs ht hvm hw hB hz1 hk1 hS => ?_)
    have hP := hz_keep hP hk1
    clear hk1 hB hz1
    generalize H1 = H at hP hS ⊢
    subst hw
    refine lv_if_eq (tgt := 52) hx hb dX11_trial_23 (by decide) (fun _ => ?_) (fun z => absurd (by decide) z)
    refine lv_bipush (v := -2) hx hb dX11_trial_52 (by decide) ?_
    exact W.iret (v := -2) hx hb hr (fun t ht hW => ⟨⟨-2, (), rfl, (by unfold hz_trial; rw [if_neg c_1]), trivial⟩, hS.F ht⟩) hS.2.2 dX11_trial_54
  · refine lv_aload_n hx hb dX11_trial_5 rfl (lv_at hl 0 rfl) ?_
    refine va_get (D := D) (ci := 11) (v := .ref (g 9)) (C := RX11) (T := TX11) (N := 17) hx hb hT i_X11 hown hK hP 0 rfl rfl 11 (by decide) (hT _ q_209) (fun _ h9 => h9) rfl dX11_trial_6 ?_
    refine lv_iconst (v := 0) hx hb dX11_trial_9 (by decide) ?_
    refine va_put (D := D) (ci := 9) (v := .int 0) (ty := .int) (C := RX9) (T := TX9) (N := 7) hx hb hT i_X9 tyX9 tyX9_ok nmX9 hown hK hP hD hS 2 rfl rfl 0 (by decide) (hT _ q_210) (fun _ h9 => h9) rfl (by decide +kernel) rfl rfl (Nat.le_of_ble_eq_true rfl) dX11_trial_10 (fun H locs hP hD hS => ?_)
    have hP : va_P D classes [(g 0, .inr (11, [.ref (g 1), .ref (g 2), .ref (g 3), .ref (g 4), .int 0, .ref (g 5), .ref (g 6), .ref (g 7), .ref (g 8), .int 0, .int 0, .ref (g 9), .ref (g 10), .ref (g 11), .ref (g 12), .ref (g 13), .int 0])), (g 5, .inr (8, [.int 0, .int 0, .int 0, .int 0, .int 0, .int 12, .int 5, .int 1, .int 0, .ref (rr 0), .ref (rr 1), .ref (rr 2), .ref (rr 3), .ref (rr 4), .ref (rr 5), .ref (rr 6), .ref (rr 7), .ref (rr 8)])), (g 9, .inr (9, [.int 0, .int 0, .int 0, .ref (g 21), .ref (g 22), .ref (g 23), .ref (g 24)]))] H := hP
    have hD : va_D A [(g 0, .inr (11, [.ref (g 1), .ref (g 2), .ref (g 3), .ref (g 4), .int 0, .ref (g 5), .ref (g 6), .ref (g 7), .ref (g 8), .int 0, .int 0, .ref (g 9), .ref (g 10), .ref (g 11), .ref (g 12), .ref (g 13), .int 0])), (g 5, .inr (8, [.int 0, .int 0, .int 0, .int 0, .int 0, .int 12, .int 5, .int 1, .int 0, .ref (rr 0), .ref (rr 1), .ref (rr 2), .ref (rr 3), .ref (rr 4), .ref (rr 5), .ref (rr 6), .ref (rr 7), .ref (rr 8)])), (g 9, .inr (9, [.int 0, .int 0, .int 0, .ref (g 21), .ref (g 22), .ref (g 23), .ref (g 24)]))] := hD
    refine lv_iconst (v := 0) hx hb dX11_trial_13 (by decide) ?_
    exact W.iret (v := 0) hx hb hr (fun t ht hW => ⟨⟨0, (), rfl, (by unfold hz_trial; rw [if_pos c_1]), trivial⟩, hS.F ht⟩) hS.2.2 dX11_trial_14
theorem dX11_seed_0 : decode cX11_seed 0 = .ok (.iload_n 1, 1) := by decide +kernel
theorem dX11_seed_1 : decode cX11_seed 1 = .ok (.ifCond .ge 5, 3) := by decide +kernel
theorem dX11_seed_4 : decode cX11_seed 4 = .ok (.iconst (-1), 1) := by decide +kernel
theorem dX11_seed_5 : decode cX11_seed 5 = .ok (.ireturn, 1) := by decide +kernel
theorem dX11_seed_6 : decode cX11_seed 6 = .ok (.aload_n 0, 1) := by decide +kernel
theorem dX11_seed_7 : decode cX11_seed 7 = .ok (.getfield 312, 3) := by decide +kernel
theorem dX11_seed_10 : decode cX11_seed 10 = .ok (.istore_n 2, 1) := by decide +kernel
theorem dX11_seed_11 : decode cX11_seed 11 = .ok (.aload_n 0, 1) := by decide +kernel
theorem dX11_seed_12 : decode cX11_seed 12 = .ok (.iload_n 1, 1) := by decide +kernel
theorem dX11_seed_13 : decode cX11_seed 13 = .ok (.putfield 312, 3) := by decide +kernel
theorem dX11_seed_16 : decode cX11_seed 16 = .ok (.iload_n 2, 1) := by decide +kernel
theorem dX11_seed_17 : decode cX11_seed 17 = .ok (.ireturn, 1) := by decide +kernel
set_option maxHeartbeats 4000000 in
set_option maxRecDepth 100000 in
theorem c_X11_seed (l : Launch) (D : va_G) (cs : Nat → ClassId) (kK kV : Nat → Nat) (g : Nat → Nat) (rr : Nat → Nat) (p0 : Int32) (sz : Nat) : Met l yX11_seed (hz_w yX11_seed cX11_seed 3 (some .int)) ({ frames := 0, cells := 0, slots := 0, locals := 0 }) (va_Pc [.ref (g 0), .int p0] (hz_C D cs kK kV sz [(g 0, .inr (11, [.ref (g 1), .ref (g 2), .ref (g 3), .ref (g 4), .int 0, .ref (g 5), .ref (g 6), .ref (g 7), .ref (g 8), .int 0, .int 0, .ref (g 9), .ref (g 10), .ref (g 11), .ref (g 12), .ref (g 13), .int 0]))])) (va_Qi (fun (r : Int32) (_ : Unit) => r = hz_seed p0) (fun _ t => True) (va_A [(g 0, .inr (11, [.ref (g 1), .ref (g 2), .ref (g 3), .ref (g 4), .int 0, .ref (g 5), .ref (g 6), .ref (g 7), .ref (g 8), .int 0, .int 0, .ref (g 9), .ref (g 10), .ref (g 11), .ref (g 12), .ref (g 13), .int 0]))] sz)) 0 0 (va_A [(g 0, .inr (11, [.ref (g 1), .ref (g 2), .ref (g 3), .ref (g 4), .int 0, .ref (g 5), .ref (g 6), .ref (g 7), .ref (g 8), .int 0, .int 0, .ref (g 9), .ref (g 10), .ref (g 11), .ref (g 12), .ref (g 13), .int 0]))] sz) := by
  refine Met.ofW (cc := cX11_seed) (maxL := 3) (ret := (some .int)) (by decide) rfl ?_
  intro p e s m args below meth c s₁ B hml hv
  obtain ⟨rfl, hsz, hP, hD0, hE⟩ := hv
  have hx := B.exec
  have hb := B.bytes
  have hr := B.returns
  have hT : ∀ w ∈ TB, w.before _ s = true := fun w h => atoms_spec (ws := hz_w yX11_seed cX11_seed 3 (some .int)) B.pre w (List.mem_cons_of_mem _ h)
  have hown : s.vm.findClass RX11 = some m.cls := findClass_of_methodNamed B.named
  have hlocks := B.notSynchronized
  clear B
  subst hsz
  have hD := hD0.self (sz := s.heap.size)
  generalize hAe : va_A [(g 0, .inr (11, [.ref (g 1), .ref (g 2), .ref (g 3), .ref (g 4), .int 0, .ref (g 5), .ref (g 6), .ref (g 7), .ref (g 8), .int 0, .int 0, .ref (g 9), .ref (g 10), .ref (g 11), .ref (g 12), .ref (g 13), .int 0]))] s.heap.size = A at hD hE ⊢
  have hA : ∀ q : Nat, s.heap.size ≤ q → A q := fun q h => by rw [← hAe]; exact Or.inr h
  clear hAe hD0
  have hS : va_S A s.heap s.heap [] := va_S.rf
  have hK := hE.1
  have hl := lv_entry ([.ref (g 0), .int p0]) (n := 3) (Nat.le_of_ble_eq_true rfl)
  rw [lg_entry_eq]
  generalize (lg_sl ([.ref (g 0), .int p0]) ++ List.replicate (3 - (lg_sl ([.ref (g 0), .int p0])).length) Slot.unset).toArray = ls at hl ⊢
  have hl : lv_has ls 3 [(0, .ref (g 0)), (1, .int p0)] := hl
  obtain ⟨H, eH⟩ : ∃ z, z = s.heap := ⟨_, rfl⟩
  have hP : va_P D classes [(g 0, .inr (11, [.ref (g 1), .ref (g 2), .ref (g 3), .ref (g 4), .int 0, .ref (g 5), .ref (g 6), .ref (g 7), .ref (g 8), .int 0, .int 0, .ref (g 9), .ref (g 10), .ref (g 11), .ref (g 12), .ref (g 13), .int 0]))] H := by rw [eH]; exact hP
  have hS : va_S A s.heap H [] := by rw [eH]; exact hS
  rw [← eH]
  clear eH
  refine lv_iload_n hx hb dX11_seed_0 rfl (lv_at hl 1 rfl) ?_
  refine lv_if_ge (tgt := 6) hx hb dX11_seed_1 (by decide) (fun c_1 => ?_) (fun c_1 => ?_)
  · refine lv_aload_n hx hb dX11_seed_6 rfl (lv_at hl 0 rfl) ?_
    refine va_get (D := D) (ci := 11) (v := .int 0) (C := RX11) (T := TX11) (N := 17) hx hb hT i_X11 hown hK hP 0 rfl rfl 16 (by decide) (hT _ q_211) (fun _ h9 => h9) rfl dX11_seed_7 ?_
    refine lv_istore_n (lv' := [(2, .int 0), (0, .ref (g 0)), (1, .int p0)]) hx hb dX11_seed_10 rfl hl (by decide) rfl (fun ls hl => ?_)
    refine lv_aload_n hx hb dX11_seed_11 rfl (lv_at hl 1 rfl) ?_
    refine lv_iload_n hx hb dX11_seed_12 rfl (lv_at hl 2 rfl) ?_
    refine va_put (D := D) (ci := 11) (v := .int p0) (ty := .int) (C := RX11) (T := TX11) (N := 17) hx hb hT i_X11 tyX11 tyX11_ok nmX11 hown hK hP hD hS 0 rfl rfl 16 (by decide) (hT _ q_211) (fun _ h9 => h9) rfl (by decide +kernel) rfl rfl (Nat.le_of_ble_eq_true rfl) dX11_seed_13 (fun H locs hP hD hS => ?_)
    have hP : va_P D classes [(g 0, .inr (11, [.ref (g 1), .ref (g 2), .ref (g 3), .ref (g 4), .int 0, .ref (g 5), .ref (g 6), .ref (g 7), .ref (g 8), .int 0, .int 0, .ref (g 9), .ref (g 10), .ref (g 11), .ref (g 12), .ref (g 13), .int p0]))] H := hP
    have hD : va_D A [(g 0, .inr (11, [.ref (g 1), .ref (g 2), .ref (g 3), .ref (g 4), .int 0, .ref (g 5), .ref (g 6), .ref (g 7), .ref (g 8), .int 0, .int 0, .ref (g 9), .ref (g 10), .ref (g 11), .ref (g 12), .ref (g 13), .int p0]))] := hD
    refine lv_iload_n hx hb dX11_seed_16 rfl (lv_at hl 0 rfl) ?_
    exact W.iret (v := 0) hx hb hr (fun t ht hW => ⟨⟨0, (), rfl, (by unfold hz_seed; rw [if_neg (Int32.not_lt.mpr c_1)]), trivial⟩, hS.F ht⟩) hS.2.2 dX11_seed_17
  · refine lv_iconst (v := -1) hx hb dX11_seed_4 (by decide) ?_
    exact W.iret (v := -1) hx hb hr (fun t ht hW => ⟨⟨-1, (), rfl, (by unfold hz_seed; rw [if_pos (Int32.not_le.mp c_1)]), trivial⟩, hS.F ht⟩) hS.2.2 dX11_seed_5
theorem dX11_image_0 : decode cX11_image 0 = .ok (.iload_n 1, 1) := by decide +kernel
theorem dX11_image_1 : decode cX11_image 1 = .ok (.ifCond .lt 8, 3) := by decide +kernel
theorem dX11_image_4 : decode cX11_image 4 = .ok (.iload_n 1, 1) := by decide +kernel
theorem dX11_image_5 : decode cX11_image 5 = .ok (.iconst 4, 1) := by decide +kernel
theorem dX11_image_6 : decode cX11_image 6 = .ok (.if_icmp .lt 5, 3) := by decide +kernel
theorem dX11_image_9 : decode cX11_image 9 = .ok (.iconst (-1), 1) := by decide +kernel
theorem dX11_image_10 : decode cX11_image 10 = .ok (.ireturn, 1) := by decide +kernel
theorem dX11_image_11 : decode cX11_image 11 = .ok (.aload_n 0, 1) := by decide +kernel
theorem dX11_image_12 : decode cX11_image 12 = .ok (.getfield 66, 3) := by decide +kernel
theorem dX11_image_15 : decode cX11_image 15 = .ok (.iload_n 1, 1) := by decide +kernel
theorem dX11_image_16 : decode cX11_image 16 = .ok (.aaload, 1) := by decide +kernel
theorem dX11_image_17 : decode cX11_image 17 = .ok (.astore_n 2, 1) := by decide +kernel
theorem dX11_image_18 : decode cX11_image 18 = .ok (.aload_n 2, 1) := by decide +kernel
theorem dX11_image_19 : decode cX11_image 19 = .ok (.ifnonnull 18, 3) := by decide +kernel
theorem dX11_image_22 : decode cX11_image 22 = .ok (.new 64, 3) := by decide +kernel
theorem dX11_image_25 : decode cX11_image 25 = .ok (.dup, 1) := by decide +kernel
theorem dX11_image_26 : decode cX11_image 26 = .ok (.invokespecial 326, 3) := by decide +kernel
theorem dX11_image_29 : decode cX11_image 29 = .ok (.astore_n 2, 1) := by decide +kernel
theorem dX11_image_30 : decode cX11_image 30 = .ok (.aload_n 0, 1) := by decide +kernel
theorem dX11_image_31 : decode cX11_image 31 = .ok (.getfield 66, 3) := by decide +kernel
theorem dX11_image_34 : decode cX11_image 34 = .ok (.iload_n 1, 1) := by decide +kernel
theorem dX11_image_35 : decode cX11_image 35 = .ok (.aload_n 2, 1) := by decide +kernel
theorem dX11_image_36 : decode cX11_image 36 = .ok (.aastore, 1) := by decide +kernel
theorem dX11_image_37 : decode cX11_image 37 = .ok (.aload_n 2, 1) := by decide +kernel
theorem dX11_image_38 : decode cX11_image 38 = .ok (.aload_n 0, 1) := by decide +kernel
theorem dX11_image_39 : decode cX11_image 39 = .ok (.getfield 39, 3) := by decide +kernel
theorem dX11_image_42 : decode cX11_image 42 = .ok (.putfield 327, 3) := by decide +kernel
theorem dX11_image_45 : decode cX11_image 45 = .ok (.aload_n 2, 1) := by decide +kernel
theorem dX11_image_46 : decode cX11_image 46 = .ok (.getfield 328, 3) := by decide +kernel
theorem dX11_image_49 : decode cX11_image 49 = .ok (.aload_n 0, 1) := by decide +kernel
theorem dX11_image_50 : decode cX11_image 50 = .ok (.getfield 46, 3) := by decide +kernel
theorem dX11_image_53 : decode cX11_image 53 = .ok (.invokevirtual 228, 3) := by decide +kernel
theorem dX11_image_56 : decode cX11_image 56 = .ok (.aload_n 2, 1) := by decide +kernel
theorem dX11_image_57 : decode cX11_image 57 = .ok (.getfield 329, 3) := by decide +kernel
theorem dX11_image_60 : decode cX11_image 60 = .ok (.aload_n 0, 1) := by decide +kernel
theorem dX11_image_61 : decode cX11_image 61 = .ok (.getfield 60, 3) := by decide +kernel
theorem dX11_image_64 : decode cX11_image 64 = .ok (.invokevirtual 330, 3) := by decide +kernel
theorem dX11_image_67 : decode cX11_image 67 = .ok (.aload_n 2, 1) := by decide +kernel
theorem dX11_image_68 : decode cX11_image 68 = .ok (.aload_n 0, 1) := by decide +kernel
theorem dX11_image_69 : decode cX11_image 69 = .ok (.getfield 312, 3) := by decide +kernel
theorem dX11_image_72 : decode cX11_image 72 = .ok (.putfield 333, 3) := by decide +kernel
theorem dX11_image_75 : decode cX11_image 75 = .ok (.aload_n 0, 1) := by decide +kernel
theorem dX11_image_76 : decode cX11_image 76 = .ok (.getfield 46, 3) := by decide +kernel
theorem dX11_image_79 : decode cX11_image 79 = .ok (.getfield 140, 3) := by decide +kernel
theorem dX11_image_82 : decode cX11_image 82 = .ok (.ireturn, 1) := by decide +kernel
set_option maxHeartbeats 4000000 in
set_option maxRecDepth 100000 in
theorem c_X11_image (l : Launch) (D : va_G) (cs : Nat → ClassId) (kK kV : Nat → Nat) (g : Nat → Nat) (rr : Nat → Nat) (p0 : Int32) (sz : Nat) : Met l yX11_image (hz_w yX11_image cX11_image 3 (some .int)) ({ frames := 3, cells := 12, slots := 89, locals := 221 }) (va_Pc [.ref (g 0), .int p0] (hz_C D cs kK kV sz [(g 0, .inr (11, [.ref (g 1), .ref (g 2), .ref (g 3), .ref (g 4), .int 0, .ref (g 5), .ref (g 6), .ref (g 7), .ref (g 8), .int 0, .int 0, .ref (g 9), .ref (g 10), .ref (g 11), .ref (g 12), .ref (g 13), .int 0])), (g 6, .inr (6, [.int 0, .ref (g 16), .ref (g 17), .ref (g 18), .ref (g 19), .ref (g 20)])), (g 16, .inl (cs 0, 4, .inl (fun _ => 0))), (g 17, .inl (cs 0, 4, .inl (fun _ => 0))), (g 18, .inl (cs 0, 4, .inl (fun _ => 0))), (g 19, .inl (cs 0, 4, .inl (fun _ => 0))), (g 20, .inl (cs 0, 8, .inl (fun _ => 0))), (g 9, .inr (9, [.int 0, .int 0, .int 0, .ref (g 21), .ref (g 22), .ref (g 23), .ref (g 24)])), (g 22, .inl (cs 0, 12, .inl (fun _ => 0))), (g 23, .inl (cs 0, 12, .inl (fun _ => 0))), (g 24, .inl (cs 2, 12, .inl (fun _ => 0))), (g 10, .inl (cs 6, 4, .inr (.inr (.inr (.inr (fun _ => none))))))])) (va_Qi (fun (r : Int32) (_ : Unit) => r = hz_image p0) (fun _ t => True) (va_A [(g 0, .inr (11, [.ref (g 1), .ref (g 2), .ref (g 3), .ref (g 4), .int 0, .ref (g 5), .ref (g 6), .ref (g 7), .ref (g 8), .int 0, .int 0, .ref (g 9), .ref (g 10), .ref (g 11), .ref (g 12), .ref (g 13), .int 0])), (g 6, .inr (6, [.int 0, .ref (g 16), .ref (g 17), .ref (g 18), .ref (g 19), .ref (g 20)])), (g 16, .inl (cs 0, 4, .inl (fun _ => 0))), (g 17, .inl (cs 0, 4, .inl (fun _ => 0))), (g 18, .inl (cs 0, 4, .inl (fun _ => 0))), (g 19, .inl (cs 0, 4, .inl (fun _ => 0))), (g 20, .inl (cs 0, 8, .inl (fun _ => 0))), (g 9, .inr (9, [.int 0, .int 0, .int 0, .ref (g 21), .ref (g 22), .ref (g 23), .ref (g 24)])), (g 22, .inl (cs 0, 12, .inl (fun _ => 0))), (g 23, .inl (cs 0, 12, .inl (fun _ => 0))), (g 24, .inl (cs 2, 12, .inl (fun _ => 0))), (g 10, .inl (cs 6, 4, .inr (.inr (.inr (.inr (fun _ => none))))))] sz)) 12 89 (va_A [(g 0, .inr (11, [.ref (g 1), .ref (g 2), .ref (g 3), .ref (g 4), .int 0, .ref (g 5), .ref (g 6), .ref (g 7), .ref (g 8), .int 0, .int 0, .ref (g 9), .ref (g 10), .ref (g 11), .ref (g 12), .ref (g 13), .int 0])), (g 6, .inr (6, [.int 0, .ref (g 16), .ref (g 17), .ref (g 18), .ref (g 19), .ref (g 20)])), (g 16, .inl (cs 0, 4, .inl (fun _ => 0))), (g 17, .inl (cs 0, 4, .inl (fun _ => 0))), (g 18, .inl (cs 0, 4, .inl (fun _ => 0))), (g 19, .inl (cs 0, 4, .inl (fun _ => 0))), (g 20, .inl (cs 0, 8, .inl (fun _ => 0))), (g 9, .inr (9, [.int 0, .int 0, .int 0, .ref (g 21), .ref (g 22), .ref (g 23), .ref (g 24)])), (g 22, .inl (cs 0, 12, .inl (fun _ => 0))), (g 23, .inl (cs 0, 12, .inl (fun _ => 0))), (g 24, .inl (cs 2, 12, .inl (fun _ => 0))), (g 10, .inl (cs 6, 4, .inr (.inr (.inr (.inr (fun _ => none))))))] sz) := by
  refine Met.ofW (cc := cX11_image) (maxL := 3) (ret := (some .int)) (by decide) rfl ?_
  intro p e s m args below meth c s₁ B hml hv
  obtain ⟨rfl, hsz, hP, hD0, hE⟩ := hv
  have hx := B.exec
  have hb := B.bytes
  have hr := B.returns
  have hT : ∀ w ∈ TB, w.before _ s = true := fun w h => atoms_spec (ws := hz_w yX11_image cX11_image 3 (some .int)) B.pre w (List.mem_cons_of_mem _ h)
  have hown : s.vm.findClass RX11 = some m.cls := findClass_of_methodNamed B.named
  have hlocks := B.notSynchronized
  clear B
  subst hsz
  have hD := hD0.self (sz := s.heap.size)
  generalize hAe : va_A [(g 0, .inr (11, [.ref (g 1), .ref (g 2), .ref (g 3), .ref (g 4), .int 0, .ref (g 5), .ref (g 6), .ref (g 7), .ref (g 8), .int 0, .int 0, .ref (g 9), .ref (g 10), .ref (g 11), .ref (g 12), .ref (g 13), .int 0])), (g 6, .inr (6, [.int 0, .ref (g 16), .ref (g 17), .ref (g 18), .ref (g 19), .ref (g 20)])), (g 16, .inl (cs 0, 4, .inl (fun _ => 0))), (g 17, .inl (cs 0, 4, .inl (fun _ => 0))), (g 18, .inl (cs 0, 4, .inl (fun _ => 0))), (g 19, .inl (cs 0, 4, .inl (fun _ => 0))), (g 20, .inl (cs 0, 8, .inl (fun _ => 0))), (g 9, .inr (9, [.int 0, .int 0, .int 0, .ref (g 21), .ref (g 22), .ref (g 23), .ref (g 24)])), (g 22, .inl (cs 0, 12, .inl (fun _ => 0))), (g 23, .inl (cs 0, 12, .inl (fun _ => 0))), (g 24, .inl (cs 2, 12, .inl (fun _ => 0))), (g 10, .inl (cs 6, 4, .inr (.inr (.inr (.inr (fun _ => none))))))] s.heap.size = A at hD hE ⊢
  have hA : ∀ q : Nat, s.heap.size ≤ q → A q := fun q h => by rw [← hAe]; exact Or.inr h
  clear hAe hD0
  have hS : va_S A s.heap s.heap [] := va_S.rf
  have hK := hE.1
  have hl := lv_entry ([.ref (g 0), .int p0]) (n := 3) (Nat.le_of_ble_eq_true rfl)
  rw [lg_entry_eq]
  generalize (lg_sl ([.ref (g 0), .int p0]) ++ List.replicate (3 - (lg_sl ([.ref (g 0), .int p0])).length) Slot.unset).toArray = ls at hl ⊢
  have hl : lv_has ls 3 [(0, .ref (g 0)), (1, .int p0)] := hl
  obtain ⟨H, eH⟩ : ∃ z, z = s.heap := ⟨_, rfl⟩
  have hP : va_P D classes [(g 0, .inr (11, [.ref (g 1), .ref (g 2), .ref (g 3), .ref (g 4), .int 0, .ref (g 5), .ref (g 6), .ref (g 7), .ref (g 8), .int 0, .int 0, .ref (g 9), .ref (g 10), .ref (g 11), .ref (g 12), .ref (g 13), .int 0])), (g 6, .inr (6, [.int 0, .ref (g 16), .ref (g 17), .ref (g 18), .ref (g 19), .ref (g 20)])), (g 16, .inl (cs 0, 4, .inl (fun _ => 0))), (g 17, .inl (cs 0, 4, .inl (fun _ => 0))), (g 18, .inl (cs 0, 4, .inl (fun _ => 0))), (g 19, .inl (cs 0, 4, .inl (fun _ => 0))), (g 20, .inl (cs 0, 8, .inl (fun _ => 0))), (g 9, .inr (9, [.int 0, .int 0, .int 0, .ref (g 21), .ref (g 22), .ref (g 23), .ref (g 24)])), (g 22, .inl (cs 0, 12, .inl (fun _ => 0))), (g 23, .inl (cs 0, 12, .inl (fun _ => 0))), (g 24, .inl (cs 2, 12, .inl (fun _ => 0))), (g 10, .inl (cs 6, 4, .inr (.inr (.inr (.inr (fun _ => none))))))] H := by rw [eH]; exact hP
  have hS : va_S A s.heap H [] := by rw [eH]; exact hS
  rw [← eH]
  clear eH
  refine lv_iload_n hx hb dX11_image_0 rfl (lv_at hl 1 rfl) ?_
  refine lv_if_lt (tgt := 9) hx hb dX11_image_1 (by decide) (fun c_1 => ?_) (fun c_1 => ?_)
  · refine lv_iconst (v := -1) hx hb dX11_image_9 (by decide) ?_
    refine W.widen (k := 12) (n := 89) (Nat.le_of_ble_eq_true rfl) (Nat.le_of_ble_eq_true rfl) ?_
    exact W.iret (v := -1) hx hb hr (fun t ht hW => ⟨⟨-1, (), rfl, (hz_img1 c_1), trivial⟩, hS.F ht⟩) hS.2.2 dX11_image_10
  · refine lv_iload_n hx hb dX11_image_4 rfl (lv_at hl 1 rfl) ?_
    refine lv_iconst (v := 4) hx hb dX11_image_5 (by decide) ?_
    refine lv_icmp_lt (tgt := 11) hx hb dX11_image_6 (by decide) (fun c_2 => ?_) (fun c_2 => ?_)
    · refine lv_aload_n hx hb dX11_image_11 rfl (lv_at hl 0 rfl) ?_
      refine va_get (D := D) (ci := 11) (v := .ref (g 10)) (C := RX11) (T := TX11) (N := 17) hx hb hT i_X11 hown hK hP 0 rfl rfl 12 (by decide) (hT _ q_214) (fun _ h9 => h9) rfl dX11_image_12 ?_
      refine lv_iload_n hx hb dX11_image_15 rfl (lv_at hl 1 rfl) ?_
      refine va_aldq hx hb hK hP 11 6 rfl rfl (hz_vin4 c_1 c_2) dX11_image_16 ?_
      refine hz_evr .null rfl ?_
      refine lv_astore_nN (lv' := [(2, .null), (0, .ref (g 0)), (1, .int p0)]) hx hb dX11_image_17 rfl hl (by decide) rfl (fun ls hl => ?_)
      refine lv_aload_nN hx hb dX11_image_18 rfl (lv_at hl 0 rfl) ?_
      refine lv_ifnonnullN hx hb dX11_image_19 ?_
      refine va_new (D := D) (ci := 1) (fs := [.null, .null, .null, .int 0]) (C := RX1) (T := TX1) (N := 4) hx hb hT i_X1 tyX1 tyX1_ok hown (hT _ q_230) (hT _ q_231) (hT _ q_232) hK hP hD hS hA rfl df_X1 (Nat.le_of_ble_eq_true rfl) (Nat.le_of_ble_eq_true rfl) dX11_image_22 (fun n_3 H hP hD hS => ?_)
      have hP : va_P D classes [(g 0, .inr (11, [.ref (g 1), .ref (g 2), .ref (g 3), .ref (g 4), .int 0, .ref (g 5), .ref (g 6), .ref (g 7), .ref (g 8), .int 0, .int 0, .ref (g 9), .ref (g 10), .ref (g 11), .ref (g 12), .ref (g 13), .int 0])), (g 6, .inr (6, [.int 0, .ref (g 16), .ref (g 17), .ref (g 18), .ref (g 19), .ref (g 20)])), (g 16, .inl (cs 0, 4, .inl (fun _ => 0))), (g 17, .inl (cs 0, 4, .inl (fun _ => 0))), (g 18, .inl (cs 0, 4, .inl (fun _ => 0))), (g 19, .inl (cs 0, 4, .inl (fun _ => 0))), (g 20, .inl (cs 0, 8, .inl (fun _ => 0))), (g 9, .inr (9, [.int 0, .int 0, .int 0, .ref (g 21), .ref (g 22), .ref (g 23), .ref (g 24)])), (g 22, .inl (cs 0, 12, .inl (fun _ => 0))), (g 23, .inl (cs 0, 12, .inl (fun _ => 0))), (g 24, .inl (cs 2, 12, .inl (fun _ => 0))), (g 10, .inl (cs 6, 4, .inr (.inr (.inr (.inr (fun _ => none)))))), (n_3, .inr (1, [.null, .null, .null, .int 0]))] H := hP
      have hD : va_D A [(g 0, .inr (11, [.ref (g 1), .ref (g 2), .ref (g 3), .ref (g 4), .int 0, .ref (g 5), .ref (g 6), .ref (g 7), .ref (g 8), .int 0, .int 0, .ref (g 9), .ref (g 10), .ref (g 11), .ref (g 12), .ref (g 13), .int 0])), (g 6, .inr (6, [.int 0, .ref (g 16), .ref (g 17), .ref (g 18), .ref (g 19), .ref (g 20)])), (g 16, .inl (cs 0, 4, .inl (fun _ => 0))), (g 17, .inl (cs 0, 4, .inl (fun _ => 0))), (g 18, .inl (cs 0, 4, .inl (fun _ => 0))), (g 19, .inl (cs 0, 4, .inl (fun _ => 0))), (g 20, .inl (cs 0, 8, .inl (fun _ => 0))), (g 9, .inr (9, [.int 0, .int 0, .int 0, .ref (g 21), .ref (g 22), .ref (g 23), .ref (g 24)])), (g 22, .inl (cs 0, 12, .inl (fun _ => 0))), (g 23, .inl (cs 0, 12, .inl (fun _ => 0))), (g 24, .inl (cs 2, 12, .inl (fun _ => 0))), (g 10, .inl (cs 6, 4, .inr (.inr (.inr (.inr (fun _ => none)))))), (n_3, .inr (1, [.null, .null, .null, .int 0]))] := hD
      refine W.widen (k := 1) (n := 4) (Nat.le_of_ble_eq_true rfl) (Nat.le_of_ble_eq_true rfl) ?_
      refine lv_dup hx hb dX11_image_25 rfl ?_
      have hFc := va_free (wc := [(n_3, .inr (1, [.null, .null, .null, .int 0]))]) hD hS hA [12] rfl
      refine va_callv (va_runIN (As := []) (rest := [.ref n_3]) ⟨hx, hb, hml, hown, hT⟩ (c_X1_init l D cs kK kV n_3 H.size) ⟨va_cnB 0 hT (hz_gw q_233) rfl rfl rfl (hE.2.1 11 (by decide)) (hT _ q_232) (by decide +kernel) ⟨(Nat.le_of_ble_eq_true rfl), (Nat.le_of_ble_eq_true rfl)⟩, rfl, hT _ q_234⟩ ⟨hz_C.blind, hz_C.mk (hP.sub (ws' := [(n_3, .inr (1, [.null, .null, .null, .int 0]))]) [12] rfl) (hD.sub (ws' := [(n_3, .inr (1, [.null, .null, .null, .int 0]))]) [12] (by decide) rfl) hE hS hFc⟩ rfl rfl hl.1 rfl (lv_room (Nat.le_of_ble_eq_true rfl)) dX11_image_26 ⟨(Nat.le_of_ble_eq_true rfl), (Nat.le_of_ble_eq_true rfl)⟩) hS (fun q _ h => hFc q h) hFc (fun u t H1 locs ht hvm hw hB hz1 hk1 hS => ?_)
      obtain ⟨g_5, hP1, hD1⟩ := hB
      rw [ht] at hP1
      obtain ⟨hP, hD⟩ := va_join (wr := [(g 0, .inr (11, [.ref (g 1), .ref (g 2), .ref (g 3), .ref (g 4), .int 0, .ref (g 5), .ref (g 6), .ref (g 7), .ref (g 8), .int 0, .int 0, .ref (g 9), .ref (g 10), .ref (g 11), .ref (g 12), .ref (g 13), .int 0])), (g 6, .inr (6, [.int 0, .ref (g 16), .ref (g 17), .ref (g 18), .ref (g 19), .ref (g 20)])), (g 16, .inl (cs 0, 4, .inl (fun _ => 0))), (g 17, .inl (cs 0, 4, .inl (fun _ => 0))), (g 18, .inl (cs 0, 4, .inl (fun _ => 0))), (g 19, .inl (cs 0, 4, .inl (fun _ => 0))), (g 20, .inl (cs 0, 8, .inl (fun _ => 0))), (g 9, .inr (9, [.int 0, .int 0, .int 0, .ref (g 21), .ref (g 22), .ref (g 23), .ref (g 24)])), (g 22, .inl (cs 0, 12, .inl (fun _ => 0))), (g 23, .inl (cs 0, 12, .inl (fun _ => 0))), (g 24, .inl (cs 2, 12, .inl (fun _ => 0))), (g 10, .inl (cs 6, 4, .inr (.inr (.inr (.inr (fun _ => none))))))]) (w1 := [(n_3, .inr (1, [.null, .ref (g_5 0), .ref (g_5 6), .int 0])), (g_5 0, .inr (6, [.int 0, .ref (g_5 1), .ref (g_5 2), .ref (g_5 3), .ref (g_5 4), .ref (g_5 5)])), (g_5 1, .inl (cs 0, 4, .inl (fun _ => 0))), (g_5 2, .inl (cs 0, 4, .inl (fun _ => 0))), (g_5 3, .inl (cs 0, 4, .inl (fun _ => 0))), (g_5 4, .inl (cs 0, 4, .inl (fun _ => 0))), (g_5 5, .inl (cs 0, 8, .inl (fun _ => 0))), (g_5 6, .inr (9, [.int 0, .int 0, .int 0, .ref (g_5 7), .ref (g_5 8), .ref (g_5 9), .ref (g_5 10)])), (g_5 8, .inl (cs 0, 12, .inl (fun _ => 0))), (g_5 9, .inl (cs 0, 12, .inl (fun _ => 0))), (g_5 10, .inl (cs 2, 12, .inl (fun _ => 0)))]) hP hD [12] [0, 1, 2, 3, 4, 5, 6, 7, 8, 9, 10, 11] rfl rfl (by decide) (by decide) hk1 hFc hP1 hD1
      generalize H1 = H at hP hS ⊢
      have hP : va_P D classes [(g 0, .inr (11, [.ref (g 1), .ref (g 2), .ref (g 3), .ref (g 4), .int 0, .ref (g 5), .ref (g 6), .ref (g 7), .ref (g 8), .int 0, .int 0, .ref (g 9), .ref (g 10), .ref (g 11), .ref (g 12), .ref (g 13), .int 0])), (g 6, .inr (6, [.int 0, .ref (g 16), .ref (g 17), .ref (g 18), .ref (g 19), .ref (g 20)])), (g 16, .inl (cs 0, 4, .inl (fun _ => 0))), (g 17, .inl (cs 0, 4, .inl (fun _ => 0))), (g 18, .inl (cs 0, 4, .inl (fun _ => 0))), (g 19, .inl (cs 0, 4, .inl (fun _ => 0))), (g 20, .inl (cs 0, 8, .inl (fun _ => 0))), (g 9, .inr (9, [.int 0, .int 0, .int 0, .ref (g 21), .ref (g 22), .ref (g 23), .ref (g 24)])), (g 22, .inl (cs 0, 12, .inl (fun _ => 0))), (g 23, .inl (cs 0, 12, .inl (fun _ => 0))), (g 24, .inl (cs 2, 12, .inl (fun _ => 0))), (g 10, .inl (cs 6, 4, .inr (.inr (.inr (.inr (fun _ => none)))))), (n_3, .inr (1, [.null, .ref (g_5 0), .ref (g_5 6), .int 0])), (g_5 0, .inr (6, [.int 0, .ref (g_5 1), .ref (g_5 2), .ref (g_5 3), .ref (g_5 4), .ref (g_5 5)])), (g_5 1, .inl (cs 0, 4, .inl (fun _ => 0))), (g_5 2, .inl (cs 0, 4, .inl (fun _ => 0))), (g_5 3, .inl (cs 0, 4, .inl (fun _ => 0))), (g_5 4, .inl (cs 0, 4, .inl (fun _ => 0))), (g_5 5, .inl (cs 0, 8, .inl (fun _ => 0))), (g_5 6, .inr (9, [.int 0, .int 0, .int 0, .ref (g_5 7), .ref (g_5 8), .ref (g_5 9), .ref (g_5 10)])), (g_5 8, .inl (cs 0, 12, .inl (fun _ => 0))), (g_5 9, .inl (cs 0, 12, .inl (fun _ => 0))), (g_5 10, .inl (cs 2, 12, .inl (fun _ => 0)))] H := hP
      have hD : va_D A [(g 0, .inr (11, [.ref (g 1), .ref (g 2), .ref (g 3), .ref (g 4), .int 0, .ref (g 5), .ref (g 6), .ref (g 7), .ref (g 8), .int 0, .int 0, .ref (g 9), .ref (g 10), .ref (g 11), .ref (g 12), .ref (g 13), .int 0])), (g 6, .inr (6, [.int 0, .ref (g 16), .ref (g 17), .ref (g 18), .ref (g 19), .ref (g 20)])), (g 16, .inl (cs 0, 4, .inl (fun _ => 0))), (g 17, .inl (cs 0, 4, .inl (fun _ => 0))), (g 18, .inl (cs 0, 4, .inl (fun _ => 0))), (g 19, .inl (cs 0, 4, .inl (fun _ => 0))), (g 20, .inl (cs 0, 8, .inl (fun _ => 0))), (g 9, .inr (9, [.int 0, .int 0, .int 0, .ref (g 21), .ref (g 22), .ref (g 23), .ref (g 24)])), (g 22, .inl (cs 0, 12, .inl (fun _ => 0))), (g 23, .inl (cs 0, 12, .inl (fun _ => 0))), (g 24, .inl (cs 2, 12, .inl (fun _ => 0))), (g 10, .inl (cs 6, 4, .inr (.inr (.inr (.inr (fun _ => none)))))), (n_3, .inr (1, [.null, .ref (g_5 0), .ref (g_5 6), .int 0])), (g_5 0, .inr (6, [.int 0, .ref (g_5 1), .ref (g_5 2), .ref (g_5 3), .ref (g_5 4), .ref (g_5 5)])), (g_5 1, .inl (cs 0, 4, .inl (fun _ => 0))), (g_5 2, .inl (cs 0, 4, .inl (fun _ => 0))), (g_5 3, .inl (cs 0, 4, .inl (fun _ => 0))), (g_5 4, .inl (cs 0, 4, .inl (fun _ => 0))), (g_5 5, .inl (cs 0, 8, .inl (fun _ => 0))), (g_5 6, .inr (9, [.int 0, .int 0, .int 0, .ref (g_5 7), .ref (g_5 8), .ref (g_5 9), .ref (g_5 10)])), (g_5 8, .inl (cs 0, 12, .inl (fun _ => 0))), (g_5 9, .inl (cs 0, 12, .inl (fun _ => 0))), (g_5 10, .inl (cs 2, 12, .inl (fun _ => 0)))] := hD
      clear hk1 hFc hP1 hD1 hz1
      refine W.widen (k := 12) (n := 89) (Nat.le_of_ble_eq_true rfl) (Nat.le_of_ble_eq_true rfl) ?_
      refine lv_astore_n (lv' := [(2, .ref n_3), (0, .ref (g 0)), (1, .int p0)]) hx hb dX11_image_29 rfl hl (by decide) rfl (fun ls hl => ?_)
      refine lv_aload_n hx hb dX11_image_30 rfl (lv_at hl 1 rfl) ?_
      refine va_get (D := D) (ci := 11) (v := .ref (g 10)) (C := RX11) (T := TX11) (N := 17) hx hb hT i_X11 hown hK hP 0 rfl rfl 12 (by decide) (hT _ q_214) (fun _ h9 => h9) rfl dX11_image_31 ?_
      refine lv_iload_n hx hb dX11_image_34 rfl (lv_at hl 2 rfl) ?_
      refine lv_aload_n hx hb dX11_image_35 rfl (lv_at hl 0 rfl) ?_
      refine va_astq hx hb hK hP hD hS 11 6 12 1 rfl rfl rfl rfl (hz_vin4 c_1 c_2) dX11_image_36 (fun H locs hP hD hS => ?_)
      have hP : va_P D classes [(g 0, .inr (11, [.ref (g 1), .ref (g 2), .ref (g 3), .ref (g 4), .int 0, .ref (g 5), .ref (g 6), .ref (g 7), .ref (g 8), .int 0, .int 0, .ref (g 9), .ref (g 10), .ref (g 11), .ref (g 12), .ref (g 13), .int 0])), (g 6, .inr (6, [.int 0, .ref (g 16), .ref (g 17), .ref (g 18), .ref (g 19), .ref (g 20)])), (g 16, .inl (cs 0, 4, .inl (fun _ => 0))), (g 17, .inl (cs 0, 4, .inl (fun _ => 0))), (g 18, .inl (cs 0, 4, .inl (fun _ => 0))), (g 19, .inl (cs 0, 4, .inl (fun _ => 0))), (g 20, .inl (cs 0, 8, .inl (fun _ => 0))), (g 9, .inr (9, [.int 0, .int 0, .int 0, .ref (g 21), .ref (g 22), .ref (g 23), .ref (g 24)])), (g 22, .inl (cs 0, 12, .inl (fun _ => 0))), (g 23, .inl (cs 0, 12, .inl (fun _ => 0))), (g 24, .inl (cs 2, 12, .inl (fun _ => 0))), (g 10, .inl (cs 6, 4, .inr (.inr (.inr (.inr (va_up (fun _ => none) (Int32.toNatClampNeg p0) (some n_3))))))), (n_3, .inr (1, [.null, .ref (g_5 0), .ref (g_5 6), .int 0])), (g_5 0, .inr (6, [.int 0, .ref (g_5 1), .ref (g_5 2), .ref (g_5 3), .ref (g_5 4), .ref (g_5 5)])), (g_5 1, .inl (cs 0, 4, .inl (fun _ => 0))), (g_5 2, .inl (cs 0, 4, .inl (fun _ => 0))), (g_5 3, .inl (cs 0, 4, .inl (fun _ => 0))), (g_5 4, .inl (cs 0, 4, .inl (fun _ => 0))), (g_5 5, .inl (cs 0, 8, .inl (fun _ => 0))), (g_5 6, .inr (9, [.int 0, .int 0, .int 0, .ref (g_5 7), .ref (g_5 8), .ref (g_5 9), .ref (g_5 10)])), (g_5 8, .inl (cs 0, 12, .inl (fun _ => 0))), (g_5 9, .inl (cs 0, 12, .inl (fun _ => 0))), (g_5 10, .inl (cs 2, 12, .inl (fun _ => 0)))] H := hP
      have hD : va_D A [(g 0, .inr (11, [.ref (g 1), .ref (g 2), .ref (g 3), .ref (g 4), .int 0, .ref (g 5), .ref (g 6), .ref (g 7), .ref (g 8), .int 0, .int 0, .ref (g 9), .ref (g 10), .ref (g 11), .ref (g 12), .ref (g 13), .int 0])), (g 6, .inr (6, [.int 0, .ref (g 16), .ref (g 17), .ref (g 18), .ref (g 19), .ref (g 20)])), (g 16, .inl (cs 0, 4, .inl (fun _ => 0))), (g 17, .inl (cs 0, 4, .inl (fun _ => 0))), (g 18, .inl (cs 0, 4, .inl (fun _ => 0))), (g 19, .inl (cs 0, 4, .inl (fun _ => 0))), (g 20, .inl (cs 0, 8, .inl (fun _ => 0))), (g 9, .inr (9, [.int 0, .int 0, .int 0, .ref (g 21), .ref (g 22), .ref (g 23), .ref (g 24)])), (g 22, .inl (cs 0, 12, .inl (fun _ => 0))), (g 23, .inl (cs 0, 12, .inl (fun _ => 0))), (g 24, .inl (cs 2, 12, .inl (fun _ => 0))), (g 10, .inl (cs 6, 4, .inr (.inr (.inr (.inr (va_up (fun _ => none) (Int32.toNatClampNeg p0) (some n_3))))))), (n_3, .inr (1, [.null, .ref (g_5 0), .ref (g_5 6), .int 0])), (g_5 0, .inr (6, [.int 0, .ref (g_5 1), .ref (g_5 2), .ref (g_5 3), .ref (g_5 4), .ref (g_5 5)])), (g_5 1, .inl (cs 0, 4, .inl (fun _ => 0))), (g_5 2, .inl (cs 0, 4, .inl (fun _ => 0))), (g_5 3, .inl (cs 0, 4, .inl (fun _ => 0))), (g_5 4, .inl (cs 0, 4, .inl (fun _ => 0))), (g_5 5, .inl (cs 0, 8, .inl (fun _ => 0))), (g_5 6, .inr (9, [.int 0, .int 0, .int 0, .ref (g_5 7), .ref (g_5 8), .ref (g_5 9), .ref (g_5 10)])), (g_5 8, .inl (cs 0, 12, .inl (fun _ => 0))), (g_5 9, .inl (cs 0, 12, .inl (fun _ => 0))), (g_5 10, .inl (cs 2, 12, .inl (fun _ => 0)))] := hD
      generalize va_up (fun _ => none) (Int32.toNatClampNeg p0) (some n_3) = f_6 at hP hD
      refine lv_aload_n hx hb dX11_image_37 rfl (lv_at hl 0 rfl) ?_
      refine lv_aload_n hx hb dX11_image_38 rfl (lv_at hl 1 rfl) ?_
      refine va_get (D := D) (ci := 11) (v := .ref (g 5)) (C := RX11) (T := TX11) (N := 17) hx hb hT i_X11 hown hK hP 0 rfl rfl 5 (by decide) (hT _ q_168) (fun _ h9 => h9) rfl dX11_image_39 ?_
      refine va_put (D := D) (ci := 1) (v := .ref (g 5)) (ty := .object "HalfFair$Told") (C := RX1) (T := TX1) (N := 4) hx hb hT i_X1 tyX1 tyX1_ok nmX1 hown hK hP hD hS 12 rfl rfl 0 (by decide) (hT _ q_235) (fun _ h9 => h9) rfl (by decide +kernel) rfl rfl (Nat.le_of_ble_eq_true rfl) dX11_image_42 (fun H locs hP hD hS => ?_)
      have hP : va_P D classes [(g 0, .inr (11, [.ref (g 1), .ref (g 2), .ref (g 3), .ref (g 4), .int 0, .ref (g 5), .ref (g 6), .ref (g 7), .ref (g 8), .int 0, .int 0, .ref (g 9), .ref (g 10), .ref (g 11), .ref (g 12), .ref (g 13), .int 0])), (g 6, .inr (6, [.int 0, .ref (g 16), .ref (g 17), .ref (g 18), .ref (g 19), .ref (g 20)])), (g 16, .inl (cs 0, 4, .inl (fun _ => 0))), (g 17, .inl (cs 0, 4, .inl (fun _ => 0))), (g 18, .inl (cs 0, 4, .inl (fun _ => 0))), (g 19, .inl (cs 0, 4, .inl (fun _ => 0))), (g 20, .inl (cs 0, 8, .inl (fun _ => 0))), (g 9, .inr (9, [.int 0, .int 0, .int 0, .ref (g 21), .ref (g 22), .ref (g 23), .ref (g 24)])), (g 22, .inl (cs 0, 12, .inl (fun _ => 0))), (g 23, .inl (cs 0, 12, .inl (fun _ => 0))), (g 24, .inl (cs 2, 12, .inl (fun _ => 0))), (g 10, .inl (cs 6, 4, .inr (.inr (.inr (.inr f_6))))), (n_3, .inr (1, [.ref (g 5), .ref (g_5 0), .ref (g_5 6), .int 0])), (g_5 0, .inr (6, [.int 0, .ref (g_5 1), .ref (g_5 2), .ref (g_5 3), .ref (g_5 4), .ref (g_5 5)])), (g_5 1, .inl (cs 0, 4, .inl (fun _ => 0))), (g_5 2, .inl (cs 0, 4, .inl (fun _ => 0))), (g_5 3, .inl (cs 0, 4, .inl (fun _ => 0))), (g_5 4, .inl (cs 0, 4, .inl (fun _ => 0))), (g_5 5, .inl (cs 0, 8, .inl (fun _ => 0))), (g_5 6, .inr (9, [.int 0, .int 0, .int 0, .ref (g_5 7), .ref (g_5 8), .ref (g_5 9), .ref (g_5 10)])), (g_5 8, .inl (cs 0, 12, .inl (fun _ => 0))), (g_5 9, .inl (cs 0, 12, .inl (fun _ => 0))), (g_5 10, .inl (cs 2, 12, .inl (fun _ => 0)))] H := hP
      have hD : va_D A [(g 0, .inr (11, [.ref (g 1), .ref (g 2), .ref (g 3), .ref (g 4), .int 0, .ref (g 5), .ref (g 6), .ref (g 7), .ref (g 8), .int 0, .int 0, .ref (g 9), .ref (g 10), .ref (g 11), .ref (g 12), .ref (g 13), .int 0])), (g 6, .inr (6, [.int 0, .ref (g 16), .ref (g 17), .ref (g 18), .ref (g 19), .ref (g 20)])), (g 16, .inl (cs 0, 4, .inl (fun _ => 0))), (g 17, .inl (cs 0, 4, .inl (fun _ => 0))), (g 18, .inl (cs 0, 4, .inl (fun _ => 0))), (g 19, .inl (cs 0, 4, .inl (fun _ => 0))), (g 20, .inl (cs 0, 8, .inl (fun _ => 0))), (g 9, .inr (9, [.int 0, .int 0, .int 0, .ref (g 21), .ref (g 22), .ref (g 23), .ref (g 24)])), (g 22, .inl (cs 0, 12, .inl (fun _ => 0))), (g 23, .inl (cs 0, 12, .inl (fun _ => 0))), (g 24, .inl (cs 2, 12, .inl (fun _ => 0))), (g 10, .inl (cs 6, 4, .inr (.inr (.inr (.inr f_6))))), (n_3, .inr (1, [.ref (g 5), .ref (g_5 0), .ref (g_5 6), .int 0])), (g_5 0, .inr (6, [.int 0, .ref (g_5 1), .ref (g_5 2), .ref (g_5 3), .ref (g_5 4), .ref (g_5 5)])), (g_5 1, .inl (cs 0, 4, .inl (fun _ => 0))), (g_5 2, .inl (cs 0, 4, .inl (fun _ => 0))), (g_5 3, .inl (cs 0, 4, .inl (fun _ => 0))), (g_5 4, .inl (cs 0, 4, .inl (fun _ => 0))), (g_5 5, .inl (cs 0, 8, .inl (fun _ => 0))), (g_5 6, .inr (9, [.int 0, .int 0, .int 0, .ref (g_5 7), .ref (g_5 8), .ref (g_5 9), .ref (g_5 10)])), (g_5 8, .inl (cs 0, 12, .inl (fun _ => 0))), (g_5 9, .inl (cs 0, 12, .inl (fun _ => 0))), (g_5 10, .inl (cs 2, 12, .inl (fun _ => 0)))] := hD
      refine lv_aload_n hx hb dX11_image_45 rfl (lv_at hl 0 rfl) ?_
      refine va_get (D := D) (ci := 1) (v := .ref (g_5 0)) (C := RX1) (T := TX1) (N := 4) hx hb hT i_X1 hown hK hP 12 rfl rfl 1 (by decide) (hT _ q_236) (fun _ h9 => h9) rfl dX11_image_46 ?_
      refine lv_aload_n hx hb dX11_image_49 rfl (lv_at hl 1 rfl) ?_
      refine va_get (D := D) (ci := 11) (v := .ref (g 6)) (C := RX11) (T := TX11) (N := 17) hx hb hT i_X11 hown hK hP 0 rfl rfl 6 (by decide) (hT _ q_199) (fun _ h9 => h9) rfl dX11_image_50 ?_
      have hFc := va_free (wc := [(g_5 0, .inr (6, [.int 0, .ref (g_5 1), .ref (g_5 2), .ref (g_5 3), .ref (g_5 4), .ref (g_5 5)])), (g 6, .inr (6, [.int 0, .ref (g 16), .ref (g 17), .ref (g 18), .ref (g 19), .ref (g 20)])), (g_5 1, .inl (cs 0, 4, .inl (fun _ => 0))), (g_5 2, .inl (cs 0, 4, .inl (fun _ => 0))), (g_5 3, .inl (cs 0, 4, .inl (fun _ => 0))), (g_5 4, .inl (cs 0, 4, .inl (fun _ => 0))), (g_5 5, .inl (cs 0, 8, .inl (fun _ => 0))), (g 16, .inl (cs 0, 4, .inl (fun _ => 0))), (g 17, .inl (cs 0, 4, .inl (fun _ => 0))), (g 18, .inl (cs 0, 4, .inl (fun _ => 0))), (g 19, .inl (cs 0, 4, .inl (fun _ => 0))), (g 20, .inl (cs 0, 8, .inl (fun _ => 0)))]) hD hS hA [13,1,14,15,16,17,18,2,3,4,5,6] rfl
      refine va_callv (va_runV (As := [.ref (g 6)]) (rest := []) ⟨hx, hb, hml, hown, hT⟩ (c_X6_copyFrom l D cs kK kV (g_5 0) (g 6) ((fun i => g_5 (1 + i))) ((fun i => g (16 + i))) H.size) (cwV 1 hT (hz_gV q_237 q_238 q_239 q_53 q_240) rfl rfl rfl (by decide +kernel) ⟨(Nat.le_of_ble_eq_true rfl), (Nat.le_of_ble_eq_true rfl)⟩) ⟨hz_C.blind, va_recv hK hP (ci := 6) (q0 := 13) rfl rfl, hz_C.mk (hP.sub (ws' := [(g_5 0, .inr (6, [.int 0, .ref (g_5 1), .ref (g_5 2), .ref (g_5 3), .ref (g_5 4), .ref (g_5 5)])), (g 6, .inr (6, [.int 0, .ref (g 16), .ref (g 17), .ref (g 18), .ref (g 19), .ref (g 20)])), (g_5 1, .inl (cs 0, 4, .inl (fun _ => 0))), (g_5 2, .inl (cs 0, 4, .inl (fun _ => 0))), (g_5 3, .inl (cs 0, 4, .inl (fun _ => 0))), (g_5 4, .inl (cs 0, 4, .inl (fun _ => 0))), (g_5 5, .inl (cs 0, 8, .inl (fun _ => 0))), (g 16, .inl (cs 0, 4, .inl (fun _ => 0))), (g 17, .inl (cs 0, 4, .inl (fun _ => 0))), (g 18, .inl (cs 0, 4, .inl (fun _ => 0))), (g 19, .inl (cs 0, 4, .inl (fun _ => 0))), (g 20, .inl (cs 0, 8, .inl (fun _ => 0)))]) [13,1,14,15,16,17,18,2,3,4,5,6] rfl) (hD.sub (ws' := [(g_5 0, .inr (6, [.int 0, .ref (g_5 1), .ref (g_5 2), .ref (g_5 3), .ref (g_5 4), .ref (g_5 5)])), (g 6, .inr (6, [.int 0, .ref (g 16), .ref (g 17), .ref (g 18), .ref (g 19), .ref (g 20)])), (g_5 1, .inl (cs 0, 4, .inl (fun _ => 0))), (g_5 2, .inl (cs 0, 4, .inl (fun _ => 0))), (g_5 3, .inl (cs 0, 4, .inl (fun _ => 0))), (g_5 4, .inl (cs 0, 4, .inl (fun _ => 0))), (g_5 5, .inl (cs 0, 8, .inl (fun _ => 0))), (g 16, .inl (cs 0, 4, .inl (fun _ => 0))), (g 17, .inl (cs 0, 4, .inl (fun _ => 0))), (g 18, .inl (cs 0, 4, .inl (fun _ => 0))), (g 19, .inl (cs 0, 4, .inl (fun _ => 0))), (g 20, .inl (cs 0, 8, .inl (fun _ => 0)))]) [13,1,14,15,16,17,18,2,3,4,5,6] (by decide) rfl) hE hS hFc⟩ rfl rfl hl.1 rfl (lv_room (Nat.le_of_ble_eq_true rfl)) dX11_image_53 ⟨(Nat.le_of_ble_eq_true rfl), (Nat.le_of_ble_eq_true rfl)⟩) hS (fun q _ h => hFc q h) hFc (fun u t H1 locs ht hvm hw hB hz1 hk1 hS => ?_)
      obtain ⟨hP1, hD1⟩ := hB
      rw [ht] at hP1
      obtain ⟨hP, hD⟩ := va_join (wr := [(g 0, .inr (11, [.ref (g 1), .ref (g 2), .ref (g 3), .ref (g 4), .int 0, .ref (g 5), .ref (g 6), .ref (g 7), .ref (g 8), .int 0, .int 0, .ref (g 9), .ref (g 10), .ref (g 11), .ref (g 12), .ref (g 13), .int 0])), (g 9, .inr (9, [.int 0, .int 0, .int 0, .ref (g 21), .ref (g 22), .ref (g 23), .ref (g 24)])), (g 22, .inl (cs 0, 12, .inl (fun _ => 0))), (g 23, .inl (cs 0, 12, .inl (fun _ => 0))), (g 24, .inl (cs 2, 12, .inl (fun _ => 0))), (g 10, .inl (cs 6, 4, .inr (.inr (.inr (.inr f_6))))), (n_3, .inr (1, [.ref (g 5), .ref (g_5 0), .ref (g_5 6), .int 0])), (g_5 6, .inr (9, [.int 0, .int 0, .int 0, .ref (g_5 7), .ref (g_5 8), .ref (g_5 9), .ref (g_5 10)])), (g_5 8, .inl (cs 0, 12, .inl (fun _ => 0))), (g_5 9, .inl (cs 0, 12, .inl (fun _ => 0))), (g_5 10, .inl (cs 2, 12, .inl (fun _ => 0)))]) (w1 := [(g 6, .inr (6, [.int 0, .ref (g 16), .ref (g 17), .ref (g 18), .ref (g 19), .ref (g 20)]))]) hP hD [13, 1, 14, 15, 16, 17, 18, 2, 3, 4, 5, 6] [0, 7, 8, 9, 10, 11, 12, 19, 20, 21, 22] rfl rfl (by decide) (by decide) hk1 hFc hP1 hD1
      generalize H1 = H at hP hS ⊢
      have hP : va_P D classes [(g 0, .inr (11, [.ref (g 1), .ref (g 2), .ref (g 3), .ref (g 4), .int 0, .ref (g 5), .ref (g 6), .ref (g 7), .ref (g 8), .int 0, .int 0, .ref (g 9), .ref (g 10), .ref (g 11), .ref (g 12), .ref (g 13), .int 0])), (g 9, .inr (9, [.int 0, .int 0, .int 0, .ref (g 21), .ref (g 22), .ref (g 23), .ref (g 24)])), (g 22, .inl (cs 0, 12, .inl (fun _ => 0))), (g 23, .inl (cs 0, 12, .inl (fun _ => 0))), (g 24, .inl (cs 2, 12, .inl (fun _ => 0))), (g 10, .inl (cs 6, 4, .inr (.inr (.inr (.inr f_6))))), (n_3, .inr (1, [.ref (g 5), .ref (g_5 0), .ref (g_5 6), .int 0])), (g_5 6, .inr (9, [.int 0, .int 0, .int 0, .ref (g_5 7), .ref (g_5 8), .ref (g_5 9), .ref (g_5 10)])), (g_5 8, .inl (cs 0, 12, .inl (fun _ => 0))), (g_5 9, .inl (cs 0, 12, .inl (fun _ => 0))), (g_5 10, .inl (cs 2, 12, .inl (fun _ => 0))), (g 6, .inr (6, [.int 0, .ref (g 16), .ref (g 17), .ref (g 18), .ref (g 19), .ref (g 20)]))] H := hP
      have hD : va_D A [(g 0, .inr (11, [.ref (g 1), .ref (g 2), .ref (g 3), .ref (g 4), .int 0, .ref (g 5), .ref (g 6), .ref (g 7), .ref (g 8), .int 0, .int 0, .ref (g 9), .ref (g 10), .ref (g 11), .ref (g 12), .ref (g 13), .int 0])), (g 9, .inr (9, [.int 0, .int 0, .int 0, .ref (g 21), .ref (g 22), .ref (g 23), .ref (g 24)])), (g 22, .inl (cs 0, 12, .inl (fun _ => 0))), (g 23, .inl (cs 0, 12, .inl (fun _ => 0))), (g 24, .inl (cs 2, 12, .inl (fun _ => 0))), (g 10, .inl (cs 6, 4, .inr (.inr (.inr (.inr f_6))))), (n_3, .inr (1, [.ref (g 5), .ref (g_5 0), .ref (g_5 6), .int 0])), (g_5 6, .inr (9, [.int 0, .int 0, .int 0, .ref (g_5 7), .ref (g_5 8), .ref (g_5 9), .ref (g_5 10)])), (g_5 8, .inl (cs 0, 12, .inl (fun _ => 0))), (g_5 9, .inl (cs 0, 12, .inl (fun _ => 0))), (g_5 10, .inl (cs 2, 12, .inl (fun _ => 0))), (g 6, .inr (6, [.int 0, .ref (g 16), .ref (g 17), .ref (g 18), .ref (g 19), .ref (g 20)]))] := hD
      clear hk1 hFc hP1 hD1 hz1
      refine lv_aload_n hx hb dX11_image_56 rfl (lv_at hl 0 rfl) ?_
      refine va_get (D := D) (ci := 1) (v := .ref (g_5 6)) (C := RX1) (T := TX1) (N := 4) hx hb hT i_X1 hown hK hP 6 rfl rfl 2 (by decide) (hT _ q_241) (fun _ h9 => h9) rfl dX11_image_57 ?_
      refine lv_aload_n hx hb dX11_image_60 rfl (lv_at hl 1 rfl) ?_
      refine va_get (D := D) (ci := 11) (v := .ref (g 9)) (C := RX11) (T := TX11) (N := 17) hx hb hT i_X11 hown hK hP 0 rfl rfl 11 (by decide) (hT _ q_209) (fun _ h9 => h9) rfl dX11_image_61 ?_
      have hFc := va_free (wc := [(g_5 6, .inr (9, [.int 0, .int 0, .int 0, .ref (g_5 7), .ref (g_5 8), .ref (g_5 9), .ref (g_5 10)])), (g 9, .inr (9, [.int 0, .int 0, .int 0, .ref (g 21), .ref (g 22), .ref (g 23), .ref (g 24)])), (g_5 8, .inl (cs 0, 12, .inl (fun _ => 0))), (g_5 9, .inl (cs 0, 12, .inl (fun _ => 0))), (g_5 10, .inl (cs 2, 12, .inl (fun _ => 0))), (g 22, .inl (cs 0, 12, .inl (fun _ => 0))), (g 23, .inl (cs 0, 12, .inl (fun _ => 0))), (g 24, .inl (cs 2, 12, .inl (fun _ => 0)))]) hD hS hA [7,1,8,9,10,2,3,4] rfl
      refine va_callv (va_runV (As := [.ref (g 9)]) (rest := []) ⟨hx, hb, hml, hown, hT⟩ (c_X9_copyFrom l D cs kK kV (g_5 6) (g 9) ((fun i => g_5 (7 + i))) ((fun i => g (21 + i))) H.size) (cwV 1 hT (hz_gV q_242 q_243 q_244 q_59 q_245) rfl rfl rfl (by decide +kernel) ⟨(Nat.le_of_ble_eq_true rfl), (Nat.le_of_ble_eq_true rfl)⟩) ⟨hz_C.blind, va_recv hK hP (ci := 9) (q0 := 7) rfl rfl, hz_C.mk (hP.sub (ws' := [(g_5 6, .inr (9, [.int 0, .int 0, .int 0, .ref (g_5 7), .ref (g_5 8), .ref (g_5 9), .ref (g_5 10)])), (g 9, .inr (9, [.int 0, .int 0, .int 0, .ref (g 21), .ref (g 22), .ref (g 23), .ref (g 24)])), (g_5 8, .inl (cs 0, 12, .inl (fun _ => 0))), (g_5 9, .inl (cs 0, 12, .inl (fun _ => 0))), (g_5 10, .inl (cs 2, 12, .inl (fun _ => 0))), (g 22, .inl (cs 0, 12, .inl (fun _ => 0))), (g 23, .inl (cs 0, 12, .inl (fun _ => 0))), (g 24, .inl (cs 2, 12, .inl (fun _ => 0)))]) [7,1,8,9,10,2,3,4] rfl) (hD.sub (ws' := [(g_5 6, .inr (9, [.int 0, .int 0, .int 0, .ref (g_5 7), .ref (g_5 8), .ref (g_5 9), .ref (g_5 10)])), (g 9, .inr (9, [.int 0, .int 0, .int 0, .ref (g 21), .ref (g 22), .ref (g 23), .ref (g 24)])), (g_5 8, .inl (cs 0, 12, .inl (fun _ => 0))), (g_5 9, .inl (cs 0, 12, .inl (fun _ => 0))), (g_5 10, .inl (cs 2, 12, .inl (fun _ => 0))), (g 22, .inl (cs 0, 12, .inl (fun _ => 0))), (g 23, .inl (cs 0, 12, .inl (fun _ => 0))), (g 24, .inl (cs 2, 12, .inl (fun _ => 0)))]) [7,1,8,9,10,2,3,4] (by decide) rfl) hE hS hFc⟩ rfl rfl hl.1 rfl (lv_room (Nat.le_of_ble_eq_true rfl)) dX11_image_64 ⟨(Nat.le_of_ble_eq_true rfl), (Nat.le_of_ble_eq_true rfl)⟩) hS (fun q _ h => hFc q h) hFc (fun u t H1 locs ht hvm hw hB hz1 hk1 hS => ?_)
      obtain ⟨hP, hD⟩ := va_join (wr := [(g 0, .inr (11, [.ref (g 1), .ref (g 2), .ref (g 3), .ref (g 4), .int 0, .ref (g 5), .ref (g 6), .ref (g 7), .ref (g 8), .int 0, .int 0, .ref (g 9), .ref (g 10), .ref (g 11), .ref (g 12), .ref (g 13), .int 0])), (g 10, .inl (cs 6, 4, .inr (.inr (.inr (.inr f_6))))), (n_3, .inr (1, [.ref (g 5), .ref (g_5 0), .ref (g_5 6), .int 0])), (g 6, .inr (6, [.int 0, .ref (g 16), .ref (g 17), .ref (g 18), .ref (g 19), .ref (g 20)]))]) (w1 := []) hP hD [7, 1, 8, 9, 10, 2, 3, 4] [0, 5, 6, 11] rfl rfl (by decide) (by decide) hk1 hFc hz_P0 hz_D0
      generalize H1 = H at hP hS ⊢
      have hP : va_P D classes [(g 0, .inr (11, [.ref (g 1), .ref (g 2), .ref (g 3), .ref (g 4), .int 0, .ref (g 5), .ref (g 6), .ref (g 7), .ref (g 8), .int 0, .int 0, .ref (g 9), .ref (g 10), .ref (g 11), .ref (g 12), .ref (g 13), .int 0])), (g 10, .inl (cs 6, 4, .inr (.inr (.inr (.inr f_6))))), (n_3, .inr (1, [.ref (g 5), .ref (g_5 0), .ref (g_5 6), .int 0])), (g 6, .inr (6, [.int 0, .ref (g 16), .ref (g 17), .ref (g 18), .ref (g 19), .ref (g 20)]))] H := hP
      have hD : va_D A [(g 0, .inr (11, [.ref (g 1), .ref (g 2), .ref (g 3), .ref (g 4), .int 0, .ref (g 5), .ref (g 6), .ref (g 7), .ref (g 8), .int 0, .int 0, .ref (g 9), .ref (g 10), .ref (g 11), .ref (g 12), .ref (g 13), .int 0])), (g 10, .inl (cs 6, 4, .inr (.inr (.inr (.inr f_6))))), (n_3, .inr (1, [.ref (g 5), .ref (g_5 0), .ref (g_5 6), .int 0])), (g 6, .inr (6, [.int 0, .ref (g 16), .ref (g 17), .ref (g 18), .ref (g 19), .ref (g 20)]))] := hD
      clear hk1 hFc hz1
      refine lv_aload_n hx hb dX11_image_67 rfl (lv_at hl 0 rfl) ?_
      refine lv_aload_n hx hb dX11_image_68 rfl (lv_at hl 1 rfl) ?_
      refine va_get (D := D) (ci := 11) (v := .int 0) (C := RX11) (T := TX11) (N := 17) hx hb hT i_X11 hown hK hP 0 rfl rfl 16 (by decide) (hT _ q_211) (fun _ h9 => h9) rfl dX11_image_69 ?_
      refine va_put (D := D) (ci := 1) (v := .int 0) (ty := .int) (C := RX1) (T := TX1) (N := 4) hx hb hT i_X1 tyX1 tyX1_ok nmX1 hown hK hP hD hS 2 rfl rfl 3 (by decide) (hT _ q_246) (fun _ h9 => h9) rfl (by decide +kernel) rfl rfl (Nat.le_of_ble_eq_true rfl) dX11_image_72 (fun H locs hP hD hS => ?_)
      have hP : va_P D classes [(g 0, .inr (11, [.ref (g 1), .ref (g 2), .ref (g 3), .ref (g 4), .int 0, .ref (g 5), .ref (g 6), .ref (g 7), .ref (g 8), .int 0, .int 0, .ref (g 9), .ref (g 10), .ref (g 11), .ref (g 12), .ref (g 13), .int 0])), (g 10, .inl (cs 6, 4, .inr (.inr (.inr (.inr f_6))))), (n_3, .inr (1, [.ref (g 5), .ref (g_5 0), .ref (g_5 6), .int 0])), (g 6, .inr (6, [.int 0, .ref (g 16), .ref (g 17), .ref (g 18), .ref (g 19), .ref (g 20)]))] H := hP
      have hD : va_D A [(g 0, .inr (11, [.ref (g 1), .ref (g 2), .ref (g 3), .ref (g 4), .int 0, .ref (g 5), .ref (g 6), .ref (g 7), .ref (g 8), .int 0, .int 0, .ref (g 9), .ref (g 10), .ref (g 11), .ref (g 12), .ref (g 13), .int 0])), (g 10, .inl (cs 6, 4, .inr (.inr (.inr (.inr f_6))))), (n_3, .inr (1, [.ref (g 5), .ref (g_5 0), .ref (g_5 6), .int 0])), (g 6, .inr (6, [.int 0, .ref (g 16), .ref (g 17), .ref (g 18), .ref (g 19), .ref (g 20)]))] := hD
      refine lv_aload_n hx hb dX11_image_75 rfl (lv_at hl 1 rfl) ?_
      refine va_get (D := D) (ci := 11) (v := .ref (g 6)) (C := RX11) (T := TX11) (N := 17) hx hb hT i_X11 hown hK hP 0 rfl rfl 6 (by decide) (hT _ q_199) (fun _ h9 => h9) rfl dX11_image_76 ?_
      refine va_get (D := D) (ci := 6) (v := .int 0) (C := RX6) (T := TX6) (N := 6) hx hb hT i_X6 hown hK hP 3 rfl rfl 0 (by decide) (hT _ q_200) (fun _ h9 => h9) rfl dX11_image_79 ?_
      exact W.iret (v := 0) hx hb hr (fun t ht hW => ⟨⟨0, (), rfl, (hz_img3 c_1 c_2), trivial⟩, hS.F ht⟩) hS.2.2 dX11_image_82
    · refine lv_iconst (v := -1) hx hb dX11_image_9 (by decide) ?_
      refine W.widen (k := 12) (n := 89) (Nat.le_of_ble_eq_true rfl) (Nat.le_of_ble_eq_true rfl) ?_
      exact W.iret (v := -1) hx hb hr (fun t ht hW => ⟨⟨-1, (), rfl, (hz_img2 c_2), trivial⟩, hS.F ht⟩) hS.2.2 dX11_image_10
