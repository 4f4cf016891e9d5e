theorem dX5_readSum_0 : decode cX5_readSum 0 = .ok (.aload_n 0, 1) := by decide +kernel
theorem dX5_readSum_1 : decode cX5_readSum 1 = .ok (.invokevirtual 122, 3) := by decide +kernel
theorem dX5_readSum_4 : decode cX5_readSum 4 = .ok (.iconst (-1), 1) := by decide +kernel
theorem dX5_readSum_5 : decode cX5_readSum 5 = .ok (.istore_n 1, 1) := by decide +kernel
theorem dX5_readSum_6 : decode cX5_readSum 6 = .ok (.aload_n 0, 1) := by decide +kernel
theorem dX5_readSum_7 : decode cX5_readSum 7 = .ok (.invokevirtual 125, 3) := by decide +kernel
theorem dX5_readSum_10 : decode cX5_readSum 10 = .ok (.istore_n 2, 1) := by decide +kernel
theorem dX5_readSum_11 : decode cX5_readSum 11 = .ok (.iconst 0, 1) := by decide +kernel
theorem dX5_readSum_12 : decode cX5_readSum 12 = .ok (.istore_n 3, 1) := by decide +kernel
theorem dX5_readSum_13 : decode cX5_readSum 13 = .ok (.iload_n 3, 1) := by decide +kernel
theorem dX5_readSum_14 : decode cX5_readSum 14 = .ok (.sipush 400, 3) := by decide +kernel
theorem dX5_readSum_17 : decode cX5_readSum 17 = .ok (.if_icmp .ge 59, 3) := by decide +kernel
theorem dX5_readSum_20 : decode cX5_readSum 20 = .ok (.iload_n 2, 1) := by decide +kernel
theorem dX5_readSum_21 : decode cX5_readSum 21 = .ok (.iconst (-1), 1) := by decide +kernel
theorem dX5_readSum_22 : decode cX5_readSum 22 = .ok (.if_icmp .eq 54, 3) := by decide +kernel
theorem dX5_readSum_25 : decode cX5_readSum 25 = .ok (.iload_n 2, 1) := by decide +kernel
theorem dX5_readSum_26 : decode cX5_readSum 26 = .ok (.bipush (-20), 2) := by decide +kernel
theorem dX5_readSum_28 : decode cX5_readSum 28 = .ok (.if_icmp .eq 9, 3) := by decide +kernel
theorem dX5_readSum_31 : decode cX5_readSum 31 = .ok (.iload_n 2, 1) := by decide +kernel
theorem dX5_readSum_32 : decode cX5_readSum 32 = .ok (.bipush (-21), 2) := by decide +kernel
theorem dX5_readSum_34 : decode cX5_readSum 34 = .ok (.if_icmp .ne 22, 3) := by decide +kernel
theorem dX5_readSum_37 : decode cX5_readSum 37 = .ok (.iload_n 1, 1) := by decide +kernel
theorem dX5_readSum_38 : decode cX5_readSum 38 = .ok (.iconst (-1), 1) := by decide +kernel
theorem dX5_readSum_39 : decode cX5_readSum 39 = .ok (.if_icmp .eq 8, 3) := by decide +kernel
theorem dX5_readSum_42 : decode cX5_readSum 42 = .ok (.aload_n 0, 1) := by decide +kernel
theorem dX5_readSum_43 : decode cX5_readSum 43 = .ok (.iload_n 1, 1) := by decide +kernel
theorem dX5_readSum_44 : decode cX5_readSum 44 = .ok (.invokevirtual 99, 3) := by decide +kernel
theorem dX5_readSum_47 : decode cX5_readSum 47 = .ok (.iload_n 2, 1) := by decide +kernel
theorem dX5_readSum_48 : decode cX5_readSum 48 = .ok (.istore_n 1, 1) := by decide +kernel
theorem dX5_readSum_49 : decode cX5_readSum 49 = .ok (.aload_n 0, 1) := by decide +kernel
theorem dX5_readSum_50 : decode cX5_readSum 50 = .ok (.invokevirtual 122, 3) := by decide +kernel
theorem dX5_readSum_53 : decode cX5_readSum 53 = .ok (.goto 12, 3) := by decide +kernel
theorem dX5_readSum_56 : decode cX5_readSum 56 = .ok (.aload_n 0, 1) := by decide +kernel
theorem dX5_readSum_57 : decode cX5_readSum 57 = .ok (.invokevirtual 122, 3) := by decide +kernel
theorem dX5_readSum_60 : decode cX5_readSum 60 = .ok (.aload_n 0, 1) := by decide +kernel
theorem dX5_readSum_61 : decode cX5_readSum 61 = .ok (.iload_n 2, 1) := by decide +kernel
theorem dX5_readSum_62 : decode cX5_readSum 62 = .ok (.invokevirtual 99, 3) := by decide +kernel
theorem dX5_readSum_65 : decode cX5_readSum 65 = .ok (.aload_n 0, 1) := by decide +kernel
theorem dX5_readSum_66 : decode cX5_readSum 66 = .ok (.invokevirtual 125, 3) := by decide +kernel
theorem dX5_readSum_69 : decode cX5_readSum 69 = .ok (.istore_n 2, 1) := by decide +kernel
theorem dX5_readSum_70 : decode cX5_readSum 70 = .ok (.iinc 3 1, 3) := by decide +kernel
theorem dX5_readSum_73 : decode cX5_readSum 73 = .ok (.goto (-60), 3) := by decide +kernel
theorem dX5_readSum_76 : decode cX5_readSum 76 = .ok (.iload_n 1, 1) := by decide +kernel
theorem dX5_readSum_77 : decode cX5_readSum 77 = .ok (.iconst (-1), 1) := by decide +kernel
theorem dX5_readSum_78 : decode cX5_readSum 78 = .ok (.if_icmp .eq 8, 3) := by decide +kernel
theorem dX5_readSum_81 : decode cX5_readSum 81 = .ok (.aload_n 0, 1) := by decide +kernel
theorem dX5_readSum_82 : decode cX5_readSum 82 = .ok (.iload_n 1, 1) := by decide +kernel
theorem dX5_readSum_83 : decode cX5_readSum 83 = .ok (.invokevirtual 99, 3) := by decide +kernel
theorem dX5_readSum_86 : decode cX5_readSum 86 = .ok (.return_, 1) := by decide +kernel
set_option maxHeartbeats 4000000 in
set_option maxRecDepth 100000 in
theorem c_X5_readSum (l : Launch) (D : va_G) (cs : Nat → ClassId) (kK kV : Nat → Nat) (a : Nat) (a_tape : Nat) (a_code : Nat) (a__length : Int32) (a__parts : Int32) (a_tape_bytes : Nat) (a_tape__length : Int32) (a_tape__place : Int32) (a_tape__fault : Int32) (a_tape_bytes_c : Nat → Int32) (a_code_c : Nat → Int32) (h_a__length : IV 0 400 a__length) (h_a_tape__length : IV 0 400 a_tape__length) (h_a_tape__place : IV 0 400 a_tape__place) (h_a_tape__fault : IV 0 3205 a_tape__fault) (h_a_tape_bytes_c : CI 400 0 255 a_tape_bytes_c) (sz : Nat) : Met l yX5_readSum (hz_w yX5_readSum cX5_readSum 4 none) ({ frames := 6, cells := 0, slots := 0, locals := 133 }) (va_Pc [.ref a] (hz_C D cs kK kV sz [(a, .inr (5, [.ref a_tape, .ref a_code, .int a__length, .int a__parts])), (a_tape, .inr (7, [.ref a_tape_bytes, .int a_tape__length, .int a_tape__place, .int a_tape__fault])), (a_tape_bytes, .inl (cs 0, 400, .inl a_tape_bytes_c)), (a_code, .inl (cs 0, 400, .inl a_code_c))])) (va_Qv (fun (u : (Nat → Int32) × (Nat → Nat → Int32)) => (IV 0 3205 (u.1 0) ∧ IV 0 400 (u.1 1) ∧ IV 0 400 (u.1 3))) (fun u t => va_P D classes [(a, .inr (5, [.ref a_tape, .ref a_code, .int (u.1 1), .int (u.1 2)])), (a_tape, .inr (7, [.ref a_tape_bytes, .int a_tape__length, .int (u.1 3), .int (u.1 0)])), (a_tape_bytes, .inl (cs 0, 400, .inl a_tape_bytes_c)), (a_code, .inl (cs 0, 400, .inl (u.2 0)))] t.heap ∧ va_D (va_A [(a, .inr (5, [.ref a_tape, .ref a_code, .int a__length, .int a__parts])), (a_tape, .inr (7, [.ref a_tape_bytes, .int a_tape__length, .int a_tape__place, .int a_tape__fault])), (a_tape_bytes, .inl (cs 0, 400, .inl a_tape_bytes_c)), (a_code, .inl (cs 0, 400, .inl a_code_c))] sz) [(a, .inr (5, [.ref a_tape, .ref a_code, .int (u.1 1), .int (u.1 2)])), (a_tape, .inr (7, [.ref a_tape_bytes, .int a_tape__length, .int (u.1 3), .int (u.1 0)])), (a_tape_bytes, .inl (cs 0, 400, .inl a_tape_bytes_c)), (a_code, .inl (cs 0, 400, .inl (u.2 0)))]) (va_A [(a, .inr (5, [.ref a_tape, .ref a_code, .int a__length, .int a__parts])), (a_tape, .inr (7, [.ref a_tape_bytes, .int a_tape__length, .int a_tape__place, .int a_tape__fault])), (a_tape_bytes, .inl (cs 0, 400, .inl a_tape_bytes_c)), (a_code, .inl (cs 0, 400, .inl a_code_c))] sz)) 0 0 (va_A [(a, .inr (5, [.ref a_tape, .ref a_code, .int a__length, .int a__parts])), (a_tape, .inr (7, [.ref a_tape_bytes, .int a_tape__length, .int a_tape__place, .int a_tape__fault])), (a_tape_bytes, .inl (cs 0, 400, .inl a_tape_bytes_c)), (a_code, .inl (cs 0, 400, .inl a_code_c))] sz) := by
  refine Met.ofW (cc := cX5_readSum) (maxL := 4) (ret := none) (by decide) rfl ?_
  intro p e s m args below meth c s₁ B hml hv
  obtain ⟨rfl, hsz, hP, hD0, hE⟩ := hv
  have hx := B.exec
  have hb := B.bytes
  have hr := B.returns
  have hT : ∀ w ∈ TB, w.before _ s = true := fun w h => atoms_spec (ws := hz_w yX5_readSum cX5_readSum 4 none) B.pre w (List.mem_cons_of_mem _ h)
  have hown : s.vm.findClass RX5 = some m.cls := findClass_of_methodNamed B.named
  have hlocks := B.notSynchronized
  clear B
  subst hsz
  have hD := hD0.self (sz := s.heap.size)
  generalize hAe : va_A [(a, .inr (5, [.ref a_tape, .ref a_code, .int a__length, .int a__parts])), (a_tape, .inr (7, [.ref a_tape_bytes, .int a_tape__length, .int a_tape__place, .int a_tape__fault])), (a_tape_bytes, .inl (cs 0, 400, .inl a_tape_bytes_c)), (a_code, .inl (cs 0, 400, .inl a_code_c))] s.heap.size = A at hD hE ⊢
  have hA : ∀ q : Nat, s.heap.size ≤ q → A q := fun q h => by rw [← hAe]; exact Or.inr h
  clear hAe hD0
  have hS : va_S A s.heap s.heap [] := va_S.rf
  have hK := hE.1
  have hl := lv_entry ([.ref a]) (n := 4) (Nat.le_of_ble_eq_true rfl)
  rw [lg_entry_eq]
  generalize (lg_sl ([.ref a]) ++ List.replicate (4 - (lg_sl ([.ref a])).length) Slot.unset).toArray = ls at hl ⊢
  have hl : lv_has ls 4 [(0, .ref a)] := hl
  obtain ⟨H, eH⟩ : ∃ z, z = s.heap := ⟨_, rfl⟩
  have hP : va_P D classes [(a, .inr (5, [.ref a_tape, .ref a_code, .int a__length, .int a__parts])), (a_tape, .inr (7, [.ref a_tape_bytes, .int a_tape__length, .int a_tape__place, .int a_tape__fault])), (a_tape_bytes, .inl (cs 0, 400, .inl a_tape_bytes_c)), (a_code, .inl (cs 0, 400, .inl a_code_c))] H := by rw [eH]; exact hP
  have hS : va_S A s.heap H [] := by rw [eH]; exact hS
  rw [← eH]
  clear eH
  obtain ⟨locs, el⟩ : ∃ z : List Loc, z = [] := ⟨_, rfl⟩
  rw [← el] at hS ⊢
  clear el
  have K76 : ∀ (k76_L_3 : Int32) (k76_L_2 : Int32) (k76_L_1 : Int32) (k76_C_a_code : Nat → Int32) (k76_F_a_2 : Int32) (k76_F_a_3 : Int32) (k76_F_a_tape_2 : Int32) (k76_F_a_tape_3 : Int32), IV 0 400 k76_F_a_2 → IV 0 400 k76_F_a_tape_2 → IV 0 3205 k76_F_a_tape_3 → IV (-21) (-1) k76_L_1 → IV (-2147483648) (-1) k76_L_2 → IV 0 400 k76_L_3 → ∀ (H : Heap) (locs : List Loc), va_P D classes [(a_code, .inl (cs 0, 400, .inl k76_C_a_code)), (a, .inr (5, [.ref a_tape, .ref a_code, .int k76_F_a_2, .int k76_F_a_3])), (a_tape, .inr (7, [.ref a_tape_bytes, .int a_tape__length, .int k76_F_a_tape_2, .int k76_F_a_tape_3])), (a_tape_bytes, .inl (cs 0, 400, .inl a_tape_bytes_c))] H → va_D A [(a_code, .inl (cs 0, 400, .inl k76_C_a_code)), (a, .inr (5, [.ref a_tape, .ref a_code, .int k76_F_a_2, .int k76_F_a_3])), (a_tape, .inr (7, [.ref a_tape_bytes, .int a_tape__length, .int k76_F_a_tape_2, .int k76_F_a_tape_3])), (a_tape_bytes, .inl (cs 0, 400, .inl a_tape_bytes_c))] → va_S A s.heap H locs → ∀ ls : Array Slot, lv_has ls 4 [(3, .int k76_L_3), (2, .int k76_L_2), (1, .int k76_L_1), (0, .ref a)] → W p l e (headSpec (hz_w yX5_readSum cX5_readSum 4 none) ({ frames := 6, cells := 0, slots := 0, locals := 133 })).room s m [.ref a].toArray below meth c H locs 0 0 (MQ below (va_Qv (fun (u : (Nat → Int32) × (Nat → Nat → Int32)) => (IV 0 3205 (u.1 0) ∧ IV 0 400 (u.1 1) ∧ IV 0 400 (u.1 3))) (fun u t => va_P D classes [(a, .inr (5, [.ref a_tape, .ref a_code, .int (u.1 1), .int (u.1 2)])), (a_tape, .inr (7, [.ref a_tape_bytes, .int a_tape__length, .int (u.1 3), .int (u.1 0)])), (a_tape_bytes, .inl (cs 0, 400, .inl a_tape_bytes_c)), (a_code, .inl (cs 0, 400, .inl (u.2 0)))] t.heap ∧ va_D A [(a, .inr (5, [.ref a_tape, .ref a_code, .int (u.1 1), .int (u.1 2)])), (a_tape, .inr (7, [.ref a_tape_bytes, .int a_tape__length, .int (u.1 3), .int (u.1 0)])), (a_tape_bytes, .inl (cs 0, 400, .inl a_tape_bytes_c)), (a_code, .inl (cs 0, 400, .inl (u.2 0)))]) A) [.ref a].toArray s 0 0 A) (F0 m 76 ls []) := by
    intro k76_L_3 k76_L_2 k76_L_1 k76_C_a_code k76_F_a_2 k76_F_a_3 k76_F_a_tape_2 k76_F_a_tape_3 q76_1 q76_2 q76_3 q76_4 q76_5 q76_6 H locs hP hD hS ls hl
    refine lv_iload_n hx hb dX5_readSum_76 rfl (lv_at hl 2 rfl) ?_
    refine lv_iconst (v := (-1)) hx hb dX5_readSum_77 (by decide) ?_
    refine lv_icmp_eq (tgt := 86) hx hb dX5_readSum_78 (by decide) (fun c1 => ?_) (fun c1 => ?_)
    · have h2 : IV (-1) (-1) k76_L_1 := iv_eq1 c1 q76_4 (iv_c (a := (-1)) (b := (-1)) (by decide)) (by decide) (by decide)
      refine W.widen (k := 0) (n := 0) (Nat.le_of_ble_eq_true rfl) (Nat.le_of_ble_eq_true rfl) ?_
      exact W.vret hx hb hr (fun t ht hW => ⟨⟨(fun k => match k with | 0 => k76_F_a_tape_3 | 1 => k76_F_a_2 | 2 => k76_F_a_3 | 3 => k76_F_a_tape_2 | _ => 0, fun k => match k with | 0 => k76_C_a_code | _ => fun _ => 0), rfl, (⟨q76_3, q76_1, q76_2⟩), by rw [ht]; exact hP.sub [1, 2, 3, 0] rfl, hD.sub [1, 2, 3, 0] (by decide) rfl⟩, hS.F ht⟩) hS.2.2 dX5_readSum_86
    · have h3 : IV (-21) (-2) k76_L_1 := iv_neR c1 q76_4 (by decide)
      refine lv_aload_n hx hb dX5_readSum_81 rfl (lv_at hl 3 rfl) ?_
      refine lv_iload_n hx hb dX5_readSum_82 rfl (lv_at hl 2 rfl) ?_
      have hFc := va_free (wc := [(a, .inr (5, [.ref a_tape, .ref a_code, .int k76_F_a_2, .int k76_F_a_3])), (a_code, .inl (cs 0, 400, .inl k76_C_a_code))]) hD hS hA [1,0] rfl
      refine va_callv (va_runV (As := [.int k76_L_1]) (rest := []) ⟨hx, hb, hml, hown, hT⟩ (c_X5_emit l D cs kK kV a k76_L_1 a_tape a_code k76_F_a_2 k76_F_a_3 k76_C_a_code q76_1 H.size) (cwV 1 hT (hz_gV q_581 q_582 q_583 q_246 q_584) rfl rfl rfl (by decide +kernel) ⟨(Nat.le_of_ble_eq_true rfl), (Nat.le_of_ble_eq_true rfl)⟩) ⟨hz_C.blind, va_recv hK hP (ci := 5) (q0 := 1) rfl rfl, hz_C.mk (hP.sub (ws' := [(a, .inr (5, [.ref a_tape, .ref a_code, .int k76_F_a_2, .int k76_F_a_3])), (a_code, .inl (cs 0, 400, .inl k76_C_a_code))]) [1,0] rfl) (hD.sub (ws' := [(a, .inr (5, [.ref a_tape, .ref a_code, .int k76_F_a_2, .int k76_F_a_3])), (a_code, .inl (cs 0, 400, .inl k76_C_a_code))]) [1,0] (by decide) rfl) hE hS hFc⟩ rfl rfl hl.1 rfl (lv_room (Nat.le_of_ble_eq_true rfl)) dX5_readSum_83 ⟨(Nat.le_of_ble_eq_true rfl), (Nat.le_of_ble_eq_true rfl)⟩) hS (fun q _ h => hFc q h) hFc (fun u t H1 locs ht hvm hw hB hz1 hk1 hS => ?_)
      obtain ⟨o5, o6, h7, hP1, hD1⟩ := hB
      rw [ht] at hP1
      obtain ⟨hP, hD⟩ := va_join (wr := [(a_tape, .inr (7, [.ref a_tape_bytes, .int a_tape__length, .int k76_F_a_tape_2, .int k76_F_a_tape_3])), (a_tape_bytes, .inl (cs 0, 400, .inl a_tape_bytes_c))]) (w1 := [(a, .inr (5, [.ref a_tape, .ref a_code, .int o5, .int k76_F_a_3])), (a_code, .inl (cs 0, 400, .inl o6))]) hP hD [1, 0] [2, 3] rfl rfl (by decide) (by decide) hk1 hFc hP1 hD1
      generalize H1 = H at hP hS ⊢
      have hP : va_P D classes [(a_tape, .inr (7, [.ref a_tape_bytes, .int a_tape__length, .int k76_F_a_tape_2, .int k76_F_a_tape_3])), (a_tape_bytes, .inl (cs 0, 400, .inl a_tape_bytes_c)), (a, .inr (5, [.ref a_tape, .ref a_code, .int o5, .int k76_F_a_3])), (a_code, .inl (cs 0, 400, .inl o6))] H := hP
      have hD : va_D A [(a_tape, .inr (7, [.ref a_tape_bytes, .int a_tape__length, .int k76_F_a_tape_2, .int k76_F_a_tape_3])), (a_tape_bytes, .inl (cs 0, 400, .inl a_tape_bytes_c)), (a, .inr (5, [.ref a_tape, .ref a_code, .int o5, .int k76_F_a_3])), (a_code, .inl (cs 0, 400, .inl o6))] := hD
      clear hk1 hFc hP1 hD1 hz1
      refine W.widen (k := 0) (n := 0) (Nat.le_of_ble_eq_true rfl) (Nat.le_of_ble_eq_true rfl) ?_
      exact W.vret hx hb hr (fun t ht hW => ⟨⟨(fun k => match k with | 0 => k76_F_a_tape_3 | 1 => o5 | 2 => k76_F_a_3 | 3 => k76_F_a_tape_2 | _ => 0, fun k => match k with | 0 => o6 | _ => fun _ => 0), rfl, (⟨q76_3, (iv_w h7 (by decide) (by decide)), q76_2⟩), by rw [ht]; exact hP.sub [2, 0, 1, 3] rfl, hD.sub [2, 0, 1, 3] (by decide) rfl⟩, hS.F ht⟩) hS.2.2 dX5_readSum_86
  have K13 : ∀ (n : Nat) (k13_L_3 : Int32) (k13_L_2 : Int32) (k13_L_1 : Int32) (k13_C_a_code : Nat → Int32) (k13_F_a_2 : Int32) (k13_F_a_3 : Int32) (k13_F_a_tape_2 : Int32) (k13_F_a_tape_3 : Int32), (400 - k13_L_3.toInt + 1).toNat ≤ n → IV 0 400 k13_F_a_2 → IV 0 400 k13_F_a_tape_2 → IV 0 3205 k13_F_a_tape_3 → IV (-21) (-1) k13_L_1 → IV (-24) (-1) k13_L_2 → IV 0 400 k13_L_3 → ∀ (H : Heap) (locs : List Loc), va_P D classes [(a_code, .inl (cs 0, 400, .inl k13_C_a_code)), (a, .inr (5, [.ref a_tape, .ref a_code, .int k13_F_a_2, .int k13_F_a_3])), (a_tape, .inr (7, [.ref a_tape_bytes, .int a_tape__length, .int k13_F_a_tape_2, .int k13_F_a_tape_3])), (a_tape_bytes, .inl (cs 0, 400, .inl a_tape_bytes_c))] H → va_D A [(a_code, .inl (cs 0, 400, .inl k13_C_a_code)), (a, .inr (5, [.ref a_tape, .ref a_code, .int k13_F_a_2, .int k13_F_a_3])), (a_tape, .inr (7, [.ref a_tape_bytes, .int a_tape__length, .int k13_F_a_tape_2, .int k13_F_a_tape_3])), (a_tape_bytes, .inl (cs 0, 400, .inl a_tape_bytes_c))] → va_S A s.heap H locs → ∀ ls : Array Slot, lv_has ls 4 [(3, .int k13_L_3), (2, .int k13_L_2), (1, .int k13_L_1), (0, .ref a)] → W p l e (headSpec (hz_w yX5_readSum cX5_readSum 4 none) ({ frames := 6, cells := 0, slots := 0, locals := 133 })).room s m [.ref a].toArray below meth c H locs 0 0 (MQ below (va_Qv (fun (u : (Nat → Int32) × (Nat → Nat → Int32)) => (IV 0 3205 (u.1 0) ∧ IV 0 400 (u.1 1) ∧ IV 0 400 (u.1 3))) (fun u t => va_P D classes [(a, .inr (5, [.ref a_tape, .ref a_code, .int (u.1 1), .int (u.1 2)])), (a_tape, .inr (7, [.ref a_tape_bytes, .int a_tape__length, .int (u.1 3), .int (u.1 0)])), (a_tape_bytes, .inl (cs 0, 400, .inl a_tape_bytes_c)), (a_code, .inl (cs 0, 400, .inl (u.2 0)))] t.heap ∧ va_D A [(a, .inr (5, [.ref a_tape, .ref a_code, .int (u.1 1), .int (u.1 2)])), (a_tape, .inr (7, [.ref a_tape_bytes, .int a_tape__length, .int (u.1 3), .int (u.1 0)])), (a_tape_bytes, .inl (cs 0, 400, .inl a_tape_bytes_c)), (a_code, .inl (cs 0, 400, .inl (u.2 0)))]) A) [.ref a].toArray s 0 0 A) (F0 m 13 ls []) := by
    intro n
    induction n with
    | zero =>
      intro k13_L_3 k13_L_2 k13_L_1 k13_C_a_code k13_F_a_2 k13_F_a_3 k13_F_a_tape_2 k13_F_a_tape_3 hn q13_1 q13_2 q13_3 q13_4 q13_5 q13_6 H locs hP hD hS ls hl
      exact absurd hn (by unfold IV at q13_6; omega)
    | succ n ih13 =>
      intro k13_L_3 k13_L_2 k13_L_1 k13_C_a_code k13_F_a_2 k13_F_a_3 k13_F_a_tape_2 k13_F_a_tape_3 hn q13_1 q13_2 q13_3 q13_4 q13_5 q13_6 H locs hP hD hS ls hl
      have K65 : ∀ (k65_L_1 : Int32) (k65_F_a_tape_2 : Int32) (k65_F_a_tape_3 : Int32) (k65_F_a_2 : Int32) (k65_F_a_3 : Int32) (k65_C_a_code : Nat → Int32), IV (-24) (-2) k13_L_2 → IV 0 399 k13_L_3 → IV 0 400 k65_F_a_2 → IV 0 400 k65_F_a_tape_2 → IV 0 3205 k65_F_a_tape_3 → IV (-21) (-1) k65_L_1 → ∀ (H : Heap) (locs : List Loc), va_P D classes [(a_tape, .inr (7, [.ref a_tape_bytes, .int a_tape__length, .int k65_F_a_tape_2, .int k65_F_a_tape_3])), (a_tape_bytes, .inl (cs 0, 400, .inl a_tape_bytes_c)), (a, .inr (5, [.ref a_tape, .ref a_code, .int k65_F_a_2, .int k65_F_a_3])), (a_code, .inl (cs 0, 400, .inl k65_C_a_code))] H → va_D A [(a_tape, .inr (7, [.ref a_tape_bytes, .int a_tape__length, .int k65_F_a_tape_2, .int k65_F_a_tape_3])), (a_tape_bytes, .inl (cs 0, 400, .inl a_tape_bytes_c)), (a, .inr (5, [.ref a_tape, .ref a_code, .int k65_F_a_2, .int k65_F_a_3])), (a_code, .inl (cs 0, 400, .inl k65_C_a_code))] → va_S A s.heap H locs → ∀ ls : Array Slot, lv_has ls 4 [(3, .int k13_L_3), (2, .int k13_L_2), (1, .int k65_L_1), (0, .ref a)] → W p l e (headSpec (hz_w yX5_readSum cX5_readSum 4 none) ({ frames := 6, cells := 0, slots := 0, locals := 133 })).room s m [.ref a].toArray below meth c H locs 0 0 (MQ below (va_Qv (fun (u : (Nat → Int32) × (Nat → Nat → Int32)) => (IV 0 3205 (u.1 0) ∧ IV 0 400 (u.1 1) ∧ IV 0 400 (u.1 3))) (fun u t => va_P D classes [(a, .inr (5, [.ref a_tape, .ref a_code, .int (u.1 1), .int (u.1 2)])), (a_tape, .inr (7, [.ref a_tape_bytes, .int a_tape__length, .int (u.1 3), .int (u.1 0)])), (a_tape_bytes, .inl (cs 0, 400, .inl a_tape_bytes_c)), (a_code, .inl (cs 0, 400, .inl (u.2 0)))] t.heap ∧ va_D A [(a, .inr (5, [.ref a_tape, .ref a_code, .int (u.1 1), .int (u.1 2)])), (a_tape, .inr (7, [.ref a_tape_bytes, .int a_tape__length, .int (u.1 3), .int (u.1 0)])), (a_tape_bytes, .inl (cs 0, 400, .inl a_tape_bytes_c)), (a_code, .inl (cs 0, 400, .inl (u.2 0)))]) A) [.ref a].toArray s 0 0 A) (F0 m 65 ls []) := by
        intro k65_L_1 k65_F_a_tape_2 k65_F_a_tape_3 k65_F_a_2 k65_F_a_3 k65_C_a_code q65_1 q65_2 q65_3 q65_4 q65_5 q65_6 H locs hP hD hS ls hl
        refine lv_aload_n hx hb dX5_readSum_65 rfl (lv_at hl 3 rfl) ?_
        have hFc := va_free (wc := [(a, .inr (5, [.ref a_tape, .ref a_code, .int k65_F_a_2, .int k65_F_a_3])), (a_tape, .inr (7, [.ref a_tape_bytes, .int a_tape__length, .int k65_F_a_tape_2, .int k65_F_a_tape_3])), (a_tape_bytes, .inl (cs 0, 400, .inl a_tape_bytes_c))]) hD hS hA [2,0,1] rfl
        refine va_calli (va_runV (As := []) (rest := []) ⟨hx, hb, hml, hown, hT⟩ (c_X5_takeOperation l D cs kK kV a a_tape a_code k65_F_a_2 k65_F_a_3 a_tape_bytes a_tape__length k65_F_a_tape_2 k65_F_a_tape_3 a_tape_bytes_c h_a_tape__length q65_4 q65_5 h_a_tape_bytes_c H.size) (cwV 0 hT (hz_gV q_609 q_610 q_611 q_246 q_612) rfl rfl rfl (by decide +kernel) ⟨(Nat.le_of_ble_eq_true rfl), (Nat.le_of_ble_eq_true rfl)⟩) ⟨hz_C.blind, va_recv hK hP (ci := 5) (q0 := 2) rfl rfl, hz_C.mk (hP.sub (ws' := [(a, .inr (5, [.ref a_tape, .ref a_code, .int k65_F_a_2, .int k65_F_a_3])), (a_tape, .inr (7, [.ref a_tape_bytes, .int a_tape__length, .int k65_F_a_tape_2, .int k65_F_a_tape_3])), (a_tape_bytes, .inl (cs 0, 400, .inl a_tape_bytes_c))]) [2,0,1] rfl) (hD.sub (ws' := [(a, .inr (5, [.ref a_tape, .ref a_code, .int k65_F_a_2, .int k65_F_a_3])), (a_tape, .inr (7, [.ref a_tape_bytes, .int a_tape__length, .int k65_F_a_tape_2, .int k65_F_a_tape_3])), (a_tape_bytes, .inl (cs 0, 400, .inl a_tape_bytes_c))]) [2,0,1] (by decide) rfl) hE hS hFc⟩ rfl rfl hl.1 rfl (lv_room (Nat.le_of_ble_eq_true rfl)) dX5_readSum_66 ⟨(Nat.le_of_ble_eq_true rfl), (Nat.le_of_ble_eq_true rfl)⟩) hS (fun q _ h => hFc q h) hFc (fun r8 u t H1 locs ht hvm hw hB hz1 hk1 hS => ?_)
        obtain ⟨o9, h10, hP1, hD1⟩ := hB
        rw [ht] at hP1
        obtain ⟨hP, hD⟩ := va_join (wr := [(a_code, .inl (cs 0, 400, .inl k65_C_a_code))]) (w1 := [(a, .inr (5, [.ref a_tape, .ref a_code, .int k65_F_a_2, .int k65_F_a_3])), (a_tape, .inr (7, [.ref a_tape_bytes, .int a_tape__length, .int o9, .int k65_F_a_tape_3])), (a_tape_bytes, .inl (cs 0, 400, .inl a_tape_bytes_c))]) hP hD [2, 0, 1] [3] rfl rfl (by decide) (by decide) hk1 hFc hP1 hD1
        generalize H1 = H at hP hS ⊢
        have hP : va_P D classes [(a_code, .inl (cs 0, 400, .inl k65_C_a_code)), (a, .inr (5, [.ref a_tape, .ref a_code, .int k65_F_a_2, .int k65_F_a_3])), (a_tape, .inr (7, [.ref a_tape_bytes, .int a_tape__length, .int o9, .int k65_F_a_tape_3])), (a_tape_bytes, .inl (cs 0, 400, .inl a_tape_bytes_c))] H := hP
        have hD : va_D A [(a_code, .inl (cs 0, 400, .inl k65_C_a_code)), (a, .inr (5, [.ref a_tape, .ref a_code, .int k65_F_a_2, .int k65_F_a_3])), (a_tape, .inr (7, [.ref a_tape_bytes, .int a_tape__length, .int o9, .int k65_F_a_tape_3])), (a_tape_bytes, .inl (cs 0, 400, .inl a_tape_bytes_c))] := hD
        clear hk1 hFc hP1 hD1 hz1
        have hw_r8 := hw
        refine lv_istore_n (lv' := [(2, .int r8), (3, .int k13_L_3), (1, .int k65_L_1), (0, .ref a)]) hx hb dX5_readSum_69 rfl hl (by decide) rfl (fun ls hl => ?_)
        obtain ⟨v11, ev11⟩ : ∃ z : Int32, z = k13_L_3 + 1 := ⟨_, rfl⟩
        have hv11 : IV 1 400 v11 := iv_add ev11 q65_2 (iv_c (a := 1) (b := 1) (by decide)) (by decide) (by decide)
        have dv11 : v11.toInt = k13_L_3.toInt + 1 := iv_addE ev11 q65_2 (iv_c (a := 1) (b := 1) (by decide)) (by decide) (by decide) (by decide)
        refine lv_iinc (v := v11) (lv' := [(3, .int v11), (2, .int r8), (1, .int k65_L_1), (0, .ref a)]) hx hb dX5_readSum_70 hl (k := 1) rfl (by rw [ev11]; rfl) (by decide) rfl (fun ls hl => ?_)
        refine lv_goto (tgt := 13) hx hb dX5_readSum_73 (by decide) ?_
        exact ih13 v11 r8 k65_L_1 k65_C_a_code k65_F_a_2 k65_F_a_3 o9 k65_F_a_tape_3 (by have h9 := q65_2; unfold IV at h9; have := dv11; omega) q65_3 h10 q65_5 q65_6 hw_r8 (iv_w hv11 (by decide) (by decide)) H locs (hP.sub (ws' := [(a_code, .inl (cs 0, 400, .inl k65_C_a_code)), (a, .inr (5, [.ref a_tape, .ref a_code, .int k65_F_a_2, .int k65_F_a_3])), (a_tape, .inr (7, [.ref a_tape_bytes, .int a_tape__length, .int o9, .int k65_F_a_tape_3])), (a_tape_bytes, .inl (cs 0, 400, .inl a_tape_bytes_c))]) [0, 1, 2, 3] rfl) (hD.sub (ws' := [(a_code, .inl (cs 0, 400, .inl k65_C_a_code)), (a, .inr (5, [.ref a_tape, .ref a_code, .int k65_F_a_2, .int k65_F_a_3])), (a_tape, .inr (7, [.ref a_tape_bytes, .int a_tape__length, .int o9, .int k65_F_a_tape_3])), (a_tape_bytes, .inl (cs 0, 400, .inl a_tape_bytes_c))]) [0, 1, 2, 3] (by decide) rfl) hS ls (lv_sub hl [0, 1, 2, 3] rfl)
      have K47 : ∀ (k47_C_a_code : Nat → Int32) (k47_F_a_2 : Int32), IV 0 400 k13_F_a_tape_2 → IV 0 3205 k13_F_a_tape_3 → IV (-21) (-1) k13_L_1 → IV (-21) (-20) k13_L_2 → IV 0 399 k13_L_3 → IV 0 400 k47_F_a_2 → ∀ (H : Heap) (locs : List Loc), va_P D classes [(a_code, .inl (cs 0, 400, .inl k47_C_a_code)), (a, .inr (5, [.ref a_tape, .ref a_code, .int k47_F_a_2, .int k13_F_a_3])), (a_tape, .inr (7, [.ref a_tape_bytes, .int a_tape__length, .int k13_F_a_tape_2, .int k13_F_a_tape_3])), (a_tape_bytes, .inl (cs 0, 400, .inl a_tape_bytes_c))] H → va_D A [(a_code, .inl (cs 0, 400, .inl k47_C_a_code)), (a, .inr (5, [.ref a_tape, .ref a_code, .int k47_F_a_2, .int k13_F_a_3])), (a_tape, .inr (7, [.ref a_tape_bytes, .int a_tape__length, .int k13_F_a_tape_2, .int k13_F_a_tape_3])), (a_tape_bytes, .inl (cs 0, 400, .inl a_tape_bytes_c))] → va_S A s.heap H locs → ∀ ls : Array Slot, lv_has ls 4 [(3, .int k13_L_3), (2, .int k13_L_2), (1, .int k13_L_1), (0, .ref a)] → W p l e (headSpec (hz_w yX5_readSum cX5_readSum 4 none) ({ frames := 6, cells := 0, slots := 0, locals := 133 })).room s m [.ref a].toArray below meth c H locs 0 0 (MQ below (va_Qv (fun (u : (Nat → Int32) × (Nat → Nat → Int32)) => (IV 0 3205 (u.1 0) ∧ IV 0 400 (u.1 1) ∧ IV 0 400 (u.1 3))) (fun u t => va_P D classes [(a, .inr (5, [.ref a_tape, .ref a_code, .int (u.1 1), .int (u.1 2)])), (a_tape, .inr (7, [.ref a_tape_bytes, .int a_tape__length, .int (u.1 3), .int (u.1 0)])), (a_tape_bytes, .inl (cs 0, 400, .inl a_tape_bytes_c)), (a_code, .inl (cs 0, 400, .inl (u.2 0)))] t.heap ∧ va_D A [(a, .inr (5, [.ref a_tape, .ref a_code, .int (u.1 1), .int (u.1 2)])), (a_tape, .inr (7, [.ref a_tape_bytes, .int a_tape__length, .int (u.1 3), .int (u.1 0)])), (a_tape_bytes, .inl (cs 0, 400, .inl a_tape_bytes_c)), (a_code, .inl (cs 0, 400, .inl (u.2 0)))]) A) [.ref a].toArray s 0 0 A) (F0 m 47 ls []) := by
        intro k47_C_a_code k47_F_a_2 q47_1 q47_2 q47_3 q47_4 q47_5 q47_6 H locs hP hD hS ls hl
        refine lv_iload_n hx hb dX5_readSum_47 rfl (lv_at hl 1 rfl) ?_
        refine lv_istore_n (lv' := [(1, .int k13_L_2), (3, .int k13_L_3), (2, .int k13_L_2), (0, .ref a)]) hx hb dX5_readSum_48 rfl hl (by decide) rfl (fun ls hl => ?_)
        refine lv_aload_n hx hb dX5_readSum_49 rfl (lv_at hl 3 rfl) ?_
        have hFc := va_free (wc := [(a, .inr (5, [.ref a_tape, .ref a_code, .int k47_F_a_2, .int k13_F_a_3])), (a_tape, .inr (7, [.ref a_tape_bytes, .int a_tape__length, .int k13_F_a_tape_2, .int k13_F_a_tape_3])), (a_tape_bytes, .inl (cs 0, 400, .inl a_tape_bytes_c)), (a_code, .inl (cs 0, 400, .inl k47_C_a_code))]) hD hS hA [1,2,3,0] rfl
        refine va_callv (va_runV (As := []) (rest := []) ⟨hx, hb, hml, hown, hT⟩ (c_X5_readValue l D cs kK kV a a_tape a_code k47_F_a_2 k13_F_a_3 a_tape_bytes a_tape__length k13_F_a_tape_2 k13_F_a_tape_3 a_tape_bytes_c k47_C_a_code q47_6 h_a_tape__length q47_1 q47_2 h_a_tape_bytes_c H.size) (cwV 0 hT (hz_gV q_605 q_606 q_607 q_246 q_608) rfl rfl rfl (by decide +kernel) ⟨(Nat.le_of_ble_eq_true rfl), (Nat.le_of_ble_eq_true rfl)⟩) ⟨hz_C.blind, va_recv hK hP (ci := 5) (q0 := 1) rfl rfl, hz_C.mk (hP.sub (ws' := [(a, .inr (5, [.ref a_tape, .ref a_code, .int k47_F_a_2, .int k13_F_a_3])), (a_tape, .inr (7, [.ref a_tape_bytes, .int a_tape__length, .int k13_F_a_tape_2, .int k13_F_a_tape_3])), (a_tape_bytes, .inl (cs 0, 400, .inl a_tape_bytes_c)), (a_code, .inl (cs 0, 400, .inl k47_C_a_code))]) [1,2,3,0] rfl) (hD.sub (ws' := [(a, .inr (5, [.ref a_tape, .ref a_code, .int k47_F_a_2, .int k13_F_a_3])), (a_tape, .inr (7, [.ref a_tape_bytes, .int a_tape__length, .int k13_F_a_tape_2, .int k13_F_a_tape_3])), (a_tape_bytes, .inl (cs 0, 400, .inl a_tape_bytes_c)), (a_code, .inl (cs 0, 400, .inl k47_C_a_code))]) [1,2,3,0] (by decide) rfl) hE hS hFc⟩ rfl rfl hl.1 rfl (lv_room (Nat.le_of_ble_eq_true rfl)) dX5_readSum_50 ⟨(Nat.le_of_ble_eq_true rfl), (Nat.le_of_ble_eq_true rfl)⟩) hS (fun q _ h => hFc q h) hFc (fun o13 t H1 locs ht hvm hw hB hz1 hk1 hS => ?_)
        obtain ⟨hP1, hD1⟩ := hB
        rw [ht] at hP1
        obtain ⟨hP, hD⟩ := va_join (wr := []) (w1 := [(a, .inr (5, [.ref a_tape, .ref a_code, .int (o13.1 1), .int (o13.1 2)])), (a_tape, .inr (7, [.ref a_tape_bytes, .int a_tape__length, .int (o13.1 3), .int (o13.1 0)])), (a_tape_bytes, .inl (cs 0, 400, .inl a_tape_bytes_c)), (a_code, .inl (cs 0, 400, .inl (o13.2 0)))]) hP hD [1, 2, 3, 0] [] rfl rfl (by decide) (by decide) hk1 hFc hP1 hD1
        generalize H1 = H at hP hS ⊢
        have hP : va_P D classes [(a, .inr (5, [.ref a_tape, .ref a_code, .int (o13.1 1), .int (o13.1 2)])), (a_tape, .inr (7, [.ref a_tape_bytes, .int a_tape__length, .int (o13.1 3), .int (o13.1 0)])), (a_tape_bytes, .inl (cs 0, 400, .inl a_tape_bytes_c)), (a_code, .inl (cs 0, 400, .inl (o13.2 0)))] H := hP
        have hD : va_D A [(a, .inr (5, [.ref a_tape, .ref a_code, .int (o13.1 1), .int (o13.1 2)])), (a_tape, .inr (7, [.ref a_tape_bytes, .int a_tape__length, .int (o13.1 3), .int (o13.1 0)])), (a_tape_bytes, .inl (cs 0, 400, .inl a_tape_bytes_c)), (a_code, .inl (cs 0, 400, .inl (o13.2 0)))] := hD
        clear hk1 hFc hP1 hD1 hz1
        rcases hw with ⟨h14, h15, h16, h17⟩ | ⟨h18, h19, h20⟩
        · refine lv_goto (tgt := 65) hx hb dX5_readSum_53 (by decide) ?_
          exact K65 k13_L_2 (o13.1 3) (o13.1 0) (o13.1 1) (o13.1 2) (o13.2 0) (iv_w q47_4 (by decide) (by decide)) q47_5 (iv_w h15 (by decide) (by decide)) h17 h14 (iv_w q47_4 (by decide) (by decide)) H locs (hP.sub (ws' := [(a_tape, .inr (7, [.ref a_tape_bytes, .int a_tape__length, .int (o13.1 3), .int (o13.1 0)])), (a_tape_bytes, .inl (cs 0, 400, .inl a_tape_bytes_c)), (a, .inr (5, [.ref a_tape, .ref a_code, .int (o13.1 1), .int (o13.1 2)])), (a_code, .inl (cs 0, 400, .inl (o13.2 0)))]) [1, 2, 0, 3] rfl) (hD.sub (ws' := [(a_tape, .inr (7, [.ref a_tape_bytes, .int a_tape__length, .int (o13.1 3), .int (o13.1 0)])), (a_tape_bytes, .inl (cs 0, 400, .inl a_tape_bytes_c)), (a, .inr (5, [.ref a_tape, .ref a_code, .int (o13.1 1), .int (o13.1 2)])), (a_code, .inl (cs 0, 400, .inl (o13.2 0)))]) [1, 2, 0, 3] (by decide) rfl) hS ls (lv_sub hl [1, 2, 0, 3] rfl)
        · refine lv_goto (tgt := 65) hx hb dX5_readSum_53 (by decide) ?_
          exact K65 k13_L_2 (o13.1 3) (o13.1 0) (o13.1 1) (o13.1 2) (o13.2 0) (iv_w q47_4 (by decide) (by decide)) q47_5 h19 h20 (iv_w h18 (by decide) (by decide)) (iv_w q47_4 (by decide) (by decide)) H locs (hP.sub (ws' := [(a_tape, .inr (7, [.ref a_tape_bytes, .int a_tape__length, .int (o13.1 3), .int (o13.1 0)])), (a_tape_bytes, .inl (cs 0, 400, .inl a_tape_bytes_c)), (a, .inr (5, [.ref a_tape, .ref a_code, .int (o13.1 1), .int (o13.1 2)])), (a_code, .inl (cs 0, 400, .inl (o13.2 0)))]) [1, 2, 0, 3] rfl) (hD.sub (ws' := [(a_tape, .inr (7, [.ref a_tape_bytes, .int a_tape__length, .int (o13.1 3), .int (o13.1 0)])), (a_tape_bytes, .inl (cs 0, 400, .inl a_tape_bytes_c)), (a, .inr (5, [.ref a_tape, .ref a_code, .int (o13.1 1), .int (o13.1 2)])), (a_code, .inl (cs 0, 400, .inl (o13.2 0)))]) [1, 2, 0, 3] (by decide) rfl) hS ls (lv_sub hl [1, 2, 0, 3] rfl)
      have K37 : IV 0 400 k13_F_a_2 → IV 0 400 k13_F_a_tape_2 → IV 0 3205 k13_F_a_tape_3 → IV (-21) (-1) k13_L_1 → IV (-21) (-20) k13_L_2 → IV 0 399 k13_L_3 → ∀ (H : Heap) (locs : List Loc), va_P D classes [(a_code, .inl (cs 0, 400, .inl k13_C_a_code)), (a, .inr (5, [.ref a_tape, .ref a_code, .int k13_F_a_2, .int k13_F_a_3])), (a_tape, .inr (7, [.ref a_tape_bytes, .int a_tape__length, .int k13_F_a_tape_2, .int k13_F_a_tape_3])), (a_tape_bytes, .inl (cs 0, 400, .inl a_tape_bytes_c))] H → va_D A [(a_code, .inl (cs 0, 400, .inl k13_C_a_code)), (a, .inr (5, [.ref a_tape, .ref a_code, .int k13_F_a_2, .int k13_F_a_3])), (a_tape, .inr (7, [.ref a_tape_bytes, .int a_tape__length, .int k13_F_a_tape_2, .int k13_F_a_tape_3])), (a_tape_bytes, .inl (cs 0, 400, .inl a_tape_bytes_c))] → va_S A s.heap H locs → ∀ ls : Array Slot, lv_has ls 4 [(3, .int k13_L_3), (2, .int k13_L_2), (1, .int k13_L_1), (0, .ref a)] → W p l e (headSpec (hz_w yX5_readSum cX5_readSum 4 none) ({ frames := 6, cells := 0, slots := 0, locals := 133 })).room s m [.ref a].toArray below meth c H locs 0 0 (MQ below (va_Qv (fun (u : (Nat → Int32) × (Nat → Nat → Int32)) => (IV 0 3205 (u.1 0) ∧ IV 0 400 (u.1 1) ∧ IV 0 400 (u.1 3))) (fun u t => va_P D classes [(a, .inr (5, [.ref a_tape, .ref a_code, .int (u.1 1), .int (u.1 2)])), (a_tape, .inr (7, [.ref a_tape_bytes, .int a_tape__length, .int (u.1 3), .int (u.1 0)])), (a_tape_bytes, .inl (cs 0, 400, .inl a_tape_bytes_c)), (a_code, .inl (cs 0, 400, .inl (u.2 0)))] t.heap ∧ va_D A [(a, .inr (5, [.ref a_tape, .ref a_code, .int (u.1 1), .int (u.1 2)])), (a_tape, .inr (7, [.ref a_tape_bytes, .int a_tape__length, .int (u.1 3), .int (u.1 0)])), (a_tape_bytes, .inl (cs 0, 400, .inl a_tape_bytes_c)), (a_code, .inl (cs 0, 400, .inl (u.2 0)))]) A) [.ref a].toArray s 0 0 A) (F0 m 37 ls []) := by
        intro  q37_1 q37_2 q37_3 q37_4 q37_5 q37_6 H locs hP hD hS ls hl
        refine lv_iload_n hx hb dX5_readSum_37 rfl (lv_at hl 2 rfl) ?_
        refine lv_iconst (v := (-1)) hx hb dX5_readSum_38 (by decide) ?_
        refine lv_icmp_eq (tgt := 47) hx hb dX5_readSum_39 (by decide) (fun c21 => ?_) (fun c21 => ?_)
        · have h22 : IV (-1) (-1) k13_L_1 := iv_eq1 c21 q37_4 (iv_c (a := (-1)) (b := (-1)) (by decide)) (by decide) (by decide)
          exact K47 k13_C_a_code k13_F_a_2 q37_2 q37_3 (iv_w h22 (by decide) (by decide)) q37_5 q37_6 q37_1 H locs (hP.sub (ws' := [(a_code, .inl (cs 0, 400, .inl k13_C_a_code)), (a, .inr (5, [.ref a_tape, .ref a_code, .int k13_F_a_2, .int k13_F_a_3])), (a_tape, .inr (7, [.ref a_tape_bytes, .int a_tape__length, .int k13_F_a_tape_2, .int k13_F_a_tape_3])), (a_tape_bytes, .inl (cs 0, 400, .inl a_tape_bytes_c))]) [0, 1, 2, 3] rfl) (hD.sub (ws' := [(a_code, .inl (cs 0, 400, .inl k13_C_a_code)), (a, .inr (5, [.ref a_tape, .ref a_code, .int k13_F_a_2, .int k13_F_a_3])), (a_tape, .inr (7, [.ref a_tape_bytes, .int a_tape__length, .int k13_F_a_tape_2, .int k13_F_a_tape_3])), (a_tape_bytes, .inl (cs 0, 400, .inl a_tape_bytes_c))]) [0, 1, 2, 3] (by decide) rfl) hS ls (lv_sub hl [0, 1, 2, 3] rfl)
        · have h23 : IV (-21) (-2) k13_L_1 := iv_neR c21 q37_4 (by decide)
          refine lv_aload_n hx hb dX5_readSum_42 rfl (lv_at hl 3 rfl) ?_
          refine lv_iload_n hx hb dX5_readSum_43 rfl (lv_at hl 2 rfl) ?_
          have hFc := va_free (wc := [(a, .inr (5, [.ref a_tape, .ref a_code, .int k13_F_a_2, .int k13_F_a_3])), (a_code, .inl (cs 0, 400, .inl k13_C_a_code))]) hD hS hA [1,0] rfl
          refine va_callv (va_runV (As := [.int k13_L_1]) (rest := []) ⟨hx, hb, hml, hown, hT⟩ (c_X5_emit l D cs kK kV a k13_L_1 a_tape a_code k13_F_a_2 k13_F_a_3 k13_C_a_code q37_1 H.size) (cwV 1 hT (hz_gV q_581 q_582 q_583 q_246 q_584) rfl rfl rfl (by decide +kernel) ⟨(Nat.le_of_ble_eq_true rfl), (Nat.le_of_ble_eq_true rfl)⟩) ⟨hz_C.blind, va_recv hK hP (ci := 5) (q0 := 1) rfl rfl, hz_C.mk (hP.sub (ws' := [(a, .inr (5, [.ref a_tape, .ref a_code, .int k13_F_a_2, .int k13_F_a_3])), (a_code, .inl (cs 0, 400, .inl k13_C_a_code))]) [1,0] rfl) (hD.sub (ws' := [(a, .inr (5, [.ref a_tape, .ref a_code, .int k13_F_a_2, .int k13_F_a_3])), (a_code, .inl (cs 0, 400, .inl k13_C_a_code))]) [1,0] (by decide) rfl) hE hS hFc⟩ rfl rfl hl.1 rfl (lv_room (Nat.le_of_ble_eq_true rfl)) dX5_readSum_44 ⟨(Nat.le_of_ble_eq_true rfl), (Nat.le_of_ble_eq_true rfl)⟩) hS (fun q _ h => hFc q h) hFc (fun u t H1 locs ht hvm hw hB hz1 hk1 hS => ?_)
          obtain ⟨o25, o26, h27, hP1, hD1⟩ := hB
          rw [ht] at hP1
          obtain ⟨hP, hD⟩ := va_join (wr := [(a_tape, .inr (7, [.ref a_tape_bytes, .int a_tape__length, .int k13_F_a_tape_2, .int k13_F_a_tape_3])), (a_tape_bytes, .inl (cs 0, 400, .inl a_tape_bytes_c))]) (w1 := [(a, .inr (5, [.ref a_tape, .ref a_code, .int o25, .int k13_F_a_3])), (a_code, .inl (cs 0, 400, .inl o26))]) hP hD [1, 0] [2, 3] rfl rfl (by decide) (by decide) hk1 hFc hP1 hD1
          generalize H1 = H at hP hS ⊢
          have hP : va_P D classes [(a_tape, .inr (7, [.ref a_tape_bytes, .int a_tape__length, .int k13_F_a_tape_2, .int k13_F_a_tape_3])), (a_tape_bytes, .inl (cs 0, 400, .inl a_tape_bytes_c)), (a, .inr (5, [.ref a_tape, .ref a_code, .int o25, .int k13_F_a_3])), (a_code, .inl (cs 0, 400, .inl o26))] H := hP
          have hD : va_D A [(a_tape, .inr (7, [.ref a_tape_bytes, .int a_tape__length, .int k13_F_a_tape_2, .int k13_F_a_tape_3])), (a_tape_bytes, .inl (cs 0, 400, .inl a_tape_bytes_c)), (a, .inr (5, [.ref a_tape, .ref a_code, .int o25, .int k13_F_a_3])), (a_code, .inl (cs 0, 400, .inl o26))] := hD
          clear hk1 hFc hP1 hD1 hz1
          exact K47 o26 o25 q37_2 q37_3 (iv_w h23 (by decide) (by decide)) q37_5 q37_6 (iv_w h27 (by decide) (by decide)) H locs (hP.sub (ws' := [(a_code, .inl (cs 0, 400, .inl o26)), (a, .inr (5, [.ref a_tape, .ref a_code, .int o25, .int k13_F_a_3])), (a_tape, .inr (7, [.ref a_tape_bytes, .int a_tape__length, .int k13_F_a_tape_2, .int k13_F_a_tape_3])), (a_tape_bytes, .inl (cs 0, 400, .inl a_tape_bytes_c))]) [3, 2, 0, 1] rfl) (hD.sub (ws' := [(a_code, .inl (cs 0, 400, .inl o26)), (a, .inr (5, [.ref a_tape, .ref a_code, .int o25, .int k13_F_a_3])), (a_tape, .inr (7, [.ref a_tape_bytes, .int a_tape__length, .int k13_F_a_tape_2, .int k13_F_a_tape_3])), (a_tape_bytes, .inl (cs 0, 400, .inl a_tape_bytes_c))]) [3, 2, 0, 1] (by decide) rfl) hS ls (lv_sub hl [0, 1, 2, 3] rfl)
      refine lv_iload_n hx hb dX5_readSum_13 rfl (lv_at hl 0 rfl) ?_
      refine lv_sipush (v := 400) hx hb dX5_readSum_14 (by decide) ?_
      refine lv_icmp_ge (tgt := 76) hx hb dX5_readSum_17 (by decide) (fun c28 => ?_) (fun c28 => ?_)
      · have h29 : IV 400 400 k13_L_3 := iv_le2 c28 (iv_c (a := 400) (b := 400) (by decide)) q13_6 (by decide)
        exact K76 k13_L_3 k13_L_2 k13_L_1 k13_C_a_code k13_F_a_2 k13_F_a_3 k13_F_a_tape_2 k13_F_a_tape_3 q13_1 q13_2 q13_3 q13_4 (iv_w q13_5 (by decide) (by decide)) (iv_w h29 (by decide) (by decide)) H locs (hP.sub (ws' := [(a_code, .inl (cs 0, 400, .inl k13_C_a_code)), (a, .inr (5, [.ref a_tape, .ref a_code, .int k13_F_a_2, .int k13_F_a_3])), (a_tape, .inr (7, [.ref a_tape_bytes, .int a_tape__length, .int k13_F_a_tape_2, .int k13_F_a_tape_3])), (a_tape_bytes, .inl (cs 0, 400, .inl a_tape_bytes_c))]) [0, 1, 2, 3] rfl) (hD.sub (ws' := [(a_code, .inl (cs 0, 400, .inl k13_C_a_code)), (a, .inr (5, [.ref a_tape, .ref a_code, .int k13_F_a_2, .int k13_F_a_3])), (a_tape, .inr (7, [.ref a_tape_bytes, .int a_tape__length, .int k13_F_a_tape_2, .int k13_F_a_tape_3])), (a_tape_bytes, .inl (cs 0, 400, .inl a_tape_bytes_c))]) [0, 1, 2, 3] (by decide) rfl) hS ls (lv_sub hl [0, 1, 2, 3] rfl)
      · have h30 : IV 0 399 k13_L_3 := iv_lt1 (Int32.not_le.mp c28) q13_6 (iv_c (a := 400) (b := 400) (by decide)) (by decide)
        refine lv_iload_n hx hb dX5_readSum_20 rfl (lv_at hl 1 rfl) ?_
        refine lv_iconst (v := (-1)) hx hb dX5_readSum_21 (by decide) ?_
        refine lv_icmp_eq (tgt := 76) hx hb dX5_readSum_22 (by decide) (fun c31 => ?_) (fun c31 => ?_)
        · have h32 : IV (-1) (-1) k13_L_2 := iv_eq1 c31 q13_5 (iv_c (a := (-1)) (b := (-1)) (by decide)) (by decide) (by decide)
          exact K76 k13_L_3 k13_L_2 k13_L_1 k13_C_a_code k13_F_a_2 k13_F_a_3 k13_F_a_tape_2 k13_F_a_tape_3 q13_1 q13_2 q13_3 q13_4 (iv_w h32 (by decide) (by decide)) (iv_w h30 (by decide) (by decide)) H locs (hP.sub (ws' := [(a_code, .inl (cs 0, 400, .inl k13_C_a_code)), (a, .inr (5, [.ref a_tape, .ref a_code, .int k13_F_a_2, .int k13_F_a_3])), (a_tape, .inr (7, [.ref a_tape_bytes, .int a_tape__length, .int k13_F_a_tape_2, .int k13_F_a_tape_3])), (a_tape_bytes, .inl (cs 0, 400, .inl a_tape_bytes_c))]) [0, 1, 2, 3] rfl) (hD.sub (ws' := [(a_code, .inl (cs 0, 400, .inl k13_C_a_code)), (a, .inr (5, [.ref a_tape, .ref a_code, .int k13_F_a_2, .int k13_F_a_3])), (a_tape, .inr (7, [.ref a_tape_bytes, .int a_tape__length, .int k13_F_a_tape_2, .int k13_F_a_tape_3])), (a_tape_bytes, .inl (cs 0, 400, .inl a_tape_bytes_c))]) [0, 1, 2, 3] (by decide) rfl) hS ls (lv_sub hl [0, 1, 2, 3] rfl)
        · have h33 : IV (-24) (-2) k13_L_2 := iv_neR c31 q13_5 (by decide)
          refine lv_iload_n hx hb dX5_readSum_25 rfl (lv_at hl 1 rfl) ?_
          refine lv_bipush (v := (-20)) hx hb dX5_readSum_26 (by decide) ?_
          refine lv_icmp_eq (tgt := 37) hx hb dX5_readSum_28 (by decide) (fun c34 => ?_) (fun c34 => ?_)
          · have h35 : IV (-20) (-20) k13_L_2 := iv_eq1 c34 h33 (iv_c (a := (-20)) (b := (-20)) (by decide)) (by decide) (by decide)
            exact K37 q13_1 q13_2 q13_3 q13_4 (iv_w h35 (by decide) (by decide)) h30 H locs (hP.sub (ws' := [(a_code, .inl (cs 0, 400, .inl k13_C_a_code)), (a, .inr (5, [.ref a_tape, .ref a_code, .int k13_F_a_2, .int k13_F_a_3])), (a_tape, .inr (7, [.ref a_tape_bytes, .int a_tape__length, .int k13_F_a_tape_2, .int k13_F_a_tape_3])), (a_tape_bytes, .inl (cs 0, 400, .inl a_tape_bytes_c))]) [0, 1, 2, 3] rfl) (hD.sub (ws' := [(a_code, .inl (cs 0, 400, .inl k13_C_a_code)), (a, .inr (5, [.ref a_tape, .ref a_code, .int k13_F_a_2, .int k13_F_a_3])), (a_tape, .inr (7, [.ref a_tape_bytes, .int a_tape__length, .int k13_F_a_tape_2, .int k13_F_a_tape_3])), (a_tape_bytes, .inl (cs 0, 400, .inl a_tape_bytes_c))]) [0, 1, 2, 3] (by decide) rfl) hS ls (lv_sub hl [0, 1, 2, 3] rfl)
          · refine lv_iload_n hx hb dX5_readSum_31 rfl (lv_at hl 1 rfl) ?_
            refine lv_bipush (v := (-21)) hx hb dX5_readSum_32 (by decide) ?_
            refine lv_icmp_ne (tgt := 56) hx hb dX5_readSum_34 (by decide) (fun c36 => ?_) (fun c36 => ?_)
            · refine lv_aload_n hx hb dX5_readSum_56 rfl (lv_at hl 3 rfl) ?_
              have hFc := va_free (wc := [(a, .inr (5, [.ref a_tape, .ref a_code, .int k13_F_a_2, .int k13_F_a_3])), (a_tape, .inr (7, [.ref a_tape_bytes, .int a_tape__length, .int k13_F_a_tape_2, .int k13_F_a_tape_3])), (a_tape_bytes, .inl (cs 0, 400, .inl a_tape_bytes_c)), (a_code, .inl (cs 0, 400, .inl k13_C_a_code))]) hD hS hA [1,2,3,0] rfl
              refine va_callv (va_runV (As := []) (rest := []) ⟨hx, hb, hml, hown, hT⟩ (c_X5_readValue l D cs kK kV a a_tape a_code k13_F_a_2 k13_F_a_3 a_tape_bytes a_tape__length k13_F_a_tape_2 k13_F_a_tape_3 a_tape_bytes_c k13_C_a_code q13_1 h_a_tape__length q13_2 q13_3 h_a_tape_bytes_c H.size) (cwV 0 hT (hz_gV q_605 q_606 q_607 q_246 q_608) rfl rfl rfl (by decide +kernel) ⟨(Nat.le_of_ble_eq_true rfl), (Nat.le_of_ble_eq_true rfl)⟩) ⟨hz_C.blind, va_recv hK hP (ci := 5) (q0 := 1) rfl rfl, hz_C.mk (hP.sub (ws' := [(a, .inr (5, [.ref a_tape, .ref a_code, .int k13_F_a_2, .int k13_F_a_3])), (a_tape, .inr (7, [.ref a_tape_bytes, .int a_tape__length, .int k13_F_a_tape_2, .int k13_F_a_tape_3])), (a_tape_bytes, .inl (cs 0, 400, .inl a_tape_bytes_c)), (a_code, .inl (cs 0, 400, .inl k13_C_a_code))]) [1,2,3,0] rfl) (hD.sub (ws' := [(a, .inr (5, [.ref a_tape, .ref a_code, .int k13_F_a_2, .int k13_F_a_3])), (a_tape, .inr (7, [.ref a_tape_bytes, .int a_tape__length, .int k13_F_a_tape_2, .int k13_F_a_tape_3])), (a_tape_bytes, .inl (cs 0, 400, .inl a_tape_bytes_c)), (a_code, .inl (cs 0, 400, .inl k13_C_a_code))]) [1,2,3,0] (by decide) rfl) hE hS hFc⟩ rfl rfl hl.1 rfl (lv_room (Nat.le_of_ble_eq_true rfl)) dX5_readSum_57 ⟨(Nat.le_of_ble_eq_true rfl), (Nat.le_of_ble_eq_true rfl)⟩) hS (fun q _ h => hFc q h) hFc (fun o38 t H1 locs ht hvm hw hB hz1 hk1 hS => ?_)
              obtain ⟨hP1, hD1⟩ := hB
              rw [ht] at hP1
              obtain ⟨hP, hD⟩ := va_join (wr := []) (w1 := [(a, .inr (5, [.ref a_tape, .ref a_code, .int (o38.1 1), .int (o38.1 2)])), (a_tape, .inr (7, [.ref a_tape_bytes, .int a_tape__length, .int (o38.1 3), .int (o38.1 0)])), (a_tape_bytes, .inl (cs 0, 400, .inl a_tape_bytes_c)), (a_code, .inl (cs 0, 400, .inl (o38.2 0)))]) hP hD [1, 2, 3, 0] [] rfl rfl (by decide) (by decide) hk1 hFc hP1 hD1
              generalize H1 = H at hP hS ⊢
              have hP : va_P D classes [(a, .inr (5, [.ref a_tape, .ref a_code, .int (o38.1 1), .int (o38.1 2)])), (a_tape, .inr (7, [.ref a_tape_bytes, .int a_tape__length, .int (o38.1 3), .int (o38.1 0)])), (a_tape_bytes, .inl (cs 0, 400, .inl a_tape_bytes_c)), (a_code, .inl (cs 0, 400, .inl (o38.2 0)))] H := hP
              have hD : va_D A [(a, .inr (5, [.ref a_tape, .ref a_code, .int (o38.1 1), .int (o38.1 2)])), (a_tape, .inr (7, [.ref a_tape_bytes, .int a_tape__length, .int (o38.1 3), .int (o38.1 0)])), (a_tape_bytes, .inl (cs 0, 400, .inl a_tape_bytes_c)), (a_code, .inl (cs 0, 400, .inl (o38.2 0)))] := hD
              clear hk1 hFc hP1 hD1 hz1
              rcases hw with ⟨h39, h40, h41, h42⟩ | ⟨h43, h44, h45⟩
              · refine lv_aload_n hx hb dX5_readSum_60 rfl (lv_at hl 3 rfl) ?_
                refine lv_iload_n hx hb dX5_readSum_61 rfl (lv_at hl 1 rfl) ?_
                have hFc := va_free (wc := [(a, .inr (5, [.ref a_tape, .ref a_code, .int (o38.1 1), .int (o38.1 2)])), (a_code, .inl (cs 0, 400, .inl (o38.2 0)))]) hD hS hA [0,3] rfl
                refine va_callv (va_runV (As := [.int k13_L_2]) (rest := []) ⟨hx, hb, hml, hown, hT⟩ (c_X5_emit l D cs kK kV a k13_L_2 a_tape a_code (o38.1 1) (o38.1 2) (o38.2 0) ((iv_w h40 (by decide) (by decide))) H.size) (cwV 1 hT (hz_gV q_581 q_582 q_583 q_246 q_584) rfl rfl rfl (by decide +kernel) ⟨(Nat.le_of_ble_eq_true rfl), (Nat.le_of_ble_eq_true rfl)⟩) ⟨hz_C.blind, va_recv hK hP (ci := 5) (q0 := 0) rfl rfl, hz_C.mk (hP.sub (ws' := [(a, .inr (5, [.ref a_tape, .ref a_code, .int (o38.1 1), .int (o38.1 2)])), (a_code, .inl (cs 0, 400, .inl (o38.2 0)))]) [0,3] rfl) (hD.sub (ws' := [(a, .inr (5, [.ref a_tape, .ref a_code, .int (o38.1 1), .int (o38.1 2)])), (a_code, .inl (cs 0, 400, .inl (o38.2 0)))]) [0,3] (by decide) rfl) hE hS hFc⟩ rfl rfl hl.1 rfl (lv_room (Nat.le_of_ble_eq_true rfl)) dX5_readSum_62 ⟨(Nat.le_of_ble_eq_true rfl), (Nat.le_of_ble_eq_true rfl)⟩) hS (fun q _ h => hFc q h) hFc (fun u t H1 locs ht hvm hw hB hz1 hk1 hS => ?_)
                obtain ⟨o47, o48, h49, hP1, hD1⟩ := hB
                rw [ht] at hP1
                obtain ⟨hP, hD⟩ := va_join (wr := [(a_tape, .inr (7, [.ref a_tape_bytes, .int a_tape__length, .int (o38.1 3), .int (o38.1 0)])), (a_tape_bytes, .inl (cs 0, 400, .inl a_tape_bytes_c))]) (w1 := [(a, .inr (5, [.ref a_tape, .ref a_code, .int o47, .int (o38.1 2)])), (a_code, .inl (cs 0, 400, .inl o48))]) hP hD [0, 3] [1, 2] rfl rfl (by decide) (by decide) hk1 hFc hP1 hD1
                generalize H1 = H at hP hS ⊢
                have hP : va_P D classes [(a_tape, .inr (7, [.ref a_tape_bytes, .int a_tape__length, .int (o38.1 3), .int (o38.1 0)])), (a_tape_bytes, .inl (cs 0, 400, .inl a_tape_bytes_c)), (a, .inr (5, [.ref a_tape, .ref a_code, .int o47, .int (o38.1 2)])), (a_code, .inl (cs 0, 400, .inl o48))] H := hP
                have hD : va_D A [(a_tape, .inr (7, [.ref a_tape_bytes, .int a_tape__length, .int (o38.1 3), .int (o38.1 0)])), (a_tape_bytes, .inl (cs 0, 400, .inl a_tape_bytes_c)), (a, .inr (5, [.ref a_tape, .ref a_code, .int o47, .int (o38.1 2)])), (a_code, .inl (cs 0, 400, .inl o48))] := hD
                clear hk1 hFc hP1 hD1 hz1
                exact K65 k13_L_1 (o38.1 3) (o38.1 0) o47 (o38.1 2) o48 h33 h30 (iv_w h49 (by decide) (by decide)) h42 h39 q13_4 H locs (hP.sub (ws' := [(a_tape, .inr (7, [.ref a_tape_bytes, .int a_tape__length, .int (o38.1 3), .int (o38.1 0)])), (a_tape_bytes, .inl (cs 0, 400, .inl a_tape_bytes_c)), (a, .inr (5, [.ref a_tape, .ref a_code, .int o47, .int (o38.1 2)])), (a_code, .inl (cs 0, 400, .inl o48))]) [0, 1, 2, 3] rfl) (hD.sub (ws' := [(a_tape, .inr (7, [.ref a_tape_bytes, .int a_tape__length, .int (o38.1 3), .int (o38.1 0)])), (a_tape_bytes, .inl (cs 0, 400, .inl a_tape_bytes_c)), (a, .inr (5, [.ref a_tape, .ref a_code, .int o47, .int (o38.1 2)])), (a_code, .inl (cs 0, 400, .inl o48))]) [0, 1, 2, 3] (by decide) rfl) hS ls (lv_sub hl [0, 1, 2, 3] rfl)
              · refine lv_aload_n hx hb dX5_readSum_60 rfl (lv_at hl 3 rfl) ?_
                refine lv_iload_n hx hb dX5_readSum_61 rfl (lv_at hl 1 rfl) ?_
                have hFc := va_free (wc := [(a, .inr (5, [.ref a_tape, .ref a_code, .int (o38.1 1), .int (o38.1 2)])), (a_code, .inl (cs 0, 400, .inl (o38.2 0)))]) hD hS hA [0,3] rfl
                refine va_callv (va_runV (As := [.int k13_L_2]) (rest := []) ⟨hx, hb, hml, hown, hT⟩ (c_X5_emit l D cs kK kV a k13_L_2 a_tape a_code (o38.1 1) (o38.1 2) (o38.2 0) h44 H.size) (cwV 1 hT (hz_gV q_581 q_582 q_583 q_246 q_584) rfl rfl rfl (by decide +kernel) ⟨(Nat.le_of_ble_eq_true rfl), (Nat.le_of_ble_eq_true rfl)⟩) ⟨hz_C.blind, va_recv hK hP (ci := 5) (q0 := 0) rfl rfl, hz_C.mk (hP.sub (ws' := [(a, .inr (5, [.ref a_tape, .ref a_code, .int (o38.1 1), .int (o38.1 2)])), (a_code, .inl (cs 0, 400, .inl (o38.2 0)))]) [0,3] rfl) (hD.sub (ws' := [(a, .inr (5, [.ref a_tape, .ref a_code, .int (o38.1 1), .int (o38.1 2)])), (a_code, .inl (cs 0, 400, .inl (o38.2 0)))]) [0,3] (by decide) rfl) hE hS hFc⟩ rfl rfl hl.1 rfl (lv_room (Nat.le_of_ble_eq_true rfl)) dX5_readSum_62 ⟨(Nat.le_of_ble_eq_true rfl), (Nat.le_of_ble_eq_true rfl)⟩) hS (fun q _ h => hFc q h) hFc (fun u t H1 locs ht hvm hw hB hz1 hk1 hS => ?_)
                obtain ⟨o51, o52, h53, hP1, hD1⟩ := hB
                rw [ht] at hP1
                obtain ⟨hP, hD⟩ := va_join (wr := [(a_tape, .inr (7, [.ref a_tape_bytes, .int a_tape__length, .int (o38.1 3), .int (o38.1 0)])), (a_tape_bytes, .inl (cs 0, 400, .inl a_tape_bytes_c))]) (w1 := [(a, .inr (5, [.ref a_tape, .ref a_code, .int o51, .int (o38.1 2)])), (a_code, .inl (cs 0, 400, .inl o52))]) hP hD [0, 3] [1, 2] rfl rfl (by decide) (by decide) hk1 hFc hP1 hD1
                generalize H1 = H at hP hS ⊢
                have hP : va_P D classes [(a_tape, .inr (7, [.ref a_tape_bytes, .int a_tape__length, .int (o38.1 3), .int (o38.1 0)])), (a_tape_bytes, .inl (cs 0, 400, .inl a_tape_bytes_c)), (a, .inr (5, [.ref a_tape, .ref a_code, .int o51, .int (o38.1 2)])), (a_code, .inl (cs 0, 400, .inl o52))] H := hP
                have hD : va_D A [(a_tape, .inr (7, [.ref a_tape_bytes, .int a_tape__length, .int (o38.1 3), .int (o38.1 0)])), (a_tape_bytes, .inl (cs 0, 400, .inl a_tape_bytes_c)), (a, .inr (5, [.ref a_tape, .ref a_code, .int o51, .int (o38.1 2)])), (a_code, .inl (cs 0, 400, .inl o52))] := hD
                clear hk1 hFc hP1 hD1 hz1
                exact K65 k13_L_1 (o38.1 3) (o38.1 0) o51 (o38.1 2) o52 h33 h30 (iv_w h53 (by decide) (by decide)) h45 (iv_w h43 (by decide) (by decide)) q13_4 H locs (hP.sub (ws' := [(a_tape, .inr (7, [.ref a_tape_bytes, .int a_tape__length, .int (o38.1 3), .int (o38.1 0)])), (a_tape_bytes, .inl (cs 0, 400, .inl a_tape_bytes_c)), (a, .inr (5, [.ref a_tape, .ref a_code, .int o51, .int (o38.1 2)])), (a_code, .inl (cs 0, 400, .inl o52))]) [0, 1, 2, 3] rfl) (hD.sub (ws' := [(a_tape, .inr (7, [.ref a_tape_bytes, .int a_tape__length, .int (o38.1 3), .int (o38.1 0)])), (a_tape_bytes, .inl (cs 0, 400, .inl a_tape_bytes_c)), (a, .inr (5, [.ref a_tape, .ref a_code, .int o51, .int (o38.1 2)])), (a_code, .inl (cs 0, 400, .inl o52))]) [0, 1, 2, 3] (by decide) rfl) hS ls (lv_sub hl [0, 1, 2, 3] rfl)
            · have h54 : IV (-21) (-21) k13_L_2 := iv_eq1 c36 h33 (iv_c (a := (-21)) (b := (-21)) (by decide)) (by decide) (by decide)
              exact K37 q13_1 q13_2 q13_3 q13_4 (iv_w h54 (by decide) (by decide)) h30 H locs (hP.sub (ws' := [(a_code, .inl (cs 0, 400, .inl k13_C_a_code)), (a, .inr (5, [.ref a_tape, .ref a_code, .int k13_F_a_2, .int k13_F_a_3])), (a_tape, .inr (7, [.ref a_tape_bytes, .int a_tape__length, .int k13_F_a_tape_2, .int k13_F_a_tape_3])), (a_tape_bytes, .inl (cs 0, 400, .inl a_tape_bytes_c))]) [0, 1, 2, 3] rfl) (hD.sub (ws' := [(a_code, .inl (cs 0, 400, .inl k13_C_a_code)), (a, .inr (5, [.ref a_tape, .ref a_code, .int k13_F_a_2, .int k13_F_a_3])), (a_tape, .inr (7, [.ref a_tape_bytes, .int a_tape__length, .int k13_F_a_tape_2, .int k13_F_a_tape_3])), (a_tape_bytes, .inl (cs 0, 400, .inl a_tape_bytes_c))]) [0, 1, 2, 3] (by decide) rfl) hS ls (lv_sub hl [0, 1, 2, 3] rfl)
  refine lv_aload_n hx hb dX5_readSum_0 rfl (lv_at hl 0 rfl) ?_
  have hFc := va_free (wc := [(a, .inr (5, [.ref a_tape, .ref a_code, .int a__length, .int a__parts])), (a_tape, .inr (7, [.ref a_tape_bytes, .int a_tape__length, .int a_tape__place, .int a_tape__fault])), (a_tape_bytes, .inl (cs 0, 400, .inl a_tape_bytes_c)), (a_code, .inl (cs 0, 400, .inl a_code_c))]) hD hS hA [0,1,2,3] rfl
  refine va_callv (va_runV (As := []) (rest := []) ⟨hx, hb, hml, hown, hT⟩ (c_X5_readValue l D cs kK kV a a_tape a_code a__length a__parts a_tape_bytes a_tape__length a_tape__place a_tape__fault a_tape_bytes_c a_code_c h_a__length h_a_tape__length h_a_tape__place h_a_tape__fault h_a_tape_bytes_c H.size) (cwV 0 hT (hz_gV q_605 q_606 q_607 q_246 q_608) rfl rfl rfl (by decide +kernel) ⟨(Nat.le_of_ble_eq_true rfl), (Nat.le_of_ble_eq_true rfl)⟩) ⟨hz_C.blind, va_recv hK hP (ci := 5) (q0 := 0) rfl rfl, hz_C.mk (hP.sub (ws' := [(a, .inr (5, [.ref a_tape, .ref a_code, .int a__length, .int a__parts])), (a_tape, .inr (7, [.ref a_tape_bytes, .int a_tape__length, .int a_tape__place, .int a_tape__fault])), (a_tape_bytes, .inl (cs 0, 400, .inl a_tape_bytes_c)), (a_code, .inl (cs 0, 400, .inl a_code_c))]) [0,1,2,3] rfl) (hD.sub (ws' := [(a, .inr (5, [.ref a_tape, .ref a_code, .int a__length, .int a__parts])), (a_tape, .inr (7, [.ref a_tape_bytes, .int a_tape__length, .int a_tape__place, .int a_tape__fault])), (a_tape_bytes, .inl (cs 0, 400, .inl a_tape_bytes_c)), (a_code, .inl (cs 0, 400, .inl a_code_c))]) [0,1,2,3] (by decide) rfl) hE hS hFc⟩ rfl rfl hl.1 rfl (lv_room (Nat.le_of_ble_eq_true rfl)) dX5_readSum_1 ⟨(Nat.le_of_ble_eq_true rfl), (Nat.le_of_ble_eq_true rfl)⟩) hS (fun q _ h => hFc q h) hFc (fun o56 t H1 locs ht hvm hw hB hz1 hk1 hS => ?_)
  obtain ⟨hP1, hD1⟩ := hB
  rw [ht] at hP1
  obtain ⟨hP, hD⟩ := va_join (wr := []) (w1 := [(a, .inr (5, [.ref a_tape, .ref a_code, .int (o56.1 1), .int (o56.1 2)])), (a_tape, .inr (7, [.ref a_tape_bytes, .int a_tape__length, .int (o56.1 3), .int (o56.1 0)])), (a_tape_bytes, .inl (cs 0, 400, .inl a_tape_bytes_c)), (a_code, .inl (cs 0, 400, .inl (o56.2 0)))]) hP hD [0, 1, 2, 3] [] rfl rfl (by decide) (by decide) hk1 hFc hP1 hD1
  generalize H1 = H at hP hS ⊢
  have hP : va_P D classes [(a, .inr (5, [.ref a_tape, .ref a_code, .int (o56.1 1), .int (o56.1 2)])), (a_tape, .inr (7, [.ref a_tape_bytes, .int a_tape__length, .int (o56.1 3), .int (o56.1 0)])), (a_tape_bytes, .inl (cs 0, 400, .inl a_tape_bytes_c)), (a_code, .inl (cs 0, 400, .inl (o56.2 0)))] H := hP
  have hD : va_D A [(a, .inr (5, [.ref a_tape, .ref a_code, .int (o56.1 1), .int (o56.1 2)])), (a_tape, .inr (7, [.ref a_tape_bytes, .int a_tape__length, .int (o56.1 3), .int (o56.1 0)])), (a_tape_bytes, .inl (cs 0, 400, .inl a_tape_bytes_c)), (a_code, .inl (cs 0, 400, .inl (o56.2 0)))] := hD
  clear hk1 hFc hP1 hD1 hz1
  rcases hw with ⟨h57, h58, h59, h60⟩ | ⟨h61, h62, h63⟩
  · refine lv_iconst (v := (-1)) hx hb dX5_readSum_4 (by decide) ?_
    refine lv_istore_n (lv' := [(1, .int (-1)), (0, .ref a)]) hx hb dX5_readSum_5 rfl hl (by decide) rfl (fun ls hl => ?_)
    refine lv_aload_n hx hb dX5_readSum_6 rfl (lv_at hl 1 rfl) ?_
    have hFc := va_free (wc := [(a, .inr (5, [.ref a_tape, .ref a_code, .int (o56.1 1), .int (o56.1 2)])), (a_tape, .inr (7, [.ref a_tape_bytes, .int a_tape__length, .int (o56.1 3), .int (o56.1 0)])), (a_tape_bytes, .inl (cs 0, 400, .inl a_tape_bytes_c))]) hD hS hA [0,1,2] rfl
    refine va_calli (va_runV (As := []) (rest := []) ⟨hx, hb, hml, hown, hT⟩ (c_X5_takeOperation l D cs kK kV a a_tape a_code (o56.1 1) (o56.1 2) a_tape_bytes a_tape__length (o56.1 3) (o56.1 0) a_tape_bytes_c h_a_tape__length h60 h57 h_a_tape_bytes_c H.size) (cwV 0 hT (hz_gV q_609 q_610 q_611 q_246 q_612) rfl rfl rfl (by decide +kernel) ⟨(Nat.le_of_ble_eq_true rfl), (Nat.le_of_ble_eq_true rfl)⟩) ⟨hz_C.blind, va_recv hK hP (ci := 5) (q0 := 0) rfl rfl, hz_C.mk (hP.sub (ws' := [(a, .inr (5, [.ref a_tape, .ref a_code, .int (o56.1 1), .int (o56.1 2)])), (a_tape, .inr (7, [.ref a_tape_bytes, .int a_tape__length, .int (o56.1 3), .int (o56.1 0)])), (a_tape_bytes, .inl (cs 0, 400, .inl a_tape_bytes_c))]) [0,1,2] rfl) (hD.sub (ws' := [(a, .inr (5, [.ref a_tape, .ref a_code, .int (o56.1 1), .int (o56.1 2)])), (a_tape, .inr (7, [.ref a_tape_bytes, .int a_tape__length, .int (o56.1 3), .int (o56.1 0)])), (a_tape_bytes, .inl (cs 0, 400, .inl a_tape_bytes_c))]) [0,1,2] (by decide) rfl) hE hS hFc⟩ rfl rfl hl.1 rfl (lv_room (Nat.le_of_ble_eq_true rfl)) dX5_readSum_7 ⟨(Nat.le_of_ble_eq_true rfl), (Nat.le_of_ble_eq_true rfl)⟩) hS (fun q _ h => hFc q h) hFc (fun r64 u t H1 locs ht hvm hw hB hz1 hk1 hS => ?_)
    obtain ⟨o65, h66, hP1, hD1⟩ := hB
    rw [ht] at hP1
    obtain ⟨hP, hD⟩ := va_join (wr := [(a_code, .inl (cs 0, 400, .inl (o56.2 0)))]) (w1 := [(a, .inr (5, [.ref a_tape, .ref a_code, .int (o56.1 1), .int (o56.1 2)])), (a_tape, .inr (7, [.ref a_tape_bytes, .int a_tape__length, .int o65, .int (o56.1 0)])), (a_tape_bytes, .inl (cs 0, 400, .inl a_tape_bytes_c))]) hP hD [0, 1, 2] [3] rfl rfl (by decide) (by decide) hk1 hFc hP1 hD1
    generalize H1 = H at hP hS ⊢
    have hP : va_P D classes [(a_code, .inl (cs 0, 400, .inl (o56.2 0))), (a, .inr (5, [.ref a_tape, .ref a_code, .int (o56.1 1), .int (o56.1 2)])), (a_tape, .inr (7, [.ref a_tape_bytes, .int a_tape__length, .int o65, .int (o56.1 0)])), (a_tape_bytes, .inl (cs 0, 400, .inl a_tape_bytes_c))] H := hP
    have hD : va_D A [(a_code, .inl (cs 0, 400, .inl (o56.2 0))), (a, .inr (5, [.ref a_tape, .ref a_code, .int (o56.1 1), .int (o56.1 2)])), (a_tape, .inr (7, [.ref a_tape_bytes, .int a_tape__length, .int o65, .int (o56.1 0)])), (a_tape_bytes, .inl (cs 0, 400, .inl a_tape_bytes_c))] := hD
    clear hk1 hFc hP1 hD1 hz1
    have hw_r64 := hw
    refine lv_istore_n (lv' := [(2, .int r64), (1, .int (-1)), (0, .ref a)]) hx hb dX5_readSum_10 rfl hl (by decide) rfl (fun ls hl => ?_)
    refine lv_iconst (v := 0) hx hb dX5_readSum_11 (by decide) ?_
    refine lv_istore_n (lv' := [(3, .int 0), (2, .int r64), (1, .int (-1)), (0, .ref a)]) hx hb dX5_readSum_12 rfl hl (by decide) rfl (fun ls hl => ?_)
    exact K13 _ 0 r64 (-1) (o56.2 0) (o56.1 1) (o56.1 2) o65 (o56.1 0) (Nat.le_refl _) (iv_w h58 (by decide) (by decide)) h66 h57 (iv_c (by decide)) hw_r64 (iv_c (by decide)) H locs (hP.sub (ws' := [(a_code, .inl (cs 0, 400, .inl (o56.2 0))), (a, .inr (5, [.ref a_tape, .ref a_code, .int (o56.1 1), .int (o56.1 2)])), (a_tape, .inr (7, [.ref a_tape_bytes, .int a_tape__length, .int o65, .int (o56.1 0)])), (a_tape_bytes, .inl (cs 0, 400, .inl a_tape_bytes_c))]) [0, 1, 2, 3] rfl) (hD.sub (ws' := [(a_code, .inl (cs 0, 400, .inl (o56.2 0))), (a, .inr (5, [.ref a_tape, .ref a_code, .int (o56.1 1), .int (o56.1 2)])), (a_tape, .inr (7, [.ref a_tape_bytes, .int a_tape__length, .int o65, .int (o56.1 0)])), (a_tape_bytes, .inl (cs 0, 400, .inl a_tape_bytes_c))]) [0, 1, 2, 3] (by decide) rfl) hS ls (lv_sub hl [0, 1, 2, 3] rfl)
  · refine lv_iconst (v := (-1)) hx hb dX5_readSum_4 (by decide) ?_
    refine lv_istore_n (lv' := [(1, .int (-1)), (0, .ref a)]) hx hb dX5_readSum_5 rfl hl (by decide) rfl (fun ls hl => ?_)
    refine lv_aload_n hx hb dX5_readSum_6 rfl (lv_at hl 1 rfl) ?_
    have hFc := va_free (wc := [(a, .inr (5, [.ref a_tape, .ref a_code, .int (o56.1 1), .int (o56.1 2)])), (a_tape, .inr (7, [.ref a_tape_bytes, .int a_tape__length, .int (o56.1 3), .int (o56.1 0)])), (a_tape_bytes, .inl (cs 0, 400, .inl a_tape_bytes_c))]) hD hS hA [0,1,2] rfl
    refine va_calli (va_runV (As := []) (rest := []) ⟨hx, hb, hml, hown, hT⟩ (c_X5_takeOperation l D cs kK kV a a_tape a_code (o56.1 1) (o56.1 2) a_tape_bytes a_tape__length (o56.1 3) (o56.1 0) a_tape_bytes_c h_a_tape__length h63 ((iv_w h61 (by decide) (by decide))) h_a_tape_bytes_c H.size) (cwV 0 hT (hz_gV q_609 q_610 q_611 q_246 q_612) rfl rfl rfl (by decide +kernel) ⟨(Nat.le_of_ble_eq_true rfl), (Nat.le_of_ble_eq_true rfl)⟩) ⟨hz_C.blind, va_recv hK hP (ci := 5) (q0 := 0) rfl rfl, hz_C.mk (hP.sub (ws' := [(a, .inr (5, [.ref a_tape, .ref a_code, .int (o56.1 1), .int (o56.1 2)])), (a_tape, .inr (7, [.ref a_tape_bytes, .int a_tape__length, .int (o56.1 3), .int (o56.1 0)])), (a_tape_bytes, .inl (cs 0, 400, .inl a_tape_bytes_c))]) [0,1,2] rfl) (hD.sub (ws' := [(a, .inr (5, [.ref a_tape, .ref a_code, .int (o56.1 1), .int (o56.1 2)])), (a_tape, .inr (7, [.ref a_tape_bytes, .int a_tape__length, .int (o56.1 3), .int (o56.1 0)])), (a_tape_bytes, .inl (cs 0, 400, .inl a_tape_bytes_c))]) [0,1,2] (by decide) rfl) hE hS hFc⟩ rfl rfl hl.1 rfl (lv_room (Nat.le_of_ble_eq_true rfl)) dX5_readSum_7 ⟨(Nat.le_of_ble_eq_true rfl), (Nat.le_of_ble_eq_true rfl)⟩) hS (fun q _ h => hFc q h) hFc (fun r67 u t H1 locs ht hvm hw hB hz1 hk1 hS => ?_)
    obtain ⟨o68, h69, hP1, hD1⟩ := hB
    rw [ht] at hP1
    obtain ⟨hP, hD⟩ := va_join (wr := [(a_code, .inl (cs 0, 400, .inl (o56.2 0)))]) (w1 := [(a, .inr (5, [.ref a_tape, .ref a_code, .int (o56.1 1), .int (o56.1 2)])), (a_tape, .inr (7, [.ref a_tape_bytes, .int a_tape__length, .int o68, .int (o56.1 0)])), (a_tape_bytes, .inl (cs 0, 400, .inl a_tape_bytes_c))]) hP hD [0, 1, 2] [3] rfl rfl (by decide) (by decide) hk1 hFc hP1 hD1
    generalize H1 = H at hP hS ⊢
    have hP : va_P D classes [(a_code, .inl (cs 0, 400, .inl (o56.2 0))), (a, .inr (5, [.ref a_tape, .ref a_code, .int (o56.1 1), .int (o56.1 2)])), (a_tape, .inr (7, [.ref a_tape_bytes, .int a_tape__length, .int o68, .int (o56.1 0)])), (a_tape_bytes, .inl (cs 0, 400, .inl a_tape_bytes_c))] H := hP
    have hD : va_D A [(a_code, .inl (cs 0, 400, .inl (o56.2 0))), (a, .inr (5, [.ref a_tape, .ref a_code, .int (o56.1 1), .int (o56.1 2)])), (a_tape, .inr (7, [.ref a_tape_bytes, .int a_tape__length, .int o68, .int (o56.1 0)])), (a_tape_bytes, .inl (cs 0, 400, .inl a_tape_bytes_c))] := hD
    clear hk1 hFc hP1 hD1 hz1
    have hw_r67 := hw
    refine lv_istore_n (lv' := [(2, .int r67), (1, .int (-1)), (0, .ref a)]) hx hb dX5_readSum_10 rfl hl (by decide) rfl (fun ls hl => ?_)
    refine lv_iconst (v := 0) hx hb dX5_readSum_11 (by decide) ?_
    refine lv_istore_n (lv' := [(3, .int 0), (2, .int r67), (1, .int (-1)), (0, .ref a)]) hx hb dX5_readSum_12 rfl hl (by decide) rfl (fun ls hl => ?_)
    exact K13 _ 0 r67 (-1) (o56.2 0) (o56.1 1) (o56.1 2) o68 (o56.1 0) (Nat.le_refl _) h62 h69 (iv_w h61 (by decide) (by decide)) (iv_c (by decide)) hw_r67 (iv_c (by decide)) H locs (hP.sub (ws' := [(a_code, .inl (cs 0, 400, .inl (o56.2 0))), (a, .inr (5, [.ref a_tape, .ref a_code, .int (o56.1 1), .int (o56.1 2)])), (a_tape, .inr (7, [.ref a_tape_bytes, .int a_tape__length, .int o68, .int (o56.1 0)])), (a_tape_bytes, .inl (cs 0, 400, .inl a_tape_bytes_c))]) [0, 1, 2, 3] rfl) (hD.sub (ws' := [(a_code, .inl (cs 0, 400, .inl (o56.2 0))), (a, .inr (5, [.ref a_tape, .ref a_code, .int (o56.1 1), .int (o56.1 2)])), (a_tape, .inr (7, [.ref a_tape_bytes, .int a_tape__length, .int o68, .int (o56.1 0)])), (a_tape_bytes, .inl (cs 0, 400, .inl a_tape_bytes_c))]) [0, 1, 2, 3] (by decide) rfl) hS ls (lv_sub hl [0, 1, 2, 3] rfl)
set_option maxHeartbeats 4000000 in
set_option maxRecDepth 100000 in
theorem c_X7_takeNumber_57 (l : Launch) (D : va_G) (cs : Nat → ClassId) (kK kV : Nat → Nat) (a : Nat) (p1 : Int32) (a_bytes : Nat) (a__length : Int32) (a__place : Int32) (a__fault : Int32) (a_bytes_c : Nat → Int32) (h_p1 : IV (-1) 11 p1) (h_a__length : IV 0 400 a__length) (h_a__place : IV 0 400 a__place) (h_a__fault : IV 0 3205 a__fault) (h_a_bytes_c : CI 400 0 255 a_bytes_c) (sz : Nat) : Met l yX7_takeNumber (hz_w yX7_takeNumber cX7_takeNumber 5 (some .int)) ({ frames := 1, cells := 0, slots := 0, locals := 22 }) (va_Pc [.ref a, .int 0, .int p1] (hz_C D cs kK kV sz [(a, .inr (7, [.ref a_bytes, .int a__length, .int a__place, .int a__fault])), (a_bytes, .inl (cs 0, 400, .inl a_bytes_c))])) (va_Qi (fun (r : Int32) (u : (Nat → Int32) × (Nat → Nat → Int32)) => (IV 0 11 r ∧ IV 0 3205 (u.1 0) ∧ IV 0 11 p1 ∧ IV 0 400 (u.1 1)) ∨ (IV 1 3205 (u.1 0) ∧ IV 0 400 (u.1 1))) (fun u t => va_P D classes [(a, .inr (7, [.ref a_bytes, .int a__length, .int (u.1 1), .int (u.1 0)])), (a_bytes, .inl (cs 0, 400, .inl a_bytes_c))] t.heap ∧ va_D (va_A [(a, .inr (7, [.ref a_bytes, .int a__length, .int a__place, .int a__fault])), (a_bytes, .inl (cs 0, 400, .inl a_bytes_c))] sz) [(a, .inr (7, [.ref a_bytes, .int a__length, .int (u.1 1), .int (u.1 0)])), (a_bytes, .inl (cs 0, 400, .inl a_bytes_c))]) (va_A [(a, .inr (7, [.ref a_bytes, .int a__length, .int a__place, .int a__fault])), (a_bytes, .inl (cs 0, 400, .inl a_bytes_c))] sz)) 0 0 (va_A [(a, .inr (7, [.ref a_bytes, .int a__length, .int a__place, .int a__fault])), (a_bytes, .inl (cs 0, 400, .inl a_bytes_c))] sz) := by
  refine Met.ofW (cc := cX7_takeNumber) (maxL := 5) (ret := (some .int)) (by decide) rfl ?_
  intro p e s m args below meth c s₁ B hml hv
  obtain ⟨rfl, hsz, hP, hD0, hE⟩ := hv
  have hx := B.exec
  have hb := B.bytes
  have hr := B.returns
  have hT : ∀ w ∈ TB, w.before _ s = true := fun w h => atoms_spec (ws := hz_w yX7_takeNumber cX7_takeNumber 5 (some .int)) B.pre w (List.mem_cons_of_mem _ h)
  have hown : s.vm.findClass RX7 = some m.cls := findClass_of_methodNamed B.named
  have hlocks := B.notSynchronized
  clear B
  subst hsz
  have hD := hD0.self (sz := s.heap.size)
  generalize hAe : va_A [(a, .inr (7, [.ref a_bytes, .int a__length, .int a__place, .int a__fault])), (a_bytes, .inl (cs 0, 400, .inl a_bytes_c))] s.heap.size = A at hD hE ⊢
  have hA : ∀ q : Nat, s.heap.size ≤ q → A q := fun q h => by rw [← hAe]; exact Or.inr h
  clear hAe hD0
  have hS : va_S A s.heap s.heap [] := va_S.rf
  have hK := hE.1
  have hl := lv_entry ([.ref a, .int 0, .int p1]) (n := 5) (Nat.le_of_ble_eq_true rfl)
  rw [lg_entry_eq]
  generalize (lg_sl ([.ref a, .int 0, .int p1]) ++ List.replicate (5 - (lg_sl ([.ref a, .int 0, .int p1])).length) Slot.unset).toArray = ls at hl ⊢
  have hl : lv_has ls 5 [(0, .ref a), (1, .int 0), (2, .int p1)] := hl
  obtain ⟨H, eH⟩ : ∃ z, z = s.heap := ⟨_, rfl⟩
  have hP : va_P D classes [(a, .inr (7, [.ref a_bytes, .int a__length, .int a__place, .int a__fault])), (a_bytes, .inl (cs 0, 400, .inl a_bytes_c))] H := by rw [eH]; exact hP
  have hS : va_S A s.heap H [] := by rw [eH]; exact hS
  rw [← eH]
  clear eH
  obtain ⟨locs, el⟩ : ∃ z : List Loc, z = [] := ⟨_, rfl⟩
  rw [← el] at hS ⊢
  clear el
  have K133 : ∀ (k133_L_4 : Int32) (k133_L_3 : Int32) (k133_F_a_2 : Int32), IV 0 400 k133_F_a_2 → IV 0 400 k133_L_3 → ∀ (H : Heap) (locs : List Loc), va_P D classes [(a, .inr (7, [.ref a_bytes, .int a__length, .int k133_F_a_2, .int a__fault])), (a_bytes, .inl (cs 0, 400, .inl a_bytes_c))] H → va_D A [(a, .inr (7, [.ref a_bytes, .int a__length, .int k133_F_a_2, .int a__fault])), (a_bytes, .inl (cs 0, 400, .inl a_bytes_c))] → va_S A s.heap H locs → ∀ ls : Array Slot, lv_has ls 5 [(4, .int k133_L_4), (3, .int k133_L_3), (0, .ref a), (1, .int 0), (2, .int p1)] → W p l e (headSpec (hz_w yX7_takeNumber cX7_takeNumber 5 (some .int)) ({ frames := 1, cells := 0, slots := 0, locals := 22 })).room s m [.ref a, .int 0, .int p1].toArray below meth c H locs 0 0 (MQ below (va_Qi (fun (r : Int32) (u : (Nat → Int32) × (Nat → Nat → Int32)) => (IV 0 11 r ∧ IV 0 3205 (u.1 0) ∧ IV 0 11 p1 ∧ IV 0 400 (u.1 1)) ∨ (IV 1 3205 (u.1 0) ∧ IV 0 400 (u.1 1))) (fun u t => va_P D classes [(a, .inr (7, [.ref a_bytes, .int a__length, .int (u.1 1), .int (u.1 0)])), (a_bytes, .inl (cs 0, 400, .inl a_bytes_c))] t.heap ∧ va_D A [(a, .inr (7, [.ref a_bytes, .int a__length, .int (u.1 1), .int (u.1 0)])), (a_bytes, .inl (cs 0, 400, .inl a_bytes_c))]) A) [.ref a, .int 0, .int p1].toArray s 0 0 A) (F0 m 133 ls []) := by
    intro k133_L_4 k133_L_3 k133_F_a_2 q133_2 q133_3 H locs hP hD hS ls hl
    refine lv_aload_n hx hb dX7_takeNumber_133 rfl (lv_at hl 2 rfl) ?_
    refine lv_iload_n hx hb dX7_takeNumber_134 rfl (lv_at hl 1 rfl) ?_
    refine lv_iconst (v := 1) hx hb dX7_takeNumber_135 (by decide) ?_
    have hFc := va_free (wc := [(a, .inr (7, [.ref a_bytes, .int a__length, .int k133_F_a_2, .int a__fault]))]) hD hS hA [0] rfl
    refine va_callv (va_runV (As := [.int k133_L_3, .int 1]) (rest := []) ⟨hx, hb, hml, hown, hT⟩ (c_X7_fail l D cs kK kV a k133_L_3 1 a_bytes a__length k133_F_a_2 a__fault q133_3 ((iv_c (by decide))) h_a__fault H.size) (cwV 2 hT (hz_gV q_633 q_445 q_446 q_221 q_447) rfl rfl rfl (by decide +kernel) ⟨(Nat.le_of_ble_eq_true rfl), (Nat.le_of_ble_eq_true rfl)⟩) ⟨hz_C.blind, va_recv hK hP (ci := 7) (q0 := 0) rfl rfl, hz_C.mk (hP.sub (ws' := [(a, .inr (7, [.ref a_bytes, .int a__length, .int k133_F_a_2, .int a__fault]))]) [0] rfl) (hD.sub (ws' := [(a, .inr (7, [.ref a_bytes, .int a__length, .int k133_F_a_2, .int a__fault]))]) [0] (by decide) rfl) hE hS hFc⟩ rfl rfl hl.1 rfl (lv_room (Nat.le_of_ble_eq_true rfl)) dX7_takeNumber_136 ⟨(Nat.le_of_ble_eq_true rfl), (Nat.le_of_ble_eq_true rfl)⟩) hS (fun q _ h => hFc q h) hFc (fun o2 t H1 locs ht hvm hw hB hz1 hk1 hS => ?_)
    obtain ⟨hP1, hD1⟩ := hB
    rw [ht] at hP1
    obtain ⟨hP, hD⟩ := va_join (wr := [(a_bytes, .inl (cs 0, 400, .inl a_bytes_c))]) (w1 := [(a, .inr (7, [.ref a_bytes, .int a__length, .int k133_F_a_2, .int (o2.1 0)]))]) hP hD [0] [1] rfl rfl (by decide) (by decide) hk1 hFc hP1 hD1
    generalize H1 = H at hP hS ⊢
    have hP : va_P D classes [(a_bytes, .inl (cs 0, 400, .inl a_bytes_c)), (a, .inr (7, [.ref a_bytes, .int a__length, .int k133_F_a_2, .int (o2.1 0)]))] H := hP
    have hD : va_D A [(a_bytes, .inl (cs 0, 400, .inl a_bytes_c)), (a, .inr (7, [.ref a_bytes, .int a__length, .int k133_F_a_2, .int (o2.1 0)]))] := hD
    clear hk1 hFc hP1 hD1 hz1
    have h3 := hw
    refine lv_iload hx hb dX7_takeNumber_139 (lv_at hl 0 rfl) ?_
    refine W.widen (k := 0) (n := 0) (Nat.le_of_ble_eq_true rfl) (Nat.le_of_ble_eq_true rfl) ?_
    exact W.iret (v := k133_L_4) hx hb hr (fun t ht hW => ⟨⟨k133_L_4, (fun k => match k with | 0 => o2.1 0 | 1 => k133_F_a_2 | _ => 0, fun _ _ => 0), rfl, (Or.inr ((⟨h3, q133_2⟩))), by rw [ht]; exact hP.sub [1, 0] rfl, hD.sub [1, 0] (by decide) rfl⟩, hS.F ht⟩) hS.2.2 dX7_takeNumber_141
  have K94 : ∀ (k94_L_4 : Int32) (k94_L_3 : Int32) (k94_F_a_2 : Int32), IV 0 400 k94_F_a_2 → IV 0 400 k94_L_3 → ∀ (H : Heap) (locs : List Loc), va_P D classes [(a, .inr (7, [.ref a_bytes, .int a__length, .int k94_F_a_2, .int a__fault])), (a_bytes, .inl (cs 0, 400, .inl a_bytes_c))] H → va_D A [(a, .inr (7, [.ref a_bytes, .int a__length, .int k94_F_a_2, .int a__fault])), (a_bytes, .inl (cs 0, 400, .inl a_bytes_c))] → va_S A s.heap H locs → ∀ ls : Array Slot, lv_has ls 5 [(4, .int k94_L_4), (3, .int k94_L_3), (0, .ref a), (1, .int 0), (2, .int p1)] → W p l e (headSpec (hz_w yX7_takeNumber cX7_takeNumber 5 (some .int)) ({ frames := 1, cells := 0, slots := 0, locals := 22 })).room s m [.ref a, .int 0, .int p1].toArray below meth c H locs 0 0 (MQ below (va_Qi (fun (r : Int32) (u : (Nat → Int32) × (Nat → Nat → Int32)) => (IV 0 11 r ∧ IV 0 3205 (u.1 0) ∧ IV 0 11 p1 ∧ IV 0 400 (u.1 1)) ∨ (IV 1 3205 (u.1 0) ∧ IV 0 400 (u.1 1))) (fun u t => va_P D classes [(a, .inr (7, [.ref a_bytes, .int a__length, .int (u.1 1), .int (u.1 0)])), (a_bytes, .inl (cs 0, 400, .inl a_bytes_c))] t.heap ∧ va_D A [(a, .inr (7, [.ref a_bytes, .int a__length, .int (u.1 1), .int (u.1 0)])), (a_bytes, .inl (cs 0, 400, .inl a_bytes_c))]) A) [.ref a, .int 0, .int p1].toArray s 0 0 A) (F0 m 94 ls []) := by
    intro k94_L_4 k94_L_3 k94_F_a_2 q94_2 q94_3 H locs hP hD hS ls hl
    refine lv_aload_n hx hb dX7_takeNumber_94 rfl (lv_at hl 2 rfl) ?_
    refine va_get (D := D) (ci := 7) (v := .int k94_F_a_2) (C := RX7) (T := TX7) (N := 4) hx hb hT i_X7 hown hK hP 0 rfl rfl 2 (by decide) (hT _ q_129) (fun _ h9 => h9) rfl dX7_takeNumber_95 ?_
    refine lv_iload_n hx hb dX7_takeNumber_98 rfl (lv_at hl 1 rfl) ?_
    refine lv_icmp_ne (tgt := 111) hx hb dX7_takeNumber_99 (by decide) (fun c4 => ?_) (fun c4 => ?_)
    · refine lv_aload_n hx hb dX7_takeNumber_111 rfl (lv_at hl 2 rfl) ?_
      refine va_get (D := D) (ci := 7) (v := .int k94_F_a_2) (C := RX7) (T := TX7) (N := 4) hx hb hT i_X7 hown hK hP 0 rfl rfl 2 (by decide) (hT _ q_129) (fun _ h9 => h9) rfl dX7_takeNumber_112 ?_
      refine lv_iload_n hx hb dX7_takeNumber_115 rfl (lv_at hl 1 rfl) ?_
      refine lv_isub hx hb dX7_takeNumber_116 ?_
      refine lv_topi (fun v5 ev5 => ?_)
      have hv5 : IV (-400) 400 v5 := iv_sub ev5 q94_2 q94_3 (by decide) (by decide)
      refine lv_iconst (v := 5) hx hb dX7_takeNumber_117 (by decide) ?_
      refine lv_icmp_gt (tgt := 133) hx hb dX7_takeNumber_118 (by decide) (fun c6 => ?_) (fun c6 => ?_)
      · have h7 : IV 6 400 v5 := iv_lt2 c6 (iv_c (a := 5) (b := 5) (by decide)) hv5 (by decide)
        exact K133 k94_L_4 k94_L_3 k94_F_a_2 q94_2 q94_3 H locs (hP.sub (ws' := [(a, .inr (7, [.ref a_bytes, .int a__length, .int k94_F_a_2, .int a__fault])), (a_bytes, .inl (cs 0, 400, .inl a_bytes_c))]) [0, 1] rfl) (hD.sub (ws' := [(a, .inr (7, [.ref a_bytes, .int a__length, .int k94_F_a_2, .int a__fault])), (a_bytes, .inl (cs 0, 400, .inl a_bytes_c))]) [0, 1] (by decide) rfl) hS ls (lv_sub hl [0, 1, 2, 3, 4] rfl)
      · have h8 : IV (-400) 5 v5 := iv_le1 (Int32.not_lt.mp c6) hv5 (iv_c (a := 5) (b := 5) (by decide)) (by decide)
        refine lv_iload hx hb dX7_takeNumber_121 (lv_at hl 0 rfl) ?_
        refine lv_iload_n hx hb dX7_takeNumber_123 rfl (lv_at hl 3 rfl) ?_
        refine lv_icmp_lt (tgt := 133) hx hb dX7_takeNumber_124 (by decide) (fun c9 => ?_) (fun c9 => ?_)
        · have h10 : IV (-2147483648) (-1) k94_L_4 := iv_lt1 c9 iv_top (iv_c (a := 0) (b := 0) (by decide)) (by decide)
          exact K133 k94_L_4 k94_L_3 k94_F_a_2 q94_2 q94_3 H locs (hP.sub (ws' := [(a, .inr (7, [.ref a_bytes, .int a__length, .int k94_F_a_2, .int a__fault])), (a_bytes, .inl (cs 0, 400, .inl a_bytes_c))]) [0, 1] rfl) (hD.sub (ws' := [(a, .inr (7, [.ref a_bytes, .int a__length, .int k94_F_a_2, .int a__fault])), (a_bytes, .inl (cs 0, 400, .inl a_bytes_c))]) [0, 1] (by decide) rfl) hS ls (lv_sub hl [0, 1, 2, 3, 4] rfl)
        · have h11 : IV 0 2147483647 k94_L_4 := iv_le2 (Int32.not_lt.mp c9) (iv_c (a := 0) (b := 0) (by decide)) iv_top (by decide)
          refine lv_iload hx hb dX7_takeNumber_127 (lv_at hl 0 rfl) ?_
          refine lv_iload_n hx hb dX7_takeNumber_129 rfl (lv_at hl 4 rfl) ?_
          refine lv_icmp_le (tgt := 139) hx hb dX7_takeNumber_130 (by decide) (fun c12 => ?_) (fun c12 => ?_)
          · have h13 : IV 0 11 k94_L_4 := iv_le1 c12 h11 h_p1 (by decide)
            have h14 : IV 0 11 p1 := iv_le2 c12 h11 h_p1 (by decide)
            refine lv_iload hx hb dX7_takeNumber_139 (lv_at hl 0 rfl) ?_
            refine W.widen (k := 0) (n := 0) (Nat.le_of_ble_eq_true rfl) (Nat.le_of_ble_eq_true rfl) ?_
            exact W.iret (v := k94_L_4) hx hb hr (fun t ht hW => ⟨⟨k94_L_4, (fun k => match k with | 0 => a__fault | 1 => k94_F_a_2 | _ => 0, fun _ _ => 0), rfl, (Or.inl (⟨h13, h_a__fault, h14, q94_2⟩)), by rw [ht]; exact hP.sub [0, 1] rfl, hD.sub [0, 1] (by decide) rfl⟩, hS.F ht⟩) hS.2.2 dX7_takeNumber_141
          · exact K133 k94_L_4 k94_L_3 k94_F_a_2 q94_2 q94_3 H locs (hP.sub (ws' := [(a, .inr (7, [.ref a_bytes, .int a__length, .int k94_F_a_2, .int a__fault])), (a_bytes, .inl (cs 0, 400, .inl a_bytes_c))]) [0, 1] rfl) (hD.sub (ws' := [(a, .inr (7, [.ref a_bytes, .int a__length, .int k94_F_a_2, .int a__fault])), (a_bytes, .inl (cs 0, 400, .inl a_bytes_c))]) [0, 1] (by decide) rfl) hS ls (lv_sub hl [0, 1, 2, 3, 4] rfl)
    · refine lv_aload_n hx hb dX7_takeNumber_102 rfl (lv_at hl 2 rfl) ?_
      refine lv_iload_n hx hb dX7_takeNumber_103 rfl (lv_at hl 1 rfl) ?_
      refine lv_iconst (v := 0) hx hb dX7_takeNumber_104 (by decide) ?_
      have hFc := va_free (wc := [(a, .inr (7, [.ref a_bytes, .int a__length, .int k94_F_a_2, .int a__fault]))]) hD hS hA [0] rfl
      refine va_callv (va_runV (As := [.int k94_L_3, .int 0]) (rest := []) ⟨hx, hb, hml, hown, hT⟩ (c_X7_fail l D cs kK kV a k94_L_3 0 a_bytes a__length k94_F_a_2 a__fault q94_3 ((iv_c (by decide))) h_a__fault H.size) (cwV 2 hT (hz_gV q_633 q_445 q_446 q_221 q_447) rfl rfl rfl (by decide +kernel) ⟨(Nat.le_of_ble_eq_true rfl), (Nat.le_of_ble_eq_true rfl)⟩) ⟨hz_C.blind, va_recv hK hP (ci := 7) (q0 := 0) rfl rfl, hz_C.mk (hP.sub (ws' := [(a, .inr (7, [.ref a_bytes, .int a__length, .int k94_F_a_2, .int a__fault]))]) [0] rfl) (hD.sub (ws' := [(a, .inr (7, [.ref a_bytes, .int a__length, .int k94_F_a_2, .int a__fault]))]) [0] (by decide) rfl) hE hS hFc⟩ rfl rfl hl.1 rfl (lv_room (Nat.le_of_ble_eq_true rfl)) dX7_takeNumber_105 ⟨(Nat.le_of_ble_eq_true rfl), (Nat.le_of_ble_eq_true rfl)⟩) hS (fun q _ h => hFc q h) hFc (fun o16 t H1 locs ht hvm hw hB hz1 hk1 hS => ?_)
      obtain ⟨hP1, hD1⟩ := hB
      rw [ht] at hP1
      obtain ⟨hP, hD⟩ := va_join (wr := [(a_bytes, .inl (cs 0, 400, .inl a_bytes_c))]) (w1 := [(a, .inr (7, [.ref a_bytes, .int a__length, .int k94_F_a_2, .int (o16.1 0)]))]) hP hD [0] [1] rfl rfl (by decide) (by decide) hk1 hFc hP1 hD1
      generalize H1 = H at hP hS ⊢
      have hP : va_P D classes [(a_bytes, .inl (cs 0, 400, .inl a_bytes_c)), (a, .inr (7, [.ref a_bytes, .int a__length, .int k94_F_a_2, .int (o16.1 0)]))] H := hP
      have hD : va_D A [(a_bytes, .inl (cs 0, 400, .inl a_bytes_c)), (a, .inr (7, [.ref a_bytes, .int a__length, .int k94_F_a_2, .int (o16.1 0)]))] := hD
      clear hk1 hFc hP1 hD1 hz1
      have h17 := hw
      refine lv_goto (tgt := 139) hx hb dX7_takeNumber_108 (by decide) ?_
      refine lv_iload hx hb dX7_takeNumber_139 (lv_at hl 0 rfl) ?_
      refine W.widen (k := 0) (n := 0) (Nat.le_of_ble_eq_true rfl) (Nat.le_of_ble_eq_true rfl) ?_
      exact W.iret (v := k94_L_4) hx hb hr (fun t ht hW => ⟨⟨k94_L_4, (fun k => match k with | 0 => o16.1 0 | 1 => k94_F_a_2 | _ => 0, fun _ _ => 0), rfl, (Or.inr ((⟨h17, q94_2⟩))), by rw [ht]; exact hP.sub [1, 0] rfl, hD.sub [1, 0] (by decide) rfl⟩, hS.F ht⟩) hS.2.2 dX7_takeNumber_141
  have K12 : ∀ (n : Nat) (k12_L_4 : Int32) (k12_L_3 : Int32) (k12_F_a_2 : Int32), (400 - k12_F_a_2.toInt + 1).toNat ≤ n → IV 0 400 k12_F_a_2 → IV 0 400 k12_L_3 → ∀ (H : Heap) (locs : List Loc), va_P D classes [(a, .inr (7, [.ref a_bytes, .int a__length, .int k12_F_a_2, .int a__fault])), (a_bytes, .inl (cs 0, 400, .inl a_bytes_c))] H → va_D A [(a, .inr (7, [.ref a_bytes, .int a__length, .int k12_F_a_2, .int a__fault])), (a_bytes, .inl (cs 0, 400, .inl a_bytes_c))] → va_S A s.heap H locs → ∀ ls : Array Slot, lv_has ls 5 [(4, .int k12_L_4), (3, .int k12_L_3), (0, .ref a), (1, .int 0), (2, .int p1)] → W p l e (headSpec (hz_w yX7_takeNumber cX7_takeNumber 5 (some .int)) ({ frames := 1, cells := 0, slots := 0, locals := 22 })).room s m [.ref a, .int 0, .int p1].toArray below meth c H locs 0 0 (MQ below (va_Qi (fun (r : Int32) (u : (Nat → Int32) × (Nat → Nat → Int32)) => (IV 0 11 r ∧ IV 0 3205 (u.1 0) ∧ IV 0 11 p1 ∧ IV 0 400 (u.1 1)) ∨ (IV 1 3205 (u.1 0) ∧ IV 0 400 (u.1 1))) (fun u t => va_P D classes [(a, .inr (7, [.ref a_bytes, .int a__length, .int (u.1 1), .int (u.1 0)])), (a_bytes, .inl (cs 0, 400, .inl a_bytes_c))] t.heap ∧ va_D A [(a, .inr (7, [.ref a_bytes, .int a__length, .int (u.1 1), .int (u.1 0)])), (a_bytes, .inl (cs 0, 400, .inl a_bytes_c))]) A) [.ref a, .int 0, .int p1].toArray s 0 0 A) (F0 m 12 ls []) := by
    intro n
    induction n with
    | zero =>
      intro k12_L_4 k12_L_3 k12_F_a_2 hn q12_2 q12_3 H locs hP hD hS ls hl
      exact absurd hn (by unfold IV at q12_2; omega)
    | succ n ih12 =>
      intro k12_L_4 k12_L_3 k12_F_a_2 hn q12_2 q12_3 H locs hP hD hS ls hl
      have K81 : ∀ (k81_L_4 : Int32), IV 1 400 a__length → IV 0 399 k12_F_a_2 → IV 0 400 k12_L_3 → ∀ (H : Heap) (locs : List Loc), va_P D classes [(a, .inr (7, [.ref a_bytes, .int a__length, .int k12_F_a_2, .int a__fault])), (a_bytes, .inl (cs 0, 400, .inl a_bytes_c))] H → va_D A [(a, .inr (7, [.ref a_bytes, .int a__length, .int k12_F_a_2, .int a__fault])), (a_bytes, .inl (cs 0, 400, .inl a_bytes_c))] → va_S A s.heap H locs → ∀ ls : Array Slot, lv_has ls 5 [(4, .int k81_L_4), (3, .int k12_L_3), (0, .ref a), (1, .int 0), (2, .int p1)] → W p l e (headSpec (hz_w yX7_takeNumber cX7_takeNumber 5 (some .int)) ({ frames := 1, cells := 0, slots := 0, locals := 22 })).room s m [.ref a, .int 0, .int p1].toArray below meth c H locs 0 0 (MQ below (va_Qi (fun (r : Int32) (u : (Nat → Int32) × (Nat → Nat → Int32)) => (IV 0 11 r ∧ IV 0 3205 (u.1 0) ∧ IV 0 11 p1 ∧ IV 0 400 (u.1 1)) ∨ (IV 1 3205 (u.1 0) ∧ IV 0 400 (u.1 1))) (fun u t => va_P D classes [(a, .inr (7, [.ref a_bytes, .int a__length, .int (u.1 1), .int (u.1 0)])), (a_bytes, .inl (cs 0, 400, .inl a_bytes_c))] t.heap ∧ va_D A [(a, .inr (7, [.ref a_bytes, .int a__length, .int (u.1 1), .int (u.1 0)])), (a_bytes, .inl (cs 0, 400, .inl a_bytes_c))]) A) [.ref a, .int 0, .int p1].toArray s 0 0 A) (F0 m 81 ls []) := by
        intro k81_L_4 q81_1 q81_2 q81_3 H locs hP hD hS ls hl
        refine lv_aload_n hx hb dX7_takeNumber_81 rfl (lv_at hl 2 rfl) ?_
        refine lv_dup hx hb dX7_takeNumber_82 rfl ?_
        refine va_get (D := D) (ci := 7) (v := .int k12_F_a_2) (C := RX7) (T := TX7) (N := 4) hx hb hT i_X7 hown hK hP 0 rfl rfl 2 (by decide) (hT _ q_129) (fun _ h9 => h9) rfl dX7_takeNumber_83 ?_
        refine lv_iconst (v := 1) hx hb dX7_takeNumber_86 (by decide) ?_
        refine lv_iadd hx hb dX7_takeNumber_87 ?_
        refine lv_topi (fun v18 ev18 => ?_)
        have hv18 : IV 1 400 v18 := iv_add ev18 q81_2 (iv_c (a := 1) (b := 1) (by decide)) (by decide) (by decide)
        have dv18 : v18.toInt = k12_F_a_2.toInt + 1 := iv_addE ev18 q81_2 (iv_c (a := 1) (b := 1) (by decide)) (by decide) (by decide) (by decide)
        refine va_put (D := D) (ci := 7) (v := .int v18) (ty := .int) (C := RX7) (T := TX7) (N := 4) hx hb hT i_X7 tyX7 tyX7_ok nmX7 hown hK hP hD hS 0 rfl rfl 2 (by decide) (hT _ q_129) (fun _ h9 => h9) rfl (by decide +kernel) rfl rfl (Nat.le_of_ble_eq_true rfl) dX7_takeNumber_88 (fun H locs hP hD hS => ?_)
        have hP : va_P D classes [(a, .inr (7, [.ref a_bytes, .int a__length, .int v18, .int a__fault])), (a_bytes, .inl (cs 0, 400, .inl a_bytes_c))] H := hP
        have hD : va_D A [(a, .inr (7, [.ref a_bytes, .int a__length, .int v18, .int a__fault])), (a_bytes, .inl (cs 0, 400, .inl a_bytes_c))] := hD
        refine lv_goto (tgt := 12) hx hb dX7_takeNumber_91 (by decide) ?_
        exact ih12 k81_L_4 k12_L_3 v18 (by have h9 := q81_2; unfold IV at h9; have := dv18; omega) (iv_w hv18 (by decide) (by decide)) q81_3 H locs (hP.sub (ws' := [(a, .inr (7, [.ref a_bytes, .int a__length, .int v18, .int a__fault])), (a_bytes, .inl (cs 0, 400, .inl a_bytes_c))]) [0, 1] rfl) (hD.sub (ws' := [(a, .inr (7, [.ref a_bytes, .int a__length, .int v18, .int a__fault])), (a_bytes, .inl (cs 0, 400, .inl a_bytes_c))]) [0, 1] (by decide) rfl) hS ls (lv_sub hl [0, 1, 2, 3, 4] rfl)
      refine lv_aload_n hx hb dX7_takeNumber_12 rfl (lv_at hl 2 rfl) ?_
      refine va_get (D := D) (ci := 7) (v := .int k12_F_a_2) (C := RX7) (T := TX7) (N := 4) hx hb hT i_X7 hown hK hP 0 rfl rfl 2 (by decide) (hT _ q_129) (fun _ h9 => h9) rfl dX7_takeNumber_13 ?_
      refine lv_aload_n hx hb dX7_takeNumber_16 rfl (lv_at hl 2 rfl) ?_
      refine va_get (D := D) (ci := 7) (v := .int a__length) (C := RX7) (T := TX7) (N := 4) hx hb hT i_X7 hown hK hP 0 rfl rfl 1 (by decide) (hT _ q_128) (fun _ h9 => h9) rfl dX7_takeNumber_17 ?_
      refine lv_icmp_ge (tgt := 94) hx hb dX7_takeNumber_20 (by decide) (fun c19 => ?_) (fun c19 => ?_)
      · exact K94 k12_L_4 k12_L_3 k12_F_a_2 q12_2 q12_3 H locs (hP.sub (ws' := [(a, .inr (7, [.ref a_bytes, .int a__length, .int k12_F_a_2, .int a__fault])), (a_bytes, .inl (cs 0, 400, .inl a_bytes_c))]) [0, 1] rfl) (hD.sub (ws' := [(a, .inr (7, [.ref a_bytes, .int a__length, .int k12_F_a_2, .int a__fault])), (a_bytes, .inl (cs 0, 400, .inl a_bytes_c))]) [0, 1] (by decide) rfl) hS ls (lv_sub hl [0, 1, 2, 3, 4] rfl)
      · have h20 : IV 0 399 k12_F_a_2 := iv_lt1 (Int32.not_le.mp c19) q12_2 h_a__length (by decide)
        have h21 : IV 1 400 a__length := iv_lt2 (Int32.not_le.mp c19) q12_2 h_a__length (by decide)
        refine lv_aload_n hx hb dX7_takeNumber_23 rfl (lv_at hl 2 rfl) ?_
        refine va_get (D := D) (ci := 7) (v := .ref a_bytes) (C := RX7) (T := TX7) (N := 4) hx hb hT i_X7 hown hK hP 0 rfl rfl 0 (by decide) (hT _ q_127) (fun _ h9 => h9) rfl dX7_takeNumber_24 ?_
        refine lv_aload_n hx hb dX7_takeNumber_27 rfl (lv_at hl 2 rfl) ?_
        refine va_get (D := D) (ci := 7) (v := .int k12_F_a_2) (C := RX7) (T := TX7) (N := 4) hx hb hT i_X7 hown hK hP 0 rfl rfl 2 (by decide) (hT _ q_129) (fun _ h9 => h9) rfl dX7_takeNumber_28 ?_
        refine va_iald hx hb hK hP 1 0 rfl rfl (iv_v h20 (by decide) (by decide)) dX7_takeNumber_31 ?_
        refine lv_topi (fun v22 ev22 => ?_)
        have hv22 : IV 0 255 v22 := iv_ci ev22 h_a_bytes_c (iv_v h20 (by decide) (by decide))
        refine lv_bipush (v := 48) hx hb dX7_takeNumber_32 (by decide) ?_
        refine lv_icmp_lt (tgt := 94) hx hb dX7_takeNumber_34 (by decide) (fun c23 => ?_) (fun c23 => ?_)
        · have h24 : IV 0 47 v22 := iv_lt1 c23 hv22 (iv_c (a := 48) (b := 48) (by decide)) (by decide)
          exact K94 k12_L_4 k12_L_3 k12_F_a_2 (iv_w h20 (by decide) (by decide)) q12_3 H locs (hP.sub (ws' := [(a, .inr (7, [.ref a_bytes, .int a__length, .int k12_F_a_2, .int a__fault])), (a_bytes, .inl (cs 0, 400, .inl a_bytes_c))]) [0, 1] rfl) (hD.sub (ws' := [(a, .inr (7, [.ref a_bytes, .int a__length, .int k12_F_a_2, .int a__fault])), (a_bytes, .inl (cs 0, 400, .inl a_bytes_c))]) [0, 1] (by decide) rfl) hS ls (lv_sub hl [0, 1, 2, 3, 4] rfl)
        · have h25 : IV 48 255 v22 := iv_le2 (Int32.not_lt.mp c23) (iv_c (a := 48) (b := 48) (by decide)) hv22 (by decide)
          refine lv_aload_n hx hb dX7_takeNumber_37 rfl (lv_at hl 2 rfl) ?_
          refine va_get (D := D) (ci := 7) (v := .ref a_bytes) (C := RX7) (T := TX7) (N := 4) hx hb hT i_X7 hown hK hP 0 rfl rfl 0 (by decide) (hT _ q_127) (fun _ h9 => h9) rfl dX7_takeNumber_38 ?_
          refine lv_aload_n hx hb dX7_takeNumber_41 rfl (lv_at hl 2 rfl) ?_
          refine va_get (D := D) (ci := 7) (v := .int k12_F_a_2) (C := RX7) (T := TX7) (N := 4) hx hb hT i_X7 hown hK hP 0 rfl rfl 2 (by decide) (hT _ q_129) (fun _ h9 => h9) rfl dX7_takeNumber_42 ?_
          refine va_iald hx hb hK hP 1 0 rfl rfl (iv_v h20 (by decide) (by decide)) dX7_takeNumber_45 ?_
          refine hz_ev v22 ev22.symm ?_
          refine lv_bipush (v := 57) hx hb dX7_takeNumber_46 (by decide) ?_
          refine lv_icmp_gt (tgt := 94) hx hb dX7_takeNumber_48 (by decide) (fun c26 => ?_) (fun c26 => ?_)
          · have h27 : IV 58 255 v22 := iv_lt2 c26 (iv_c (a := 57) (b := 57) (by decide)) h25 (by decide)
            exact K94 k12_L_4 k12_L_3 k12_F_a_2 (iv_w h20 (by decide) (by decide)) q12_3 H locs (hP.sub (ws' := [(a, .inr (7, [.ref a_bytes, .int a__length, .int k12_F_a_2, .int a__fault])), (a_bytes, .inl (cs 0, 400, .inl a_bytes_c))]) [0, 1] rfl) (hD.sub (ws' := [(a, .inr (7, [.ref a_bytes, .int a__length, .int k12_F_a_2, .int a__fault])), (a_bytes, .inl (cs 0, 400, .inl a_bytes_c))]) [0, 1] (by decide) rfl) hS ls (lv_sub hl [0, 1, 2, 3, 4] rfl)
          · have h28 : IV 48 57 v22 := iv_le1 (Int32.not_lt.mp c26) h25 (iv_c (a := 57) (b := 57) (by decide)) (by decide)
            refine lv_aload_n hx hb dX7_takeNumber_51 rfl (lv_at hl 2 rfl) ?_
            refine va_get (D := D) (ci := 7) (v := .int k12_F_a_2) (C := RX7) (T := TX7) (N := 4) hx hb hT i_X7 hown hK hP 0 rfl rfl 2 (by decide) (hT _ q_129) (fun _ h9 => h9) rfl dX7_takeNumber_52 ?_
            refine lv_iload_n hx hb dX7_takeNumber_55 rfl (lv_at hl 1 rfl) ?_
            refine lv_isub hx hb dX7_takeNumber_56 ?_
            refine lv_topi (fun v29 ev29 => ?_)
            have hv29 : IV (-400) 399 v29 := iv_sub ev29 h20 q12_3 (by decide) (by decide)
            refine lv_iconst (v := 5) hx hb dX7_takeNumber_57 (by decide) ?_
            refine lv_icmp_ge (tgt := 81) hx hb dX7_takeNumber_58 (by decide) (fun c30 => ?_) (fun c30 => ?_)
            · have h31 : IV 5 399 v29 := iv_le2 c30 (iv_c (a := 5) (b := 5) (by decide)) hv29 (by decide)
              exact K81 k12_L_4 h21 h20 q12_3 H locs (hP.sub (ws' := [(a, .inr (7, [.ref a_bytes, .int a__length, .int k12_F_a_2, .int a__fault])), (a_bytes, .inl (cs 0, 400, .inl a_bytes_c))]) [0, 1] rfl) (hD.sub (ws' := [(a, .inr (7, [.ref a_bytes, .int a__length, .int k12_F_a_2, .int a__fault])), (a_bytes, .inl (cs 0, 400, .inl a_bytes_c))]) [0, 1] (by decide) rfl) hS ls (lv_sub hl [0, 1, 2, 3, 4] rfl)
            · have h32 : IV (-400) 4 v29 := iv_lt1 (Int32.not_le.mp c30) hv29 (iv_c (a := 5) (b := 5) (by decide)) (by decide)
              refine lv_iload hx hb dX7_takeNumber_61 (lv_at hl 0 rfl) ?_
              refine lv_bipush (v := 10) hx hb dX7_takeNumber_63 (by decide) ?_
              refine lv_imul hx hb dX7_takeNumber_65 ?_
              refine lv_topi (fun v33 ev33 => ?_)
              refine lv_aload_n hx hb dX7_takeNumber_66 rfl (lv_at hl 2 rfl) ?_
              refine va_get (D := D) (ci := 7) (v := .ref a_bytes) (C := RX7) (T := TX7) (N := 4) hx hb hT i_X7 hown hK hP 0 rfl rfl 0 (by decide) (hT _ q_127) (fun _ h9 => h9) rfl dX7_takeNumber_67 ?_
              refine lv_aload_n hx hb dX7_takeNumber_70 rfl (lv_at hl 2 rfl) ?_
              refine va_get (D := D) (ci := 7) (v := .int k12_F_a_2) (C := RX7) (T := TX7) (N := 4) hx hb hT i_X7 hown hK hP 0 rfl rfl 2 (by decide) (hT _ q_129) (fun _ h9 => h9) rfl dX7_takeNumber_71 ?_
              refine va_iald hx hb hK hP 1 0 rfl rfl (iv_v h20 (by decide) (by decide)) dX7_takeNumber_74 ?_
              refine hz_ev v22 ev22.symm ?_
              refine lv_iadd hx hb dX7_takeNumber_75 ?_
              refine lv_topi (fun v34 ev34 => ?_)
              refine lv_bipush (v := 48) hx hb dX7_takeNumber_76 (by decide) ?_
              refine lv_isub hx hb dX7_takeNumber_78 ?_
              refine lv_topi (fun v35 ev35 => ?_)
              refine lv_istore (lv' := [(4, .int v35), (3, .int k12_L_3), (0, .ref a), (1, .int 0), (2, .int p1)]) hx hb dX7_takeNumber_79 hl (by decide) rfl (fun ls hl => ?_)
              exact K81 v35 h21 h20 q12_3 H locs (hP.sub (ws' := [(a, .inr (7, [.ref a_bytes, .int a__length, .int k12_F_a_2, .int a__fault])), (a_bytes, .inl (cs 0, 400, .inl a_bytes_c))]) [0, 1] rfl) (hD.sub (ws' := [(a, .inr (7, [.ref a_bytes, .int a__length, .int k12_F_a_2, .int a__fault])), (a_bytes, .inl (cs 0, 400, .inl a_bytes_c))]) [0, 1] (by decide) rfl) hS ls (lv_sub hl [0, 1, 2, 3, 4] rfl)
  refine lv_aload_n hx hb dX7_takeNumber_0 rfl (lv_at hl 0 rfl) ?_
  have hFc := va_free (wc := [(a, .inr (7, [.ref a_bytes, .int a__length, .int a__place, .int a__fault])), (a_bytes, .inl (cs 0, 400, .inl a_bytes_c))]) hD hS hA [0,1] rfl
  refine va_callv (va_runV (As := []) (rest := []) ⟨hx, hb, hml, hown, hT⟩ (c_X7_skipBlanks l D cs kK kV a a_bytes a__length a__place a__fault a_bytes_c h_a__length h_a__place h_a_bytes_c H.size) (cwV 0 hT (hz_gV q_631 q_437 q_438 q_221 q_439) rfl rfl rfl (by decide +kernel) ⟨(Nat.le_of_ble_eq_true rfl), (Nat.le_of_ble_eq_true rfl)⟩) ⟨hz_C.blind, va_recv hK hP (ci := 7) (q0 := 0) rfl rfl, hz_C.mk (hP.sub (ws' := [(a, .inr (7, [.ref a_bytes, .int a__length, .int a__place, .int a__fault])), (a_bytes, .inl (cs 0, 400, .inl a_bytes_c))]) [0,1] rfl) (hD.sub (ws' := [(a, .inr (7, [.ref a_bytes, .int a__length, .int a__place, .int a__fault])), (a_bytes, .inl (cs 0, 400, .inl a_bytes_c))]) [0,1] (by decide) rfl) hE hS hFc⟩ rfl rfl hl.1 rfl (lv_room (Nat.le_of_ble_eq_true rfl)) dX7_takeNumber_1 ⟨(Nat.le_of_ble_eq_true rfl), (Nat.le_of_ble_eq_true rfl)⟩) hS (fun q _ h => hFc q h) hFc (fun u t H1 locs ht hvm hw hB hz1 hk1 hS => ?_)
  obtain ⟨o37, h38, hP1, hD1⟩ := hB
  rw [ht] at hP1
  obtain ⟨hP, hD⟩ := va_join (wr := []) (w1 := [(a, .inr (7, [.ref a_bytes, .int a__length, .int o37, .int a__fault])), (a_bytes, .inl (cs 0, 400, .inl a_bytes_c))]) hP hD [0, 1] [] rfl rfl (by decide) (by decide) hk1 hFc hP1 hD1
  generalize H1 = H at hP hS ⊢
  have hP : va_P D classes [(a, .inr (7, [.ref a_bytes, .int a__length, .int o37, .int a__fault])), (a_bytes, .inl (cs 0, 400, .inl a_bytes_c))] H := hP
  have hD : va_D A [(a, .inr (7, [.ref a_bytes, .int a__length, .int o37, .int a__fault])), (a_bytes, .inl (cs 0, 400, .inl a_bytes_c))] := hD
  clear hk1 hFc hP1 hD1 hz1
  refine lv_aload_n hx hb dX7_takeNumber_4 rfl (lv_at hl 0 rfl) ?_
  refine va_get (D := D) (ci := 7) (v := .int o37) (C := RX7) (T := TX7) (N := 4) hx hb hT i_X7 hown hK hP 0 rfl rfl 2 (by decide) (hT _ q_129) (fun _ h9 => h9) rfl dX7_takeNumber_5 ?_
  refine lv_istore_n (lv' := [(3, .int o37), (0, .ref a), (1, .int 0), (2, .int p1)]) hx hb dX7_takeNumber_8 rfl hl (by decide) rfl (fun ls hl => ?_)
  refine lv_iconst (v := 0) hx hb dX7_takeNumber_9 (by decide) ?_
  refine lv_istore (lv' := [(4, .int 0), (3, .int o37), (0, .ref a), (1, .int 0), (2, .int p1)]) hx hb dX7_takeNumber_10 hl (by decide) rfl (fun ls hl => ?_)
  exact K12 _ 0 o37 o37 (Nat.le_refl _) h38 h38 H locs (hP.sub (ws' := [(a, .inr (7, [.ref a_bytes, .int a__length, .int o37, .int a__fault])), (a_bytes, .inl (cs 0, 400, .inl a_bytes_c))]) [0, 1] rfl) (hD.sub (ws' := [(a, .inr (7, [.ref a_bytes, .int a__length, .int o37, .int a__fault])), (a_bytes, .inl (cs 0, 400, .inl a_bytes_c))]) [0, 1] (by decide) rfl) hS ls (lv_sub hl [0, 1, 2, 3, 4] rfl)
theorem dX0_numberTold_0 : decode cX0_numberTold 0 = .ok (.aload_n 0, 1) := by decide +kernel
theorem dX0_numberTold_1 : decode cX0_numberTold 1 = .ok (.getfield 9, 3) := by decide +kernel
theorem dX0_numberTold_4 : decode cX0_numberTold 4 = .ok (.invokevirtual 31, 3) := by decide +kernel
theorem dX0_numberTold_7 : decode cX0_numberTold 7 = .ok (.ifCond .eq 15, 3) := by decide +kernel
theorem dX0_numberTold_10 : decode cX0_numberTold 10 = .ok (.aload_n 0, 1) := by decide +kernel
theorem dX0_numberTold_11 : decode cX0_numberTold 11 = .ok (.getfield 9, 3) := by decide +kernel
theorem dX0_numberTold_14 : decode cX0_numberTold 14 = .ok (.iload_n 1, 1) := by decide +kernel
theorem dX0_numberTold_15 : decode cX0_numberTold 15 = .ok (.iload_n 2, 1) := by decide +kernel
theorem dX0_numberTold_16 : decode cX0_numberTold 16 = .ok (.invokevirtual 105, 3) := by decide +kernel
theorem dX0_numberTold_19 : decode cX0_numberTold 19 = .ok (.goto 4, 3) := by decide +kernel
theorem dX0_numberTold_22 : decode cX0_numberTold 22 = .ok (.iload_n 1, 1) := by decide +kernel
theorem dX0_numberTold_23 : decode cX0_numberTold 23 = .ok (.ireturn, 1) := by decide +kernel
set_option maxHeartbeats 4000000 in
set_option maxRecDepth 100000 in
theorem c_X0_numberTold_56 (l : Launch) (D : va_G) (cs : Nat → ClassId) (kK kV : Nat → Nat) (a : Nat) (p1 : Int32) (a_tape : Nat) (a_told : Nat) (a__kindsTold : Int32) (a_tape_bytes : Nat) (a_tape__length : Int32) (a_tape__place : Int32) (a_tape__fault : Int32) (a_tape_bytes_c : Nat → Int32) (h_p1 : IV (-1) 11 p1) (h_a_tape__length : IV 0 400 a_tape__length) (h_a_tape__place : IV 0 400 a_tape__place) (h_a_tape__fault : IV 0 3205 a_tape__fault) (h_a_tape_bytes_c : CI 400 0 255 a_tape_bytes_c) (sz : Nat) : Met l yX0_numberTold (hz_w yX0_numberTold cX0_numberTold 3 (some .int)) ({ frames := 2, cells := 0, slots := 0, locals := 46 }) (va_Pc [.ref a, .int 0, .int p1] (hz_C D cs kK kV sz [(a, .inr (0, [.ref a_tape, .ref a_told, .int a__kindsTold])), (a_tape, .inr (7, [.ref a_tape_bytes, .int a_tape__length, .int a_tape__place, .int a_tape__fault])), (a_tape_bytes, .inl (cs 0, 400, .inl a_tape_bytes_c))])) (va_Qi (fun (r : Int32) (u : (Nat → Int32) × (Nat → Nat → Int32)) => (r = 0 ∧ IV 1 3205 (u.1 0) ∧ IV 1 3205 a_tape__fault ∧ IV 0 400 (u.1 1)) ∨ (IV 0 11 r ∧ IV 0 3205 (u.1 0) ∧ IV 0 0 a_tape__fault ∧ IV 0 11 p1 ∧ IV 0 400 (u.1 1)) ∨ (IV 1 3205 (u.1 0) ∧ IV 0 0 a_tape__fault ∧ IV 0 400 (u.1 1))) (fun u t => va_P D classes [(a, .inr (0, [.ref a_tape, .ref a_told, .int a__kindsTold])), (a_tape, .inr (7, [.ref a_tape_bytes, .int a_tape__length, .int (u.1 1), .int (u.1 0)])), (a_tape_bytes, .inl (cs 0, 400, .inl a_tape_bytes_c))] t.heap ∧ va_D (va_A [(a, .inr (0, [.ref a_tape, .ref a_told, .int a__kindsTold])), (a_tape, .inr (7, [.ref a_tape_bytes, .int a_tape__length, .int a_tape__place, .int a_tape__fault])), (a_tape_bytes, .inl (cs 0, 400, .inl a_tape_bytes_c))] sz) [(a, .inr (0, [.ref a_tape, .ref a_told, .int a__kindsTold])), (a_tape, .inr (7, [.ref a_tape_bytes, .int a_tape__length, .int (u.1 1), .int (u.1 0)])), (a_tape_bytes, .inl (cs 0, 400, .inl a_tape_bytes_c))]) (va_A [(a, .inr (0, [.ref a_tape, .ref a_told, .int a__kindsTold])), (a_tape, .inr (7, [.ref a_tape_bytes, .int a_tape__length, .int a_tape__place, .int a_tape__fault])), (a_tape_bytes, .inl (cs 0, 400, .inl a_tape_bytes_c))] sz)) 0 0 (va_A [(a, .inr (0, [.ref a_tape, .ref a_told, .int a__kindsTold])), (a_tape, .inr (7, [.ref a_tape_bytes, .int a_tape__length, .int a_tape__place, .int a_tape__fault])), (a_tape_bytes, .inl (cs 0, 400, .inl a_tape_bytes_c))] sz) := by
  refine Met.ofW (cc := cX0_numberTold) (maxL := 3) (ret := (some .int)) (by decide) rfl ?_
  intro p e s m args below meth c s₁ B hml hv
  obtain ⟨rfl, hsz, hP, hD0, hE⟩ := hv
  have hx := B.exec
  have hb := B.bytes
  have hr := B.returns
  have hT : ∀ w ∈ TB, w.before _ s = true := fun w h => atoms_spec (ws := hz_w yX0_numberTold cX0_numberTold 3 (some .int)) B.pre w (List.mem_cons_of_mem _ h)
  have hown : s.vm.findClass RX0 = some m.cls := findClass_of_methodNamed B.named
  have hlocks := B.notSynchronized
  clear B
  subst hsz
  have hD := hD0.self (sz := s.heap.size)
  generalize hAe : va_A [(a, .inr (0, [.ref a_tape, .ref a_told, .int a__kindsTold])), (a_tape, .inr (7, [.ref a_tape_bytes, .int a_tape__length, .int a_tape__place, .int a_tape__fault])), (a_tape_bytes, .inl (cs 0, 400, .inl a_tape_bytes_c))] s.heap.size = A at hD hE ⊢
  have hA : ∀ q : Nat, s.heap.size ≤ q → A q := fun q h => by rw [← hAe]; exact Or.inr h
  clear hAe hD0
  have hS : va_S A s.heap s.heap [] := va_S.rf
  have hK := hE.1
  have hl := lv_entry ([.ref a, .int 0, .int p1]) (n := 3) (Nat.le_of_ble_eq_true rfl)
  rw [lg_entry_eq]
  generalize (lg_sl ([.ref a, .int 0, .int p1]) ++ List.replicate (3 - (lg_sl ([.ref a, .int 0, .int p1])).length) Slot.unset).toArray = ls at hl ⊢
  have hl : lv_has ls 3 [(0, .ref a), (1, .int 0), (2, .int p1)] := hl
  obtain ⟨H, eH⟩ : ∃ z, z = s.heap := ⟨_, rfl⟩
  have hP : va_P D classes [(a, .inr (0, [.ref a_tape, .ref a_told, .int a__kindsTold])), (a_tape, .inr (7, [.ref a_tape_bytes, .int a_tape__length, .int a_tape__place, .int a_tape__fault])), (a_tape_bytes, .inl (cs 0, 400, .inl a_tape_bytes_c))] H := by rw [eH]; exact hP
  have hS : va_S A s.heap H [] := by rw [eH]; exact hS
  rw [← eH]
  clear eH
  obtain ⟨locs, el⟩ : ∃ z : List Loc, z = [] := ⟨_, rfl⟩
  rw [← el] at hS ⊢
  clear el
  refine lv_aload_n hx hb dX0_numberTold_0 rfl (lv_at hl 0 rfl) ?_
  refine va_get (D := D) (ci := 0) (v := .ref a_tape) (C := RX0) (T := TX0) (N := 3) hx hb hT i_X0 hown hK hP 0 rfl rfl 0 (by decide) (hT _ q_44) (fun _ h9 => h9) rfl dX0_numberTold_1 ?_
  refine va_calli (va_runV (As := []) (rest := []) ⟨hx, hb, hml, hown, hT⟩ (c_X7_isSound l D cs kK kV a_tape a_tape_bytes a_tape__length a_tape__place a_tape__fault h_a_tape__fault) (cwV 0 hT (hz_gV q_420 q_421 q_422 q_221 q_423) rfl rfl rfl (by decide +kernel) ⟨(Nat.le_of_ble_eq_true rfl), (Nat.le_of_ble_eq_true rfl)⟩) ⟨hz_P.blind, va_recv hK hP (ci := 7) (q0 := 1) rfl rfl, hz_P.mk (hP.sub (ws' := [(a_tape, .inr (7, [.ref a_tape_bytes, .int a_tape__length, .int a_tape__place, .int a_tape__fault]))]) [1] rfl) hE hS⟩ rfl rfl hl.1 rfl (lv_room (Nat.le_of_ble_eq_true rfl)) dX0_numberTold_4 ⟨(Nat.le_of_ble_eq_true rfl), (Nat.le_of_ble_eq_true rfl)⟩) hS (fun _ _ h => h.elim) (fun _ h => h.elim) (fun r1 u t H1 locs ht hvm hw hB hz1 hk1 hS => ?_)
  have hP := hz_keep hP hk1
  clear hk1 hB hz1
  generalize H1 = H at hP hS ⊢
  rcases hw with ⟨rfl, h2⟩ | ⟨rfl, h3⟩
  · refine lv_if_eq (tgt := 22) hx hb dX0_numberTold_7 (by decide) (fun _ => ?_) (fun z => absurd (by decide) z)
    refine lv_iload_n hx hb dX0_numberTold_22 rfl (lv_at hl 1 rfl) ?_
    refine W.widen (k := 0) (n := 0) (Nat.le_of_ble_eq_true rfl) (Nat.le_of_ble_eq_true rfl) ?_
    exact W.iret (v := 0) hx hb hr (fun t ht hW => ⟨⟨0, (fun k => match k with | 0 => a_tape__fault | 1 => a_tape__place | _ => 0, fun _ _ => 0), rfl, (Or.inl (⟨rfl, h2, h2, h_a_tape__place⟩)), by rw [ht]; exact hP.sub [0, 1, 2] rfl, hD.sub [0, 1, 2] (by decide) rfl⟩, hS.F ht⟩) hS.2.2 dX0_numberTold_23
  · refine lv_if_eq (tgt := 22) hx hb dX0_numberTold_7 (by decide) (fun z => absurd z (by decide)) (fun _ => ?_)
    refine lv_aload_n hx hb dX0_numberTold_10 rfl (lv_at hl 0 rfl) ?_
    refine va_get (D := D) (ci := 0) (v := .ref a_tape) (C := RX0) (T := TX0) (N := 3) hx hb hT i_X0 hown hK hP 0 rfl rfl 0 (by decide) (hT _ q_44) (fun _ h9 => h9) rfl dX0_numberTold_11 ?_
    refine lv_iload_n hx hb dX0_numberTold_14 rfl (lv_at hl 1 rfl) ?_
    refine lv_iload_n hx hb dX0_numberTold_15 rfl (lv_at hl 2 rfl) ?_
    have hFc := va_free (wc := [(a_tape, .inr (7, [.ref a_tape_bytes, .int a_tape__length, .int a_tape__place, .int a_tape__fault])), (a_tape_bytes, .inl (cs 0, 400, .inl a_tape_bytes_c))]) hD hS hA [1,2] rfl
    refine va_calli (va_runV (As := [.int 0, .int p1]) (rest := []) ⟨hx, hb, hml, hown, hT⟩ (c_X7_takeNumber_57 l D cs kK kV a_tape p1 a_tape_bytes a_tape__length a_tape__place a_tape__fault a_tape_bytes_c h_p1 h_a_tape__length h_a_tape__place ((iv_w h3 (by decide) (by decide))) h_a_tape_bytes_c H.size) (cwV 2 hT (hz_gV q_472 q_473 q_474 q_221 q_475) rfl rfl rfl (by decide +kernel) ⟨(Nat.le_of_ble_eq_true rfl), (Nat.le_of_ble_eq_true rfl)⟩) ⟨hz_C.blind, va_recv hK hP (ci := 7) (q0 := 1) rfl rfl, hz_C.mk (hP.sub (ws' := [(a_tape, .inr (7, [.ref a_tape_bytes, .int a_tape__length, .int a_tape__place, .int a_tape__fault])), (a_tape_bytes, .inl (cs 0, 400, .inl a_tape_bytes_c))]) [1,2] rfl) (hD.sub (ws' := [(a_tape, .inr (7, [.ref a_tape_bytes, .int a_tape__length, .int a_tape__place, .int a_tape__fault])), (a_tape_bytes, .inl (cs 0, 400, .inl a_tape_bytes_c))]) [1,2] (by decide) rfl) hE hS hFc⟩ rfl rfl hl.1 rfl (lv_room (Nat.le_of_ble_eq_true rfl)) dX0_numberTold_16 ⟨(Nat.le_of_ble_eq_true rfl), (Nat.le_of_ble_eq_true rfl)⟩) hS (fun q _ h => hFc q h) hFc (fun r4 o5 t H1 locs ht hvm hw hB hz1 hk1 hS => ?_)
    obtain ⟨hP1, hD1⟩ := hB
    rw [ht] at hP1
    obtain ⟨hP, hD⟩ := va_join (wr := [(a, .inr (0, [.ref a_tape, .ref a_told, .int a__kindsTold]))]) (w1 := [(a_tape, .inr (7, [.ref a_tape_bytes, .int a_tape__length, .int (o5.1 1), .int (o5.1 0)])), (a_tape_bytes, .inl (cs 0, 400, .inl a_tape_bytes_c))]) hP hD [1, 2] [0] rfl rfl (by decide) (by decide) hk1 hFc hP1 hD1
    generalize H1 = H at hP hS ⊢
    have hP : va_P D classes [(a, .inr (0, [.ref a_tape, .ref a_told, .int a__kindsTold])), (a_tape, .inr (7, [.ref a_tape_bytes, .int a_tape__length, .int (o5.1 1), .int (o5.1 0)])), (a_tape_bytes, .inl (cs 0, 400, .inl a_tape_bytes_c))] H := hP
    have hD : va_D A [(a, .inr (0, [.ref a_tape, .ref a_told, .int a__kindsTold])), (a_tape, .inr (7, [.ref a_tape_bytes, .int a_tape__length, .int (o5.1 1), .int (o5.1 0)])), (a_tape_bytes, .inl (cs 0, 400, .inl a_tape_bytes_c))] := hD
    clear hk1 hFc hP1 hD1 hz1
    rcases hw with ⟨h6, h7, h8, h9⟩ | ⟨h10, h11⟩
    · refine lv_goto (tgt := 23) hx hb dX0_numberTold_19 (by decide) ?_
      refine W.widen (k := 0) (n := 0) (Nat.le_of_ble_eq_true rfl) (Nat.le_of_ble_eq_true rfl) ?_
      exact W.iret (v := r4) hx hb hr (fun t ht hW => ⟨⟨r4, (fun k => match k with | 0 => o5.1 0 | 1 => o5.1 1 | _ => 0, fun _ _ => 0), rfl, (Or.inr (Or.inl (⟨h6, h7, h3, h8, h9⟩))), by rw [ht]; exact hP.sub [0, 1, 2] rfl, hD.sub [0, 1, 2] (by decide) rfl⟩, hS.F ht⟩) hS.2.2 dX0_numberTold_23
    · refine lv_goto (tgt := 23) hx hb dX0_numberTold_19 (by decide) ?_
      refine W.widen (k := 0) (n := 0) (Nat.le_of_ble_eq_true rfl) (Nat.le_of_ble_eq_true rfl) ?_
      exact W.iret (v := r4) hx hb hr (fun t ht hW => ⟨⟨r4, (fun k => match k with | 0 => o5.1 0 | 1 => o5.1 1 | _ => 0, fun _ _ => 0), rfl, (Or.inr (Or.inr ((⟨h10, h3, h11⟩)))), by rw [ht]; exact hP.sub [0, 1, 2] rfl, hD.sub [0, 1, 2] (by decide) rfl⟩, hS.F ht⟩) hS.2.2 dX0_numberTold_23
theorem dX0_readForged_0 : decode cX0_readForged 0 = .ok (.aload_n 0, 1) := by decide +kernel
theorem dX0_readForged_1 : decode cX0_readForged 1 = .ok (.iconst 0, 1) := by decide +kernel
theorem dX0_readForged_2 : decode cX0_readForged 2 = .ok (.aload_n 0, 1) := by decide +kernel
theorem dX0_readForged_3 : decode cX0_readForged 3 = .ok (.getfield 18, 3) := by decide +kernel
theorem dX0_readForged_6 : decode cX0_readForged 6 = .ok (.getfield 99, 3) := by decide +kernel
theorem dX0_readForged_9 : decode cX0_readForged 9 = .ok (.iconst 1, 1) := by decide +kernel
theorem dX0_readForged_10 : decode cX0_readForged 10 = .ok (.isub, 1) := by decide +kernel
theorem dX0_readForged_11 : decode cX0_readForged 11 = .ok (.invokevirtual 65, 3) := by decide +kernel
theorem dX0_readForged_14 : decode cX0_readForged 14 = .ok (.istore_n 1, 1) := by decide +kernel
theorem dX0_readForged_15 : decode cX0_readForged 15 = .ok (.aload_n 0, 1) := by decide +kernel
theorem dX0_readForged_16 : decode cX0_readForged 16 = .ok (.getfield 9, 3) := by decide +kernel
theorem dX0_readForged_19 : decode cX0_readForged 19 = .ok (.invokevirtual 31, 3) := by decide +kernel
theorem dX0_readForged_22 : decode cX0_readForged 22 = .ok (.ifCond .eq 18, 3) := by decide +kernel
theorem dX0_readForged_25 : decode cX0_readForged 25 = .ok (.aload_n 0, 1) := by decide +kernel
theorem dX0_readForged_26 : decode cX0_readForged 26 = .ok (.getfield 18, 3) := by decide +kernel
theorem dX0_readForged_29 : decode cX0_readForged 29 = .ok (.dup, 1) := by decide +kernel
theorem dX0_readForged_30 : decode cX0_readForged 30 = .ok (.getfield 121, 3) := by decide +kernel
theorem dX0_readForged_33 : decode cX0_readForged 33 = .ok (.iconst 1, 1) := by decide +kernel
theorem dX0_readForged_34 : decode cX0_readForged 34 = .ok (.iload_n 1, 1) := by decide +kernel
theorem dX0_readForged_35 : decode cX0_readForged 35 = .ok (.ishl, 1) := by decide +kernel
theorem dX0_readForged_36 : decode cX0_readForged 36 = .ok (.ior, 1) := by decide +kernel
theorem dX0_readForged_37 : decode cX0_readForged 37 = .ok (.putfield 121, 3) := by decide +kernel
theorem dX0_readForged_40 : decode cX0_readForged 40 = .ok (.return_, 1) := by decide +kernel
set_option maxHeartbeats 4000000 in
set_option maxRecDepth 100000 in
theorem c_X0_readForged (l : Launch) (D : va_G) (cs : Nat → ClassId) (kK kV : Nat → Nat) (a : Nat) (a_tape : Nat) (a_told : Nat) (a__kindsTold : Int32) (a_told__stalls : Int32) (a_told__shift : Int32) (a_told__halves : Int32) (a_told__buyers : Int32) (a_told__near : Int32) (a_told__dusk : Int32) (a_told__duskPrice : Int32) (a_told__hear : Int32) (a_told__forged : Int32) (a_told_stall : Nat) (a_told_shape : Nat) (a_told_side : Nat) (a_told_price : Nat) (a_told_purse : Nat) (a_told_spot : Nat) (a_told_club : Nat) (a_told_fitting : Nat) (a_told_nearly : Nat) (a_tape_bytes : Nat) (a_tape__length : Int32) (a_tape__place : Int32) (a_tape__fault : Int32) (a_tape_bytes_c : Nat → Int32) (h_a_told__halves : IV 0 12 a_told__halves) (h_a_tape__length : IV 0 400 a_tape__length) (h_a_tape__place : IV 0 400 a_tape__place) (h_a_tape__fault : IV 0 3205 a_tape__fault) (h_a_tape_bytes_c : CI 400 0 255 a_tape_bytes_c) (sz : Nat) : Met l yX0_readForged (hz_w yX0_readForged cX0_readForged 2 none) ({ frames := 3, cells := 0, slots := 0, locals := 68 }) (va_Pc [.ref a] (hz_C D cs kK kV sz [(a, .inr (0, [.ref a_tape, .ref a_told, .int a__kindsTold])), (a_told, .inr (8, [.int a_told__stalls, .int a_told__shift, .int a_told__halves, .int a_told__buyers, .int a_told__near, .int a_told__dusk, .int a_told__duskPrice, .int a_told__hear, .int a_told__forged, .ref a_told_stall, .ref a_told_shape, .ref a_told_side, .ref a_told_price, .ref a_told_purse, .ref a_told_spot, .ref a_told_club, .ref a_told_fitting, .ref a_told_nearly])), (a_tape, .inr (7, [.ref a_tape_bytes, .int a_tape__length, .int a_tape__place, .int a_tape__fault])), (a_tape_bytes, .inl (cs 0, 400, .inl a_tape_bytes_c))])) (va_Qv (fun (u : (Nat → Int32) × (Nat → Nat → Int32)) => (IV 1 3205 (u.1 0) ∧ IV 0 400 (u.1 1)) ∨ (IV 0 0 (u.1 0) ∧ IV 0 0 a_tape__fault ∧ IV 0 400 (u.1 1))) (fun u t => va_P D classes [(a, .inr (0, [.ref a_tape, .ref a_told, .int a__kindsTold])), (a_told, .inr (8, [.int a_told__stalls, .int a_told__shift, .int a_told__halves, .int a_told__buyers, .int a_told__near, .int a_told__dusk, .int a_told__duskPrice, .int a_told__hear, .int (u.1 2), .ref a_told_stall, .ref a_told_shape, .ref a_told_side, .ref a_told_price, .ref a_told_purse, .ref a_told_spot, .ref a_told_club, .ref a_told_fitting, .ref a_told_nearly])), (a_tape, .inr (7, [.ref a_tape_bytes, .int a_tape__length, .int (u.1 1), .int (u.1 0)])), (a_tape_bytes, .inl (cs 0, 400, .inl a_tape_bytes_c))] t.heap ∧ va_D (va_A [(a, .inr (0, [.ref a_tape, .ref a_told, .int a__kindsTold])), (a_told, .inr (8, [.int a_told__stalls, .int a_told__shift, .int a_told__halves, .int a_told__buyers, .int a_told__near, .int a_told__dusk, .int a_told__duskPrice, .int a_told__hear, .int a_told__forged, .ref a_told_stall, .ref a_told_shape, .ref a_told_side, .ref a_told_price, .ref a_told_purse, .ref a_told_spot, .ref a_told_club, .ref a_told_fitting, .ref a_told_nearly])), (a_tape, .inr (7, [.ref a_tape_bytes, .int a_tape__length, .int a_tape__place, .int a_tape__fault])), (a_tape_bytes, .inl (cs 0, 400, .inl a_tape_bytes_c))] sz) [(a, .inr (0, [.ref a_tape, .ref a_told, .int a__kindsTold])), (a_told, .inr (8, [.int a_told__stalls, .int a_told__shift, .int a_told__halves, .int a_told__buyers, .int a_told__near, .int a_told__dusk, .int a_told__duskPrice, .int a_told__hear, .int (u.1 2), .ref a_told_stall, .ref a_told_shape, .ref a_told_side, .ref a_told_price, .ref a_told_purse, .ref a_told_spot, .ref a_told_club, .ref a_told_fitting, .ref a_told_nearly])), (a_tape, .inr (7, [.ref a_tape_bytes, .int a_tape__length, .int (u.1 1), .int (u.1 0)])), (a_tape_bytes, .inl (cs 0, 400, .inl a_tape_bytes_c))]) (va_A [(a, .inr (0, [.ref a_tape, .ref a_told, .int a__kindsTold])), (a_told, .inr (8, [.int a_told__stalls, .int a_told__shift, .int a_told__halves, .int a_told__buyers, .int a_told__near, .int a_told__dusk, .int a_told__duskPrice, .int a_told__hear, .int a_told__forged, .ref a_told_stall, .ref a_told_shape, .ref a_told_side, .ref a_told_price, .ref a_told_purse, .ref a_told_spot, .ref a_told_club, .ref a_told_fitting, .ref a_told_nearly])), (a_tape, .inr (7, [.ref a_tape_bytes, .int a_tape__length, .int a_tape__place, .int a_tape__fault])), (a_tape_bytes, .inl (cs 0, 400, .inl a_tape_bytes_c))] sz)) 0 0 (va_A [(a, .inr (0, [.ref a_tape, .ref a_told, .int a__kindsTold])), (a_told, .inr (8, [.int a_told__stalls, .int a_told__shift, .int a_told__halves, .int a_told__buyers, .int a_told__near, .int a_told__dusk, .int a_told__duskPrice, .int a_told__hear, .int a_told__forged, .ref a_told_stall, .ref a_told_shape, .ref a_told_side, .ref a_told_price, .ref a_told_purse, .ref a_told_spot, .ref a_told_club, .ref a_told_fitting, .ref a_told_nearly])), (a_tape, .inr (7, [.ref a_tape_bytes, .int a_tape__length, .int a_tape__place, .int a_tape__fault])), (a_tape_bytes, .inl (cs 0, 400, .inl a_tape_bytes_c))] sz) := by
  refine Met.ofW (cc := cX0_readForged) (maxL := 2) (ret := none) (by decide) rfl ?_
  intro p e s m args below meth c s₁ B hml hv
  obtain ⟨rfl, hsz, hP, hD0, hE⟩ := hv
  have hx := B.exec
  have hb := B.bytes
  have hr := B.returns
  have hT : ∀ w ∈ TB, w.before _ s = true := fun w h => atoms_spec (ws := hz_w yX0_readForged cX0_readForged 2 none) B.pre w (List.mem_cons_of_mem _ h)
  have hown : s.vm.findClass RX0 = some m.cls := findClass_of_methodNamed B.named
  have hlocks := B.notSynchronized
  clear B
  subst hsz
  have hD := hD0.self (sz := s.heap.size)
  generalize hAe : va_A [(a, .inr (0, [.ref a_tape, .ref a_told, .int a__kindsTold])), (a_told, .inr (8, [.int a_told__stalls, .int a_told__shift, .int a_told__halves, .int a_told__buyers, .int a_told__near, .int a_told__dusk, .int a_told__duskPrice, .int a_told__hear, .int a_told__forged, .ref a_told_stall, .ref a_told_shape, .ref a_told_side, .ref a_told_price, .ref a_told_purse, .ref a_told_spot, .ref a_told_club, .ref a_told_fitting, .ref a_told_nearly])), (a_tape, .inr (7, [.ref a_tape_bytes, .int a_tape__length, .int a_tape__place, .int a_tape__fault])), (a_tape_bytes, .inl (cs 0, 400, .inl a_tape_bytes_c))] s.heap.size = A at hD hE ⊢
  have hA : ∀ q : Nat, s.heap.size ≤ q → A q := fun q h => by rw [← hAe]; exact Or.inr h
  clear hAe hD0
  have hS : va_S A s.heap s.heap [] := va_S.rf
  have hK := hE.1
  have hl := lv_entry ([.ref a]) (n := 2) (Nat.le_of_ble_eq_true rfl)
  rw [lg_entry_eq]
  generalize (lg_sl ([.ref a]) ++ List.replicate (2 - (lg_sl ([.ref a])).length) Slot.unset).toArray = ls at hl ⊢
  have hl : lv_has ls 2 [(0, .ref a)] := hl
  obtain ⟨H, eH⟩ : ∃ z, z = s.heap := ⟨_, rfl⟩
  have hP : va_P D classes [(a, .inr (0, [.ref a_tape, .ref a_told, .int a__kindsTold])), (a_told, .inr (8, [.int a_told__stalls, .int a_told__shift, .int a_told__halves, .int a_told__buyers, .int a_told__near, .int a_told__dusk, .int a_told__duskPrice, .int a_told__hear, .int a_told__forged, .ref a_told_stall, .ref a_told_shape, .ref a_told_side, .ref a_told_price, .ref a_told_purse, .ref a_told_spot, .ref a_told_club, .ref a_told_fitting, .ref a_told_nearly])), (a_tape, .inr (7, [.ref a_tape_bytes, .int a_tape__length, .int a_tape__place, .int a_tape__fault])), (a_tape_bytes, .inl (cs 0, 400, .inl a_tape_bytes_c))] H := by rw [eH]; exact hP
  have hS : va_S A s.heap H [] := by rw [eH]; exact hS
  rw [← eH]
  clear eH
  obtain ⟨locs, el⟩ : ∃ z : List Loc, z = [] := ⟨_, rfl⟩
  rw [← el] at hS ⊢
  clear el
  refine lv_aload_n hx hb dX0_readForged_0 rfl (lv_at hl 0 rfl) ?_
  refine lv_iconst (v := 0) hx hb dX0_readForged_1 (by decide) ?_
  refine lv_aload_n hx hb dX0_readForged_2 rfl (lv_at hl 0 rfl) ?_
  refine va_get (D := D) (ci := 0) (v := .ref a_told) (C := RX0) (T := TX0) (N := 3) hx hb hT i_X0 hown hK hP 0 rfl rfl 1 (by decide) (hT _ q_45) (fun _ h9 => h9) rfl dX0_readForged_3 ?_
  refine va_get (D := D) (ci := 8) (v := .int a_told__halves) (C := RX8) (T := TX8) (N := 18) hx hb hT i_X8 hown hK hP 1 rfl rfl 2 (by decide) (hT _ q_54) (fun _ h9 => h9) rfl dX0_readForged_6 ?_
  refine lv_iconst (v := 1) hx hb dX0_readForged_9 (by decide) ?_
  refine lv_isub hx hb dX0_readForged_10 ?_
  refine lv_topi (fun v1 ev1 => ?_)
  have hv1 : IV (-1) 11 v1 := iv_sub ev1 h_a_told__halves (iv_c (a := 1) (b := 1) (by decide)) (by decide) (by decide)
  have dv1 : v1.toInt = a_told__halves.toInt + (-1) := iv_subE ev1 h_a_told__halves (iv_c (a := 1) (b := 1) (by decide)) (by decide) (by decide) (by decide)
  have hFc := va_free (wc := [(a, .inr (0, [.ref a_tape, .ref a_told, .int a__kindsTold])), (a_tape, .inr (7, [.ref a_tape_bytes, .int a_tape__length, .int a_tape__place, .int a_tape__fault])), (a_tape_bytes, .inl (cs 0, 400, .inl a_tape_bytes_c))]) hD hS hA [0,2,3] rfl
  refine va_calli (va_runV (As := [.int 0, .int v1]) (rest := []) ⟨hx, hb, hml, hown, hT⟩ (c_X0_numberTold_56 l D cs kK kV a v1 a_tape a_told a__kindsTold a_tape_bytes a_tape__length a_tape__place a_tape__fault a_tape_bytes_c hv1 h_a_tape__length h_a_tape__place h_a_tape__fault h_a_tape_bytes_c H.size) (cwV 2 hT (hz_gV q_452 q_453 q_454 q_226 q_455) rfl rfl rfl (by decide +kernel) ⟨(Nat.le_of_ble_eq_true rfl), (Nat.le_of_ble_eq_true rfl)⟩) ⟨hz_C.blind, va_recv hK hP (ci := 0) (q0 := 0) rfl rfl, hz_C.mk (hP.sub (ws' := [(a, .inr (0, [.ref a_tape, .ref a_told, .int a__kindsTold])), (a_tape, .inr (7, [.ref a_tape_bytes, .int a_tape__length, .int a_tape__place, .int a_tape__fault])), (a_tape_bytes, .inl (cs 0, 400, .inl a_tape_bytes_c))]) [0,2,3] rfl) (hD.sub (ws' := [(a, .inr (0, [.ref a_tape, .ref a_told, .int a__kindsTold])), (a_tape, .inr (7, [.ref a_tape_bytes, .int a_tape__length, .int a_tape__place, .int a_tape__fault])), (a_tape_bytes, .inl (cs 0, 400, .inl a_tape_bytes_c))]) [0,2,3] (by decide) rfl) hE hS hFc⟩ rfl rfl hl.1 rfl (lv_room (Nat.le_of_ble_eq_true rfl)) dX0_readForged_11 ⟨(Nat.le_of_ble_eq_true rfl), (Nat.le_of_ble_eq_true rfl)⟩) hS (fun q _ h => hFc q h) hFc (fun r2 o3 t H1 locs ht hvm hw hB hz1 hk1 hS => ?_)
  obtain ⟨hP1, hD1⟩ := hB
  rw [ht] at hP1
  obtain ⟨hP, hD⟩ := va_join (wr := [(a_told, .inr (8, [.int a_told__stalls, .int a_told__shift, .int a_told__halves, .int a_told__buyers, .int a_told__near, .int a_told__dusk, .int a_told__duskPrice, .int a_told__hear, .int a_told__forged, .ref a_told_stall, .ref a_told_shape, .ref a_told_side, .ref a_told_price, .ref a_told_purse, .ref a_told_spot, .ref a_told_club, .ref a_told_fitting, .ref a_told_nearly]))]) (w1 := [(a, .inr (0, [.ref a_tape, .ref a_told, .int a__kindsTold])), (a_tape, .inr (7, [.ref a_tape_bytes, .int a_tape__length, .int (o3.1 1), .int (o3.1 0)])), (a_tape_bytes, .inl (cs 0, 400, .inl a_tape_bytes_c))]) hP hD [0, 2, 3] [1] rfl rfl (by decide) (by decide) hk1 hFc hP1 hD1
  generalize H1 = H at hP hS ⊢
  have hP : va_P D classes [(a_told, .inr (8, [.int a_told__stalls, .int a_told__shift, .int a_told__halves, .int a_told__buyers, .int a_told__near, .int a_told__dusk, .int a_told__duskPrice, .int a_told__hear, .int a_told__forged, .ref a_told_stall, .ref a_told_shape, .ref a_told_side, .ref a_told_price, .ref a_told_purse, .ref a_told_spot, .ref a_told_club, .ref a_told_fitting, .ref a_told_nearly])), (a, .inr (0, [.ref a_tape, .ref a_told, .int a__kindsTold])), (a_tape, .inr (7, [.ref a_tape_bytes, .int a_tape__length, .int (o3.1 1), .int (o3.1 0)])), (a_tape_bytes, .inl (cs 0, 400, .inl a_tape_bytes_c))] H := hP
  have hD : va_D A [(a_told, .inr (8, [.int a_told__stalls, .int a_told__shift, .int a_told__halves, .int a_told__buyers, .int a_told__near, .int a_told__dusk, .int a_told__duskPrice, .int a_told__hear, .int a_told__forged, .ref a_told_stall, .ref a_told_shape, .ref a_told_side, .ref a_told_price, .ref a_told_purse, .ref a_told_spot, .ref a_told_club, .ref a_told_fitting, .ref a_told_nearly])), (a, .inr (0, [.ref a_tape, .ref a_told, .int a__kindsTold])), (a_tape, .inr (7, [.ref a_tape_bytes, .int a_tape__length, .int (o3.1 1), .int (o3.1 0)])), (a_tape_bytes, .inl (cs 0, 400, .inl a_tape_bytes_c))] := hD
  clear hk1 hFc hP1 hD1 hz1
  rcases hw with ⟨rfl, h4, h5, h6⟩ | ⟨h7, h8, h9, h10, h11⟩ | ⟨h12, h13, h14⟩
  · refine lv_istore_n (lv' := [(1, .int 0), (0, .ref a)]) hx hb dX0_readForged_14 rfl hl (by decide) rfl (fun ls hl => ?_)
    refine lv_aload_n hx hb dX0_readForged_15 rfl (lv_at hl 1 rfl) ?_
    refine va_get (D := D) (ci := 0) (v := .ref a_tape) (C := RX0) (T := TX0) (N := 3) hx hb hT i_X0 hown hK hP 1 rfl rfl 0 (by decide) (hT _ q_44) (fun _ h9 => h9) rfl dX0_readForged_16 ?_
    refine va_calli (va_runV (As := []) (rest := []) ⟨hx, hb, hml, hown, hT⟩ (c_X7_isSound l D cs kK kV a_tape a_tape_bytes a_tape__length (o3.1 1) (o3.1 0) ((iv_w h4 (by decide) (by decide)))) (cwV 0 hT (hz_gV q_420 q_421 q_422 q_221 q_423) rfl rfl rfl (by decide +kernel) ⟨(Nat.le_of_ble_eq_true rfl), (Nat.le_of_ble_eq_true rfl)⟩) ⟨hz_P.blind, va_recv hK hP (ci := 7) (q0 := 2) rfl rfl, hz_P.mk (hP.sub (ws' := [(a_tape, .inr (7, [.ref a_tape_bytes, .int a_tape__length, .int (o3.1 1), .int (o3.1 0)]))]) [2] rfl) hE hS⟩ rfl rfl hl.1 rfl (lv_room (Nat.le_of_ble_eq_true rfl)) dX0_readForged_19 ⟨(Nat.le_of_ble_eq_true rfl), (Nat.le_of_ble_eq_true rfl)⟩) hS (fun _ _ h => h.elim) (fun _ h => h.elim) (fun r15 u t H1 locs ht hvm hw hB hz1 hk1 hS => ?_)
    have hP := hz_keep hP hk1
    clear hk1 hB hz1
    generalize H1 = H at hP hS ⊢
    rcases hw with ⟨rfl, h16⟩ | ⟨rfl, h17⟩
    · refine lv_if_eq (tgt := 40) hx hb dX0_readForged_22 (by decide) (fun _ => ?_) (fun z => absurd (by decide) z)
      refine W.widen (k := 0) (n := 0) (Nat.le_of_ble_eq_true rfl) (Nat.le_of_ble_eq_true rfl) ?_
      exact W.vret hx hb hr (fun t ht hW => ⟨⟨(fun k => match k with | 0 => o3.1 0 | 1 => o3.1 1 | 2 => a_told__forged | _ => 0, fun _ _ => 0), rfl, (Or.inl (⟨h16, h6⟩)), by rw [ht]; exact hP.sub [1, 0, 2, 3] rfl, hD.sub [1, 0, 2, 3] (by decide) rfl⟩, hS.F ht⟩) hS.2.2 dX0_readForged_40
    · exact (iv_no h17 h4 (by decide)).elim
  · refine lv_istore_n (lv' := [(1, .int r2), (0, .ref a)]) hx hb dX0_readForged_14 rfl hl (by decide) rfl (fun ls hl => ?_)
    refine lv_aload_n hx hb dX0_readForged_15 rfl (lv_at hl 1 rfl) ?_
    refine va_get (D := D) (ci := 0) (v := .ref a_tape) (C := RX0) (T := TX0) (N := 3) hx hb hT i_X0 hown hK hP 1 rfl rfl 0 (by decide) (hT _ q_44) (fun _ h9 => h9) rfl dX0_readForged_16 ?_
    refine va_calli (va_runV (As := []) (rest := []) ⟨hx, hb, hml, hown, hT⟩ (c_X7_isSound l D cs kK kV a_tape a_tape_bytes a_tape__length (o3.1 1) (o3.1 0) h8) (cwV 0 hT (hz_gV q_420 q_421 q_422 q_221 q_423) rfl rfl rfl (by decide +kernel) ⟨(Nat.le_of_ble_eq_true rfl), (Nat.le_of_ble_eq_true rfl)⟩) ⟨hz_P.blind, va_recv hK hP (ci := 7) (q0 := 2) rfl rfl, hz_P.mk (hP.sub (ws' := [(a_tape, .inr (7, [.ref a_tape_bytes, .int a_tape__length, .int (o3.1 1), .int (o3.1 0)]))]) [2] rfl) hE hS⟩ rfl rfl hl.1 rfl (lv_room (Nat.le_of_ble_eq_true rfl)) dX0_readForged_19 ⟨(Nat.le_of_ble_eq_true rfl), (Nat.le_of_ble_eq_true rfl)⟩) hS (fun _ _ h => h.elim) (fun _ h => h.elim) (fun r18 u t H1 locs ht hvm hw hB hz1 hk1 hS => ?_)
    have hP := hz_keep hP hk1
    clear hk1 hB hz1
    generalize H1 = H at hP hS ⊢
    rcases hw with ⟨rfl, h19⟩ | ⟨rfl, h20⟩
    · refine lv_if_eq (tgt := 40) hx hb dX0_readForged_22 (by decide) (fun _ => ?_) (fun z => absurd (by decide) z)
      refine W.widen (k := 0) (n := 0) (Nat.le_of_ble_eq_true rfl) (Nat.le_of_ble_eq_true rfl) ?_
      exact W.vret hx hb hr (fun t ht hW => ⟨⟨(fun k => match k with | 0 => o3.1 0 | 1 => o3.1 1 | 2 => a_told__forged | _ => 0, fun _ _ => 0), rfl, (Or.inl (⟨h19, h11⟩)), by rw [ht]; exact hP.sub [1, 0, 2, 3] rfl, hD.sub [1, 0, 2, 3] (by decide) rfl⟩, hS.F ht⟩) hS.2.2 dX0_readForged_40
    · refine lv_if_eq (tgt := 40) hx hb dX0_readForged_22 (by decide) (fun z => absurd z (by decide)) (fun _ => ?_)
      refine lv_aload_n hx hb dX0_readForged_25 rfl (lv_at hl 1 rfl) ?_
      refine va_get (D := D) (ci := 0) (v := .ref a_told) (C := RX0) (T := TX0) (N := 3) hx hb hT i_X0 hown hK hP 1 rfl rfl 1 (by decide) (hT _ q_45) (fun _ h9 => h9) rfl dX0_readForged_26 ?_
      refine lv_dup hx hb dX0_readForged_29 rfl ?_
      refine va_get (D := D) (ci := 8) (v := .int a_told__forged) (C := RX8) (T := TX8) (N := 18) hx hb hT i_X8 hown hK hP 0 rfl rfl 8 (by decide) (hT _ q_60) (fun _ h9 => h9) rfl dX0_readForged_30 ?_
      refine lv_iconst (v := 1) hx hb dX0_readForged_33 (by decide) ?_
      refine lv_iload_n hx hb dX0_readForged_34 rfl (lv_at hl 0 rfl) ?_
      refine lv_ishl hx hb dX0_readForged_35 ?_
      refine lv_topi (fun v21 ev21 => ?_)
      have hv21 : IV 1 2048 v21 := iv_shl1 ev21 h7 (by decide) (by decide) (by decide)
      refine lv_ior hx hb dX0_readForged_36 ?_
      refine lv_topi (fun v22 ev22 => ?_)
      refine va_put (D := D) (ci := 8) (v := .int v22) (ty := .int) (C := RX8) (T := TX8) (N := 18) hx hb hT i_X8 tyX8 tyX8_ok nmX8 hown hK hP hD hS 0 rfl rfl 8 (by decide) (hT _ q_60) (fun _ h9 => h9) rfl (by decide +kernel) rfl rfl (Nat.le_of_ble_eq_true rfl) dX0_readForged_37 (fun H locs hP hD hS => ?_)
      have hP : va_P D classes [(a_told, .inr (8, [.int a_told__stalls, .int a_told__shift, .int a_told__halves, .int a_told__buyers, .int a_told__near, .int a_told__dusk, .int a_told__duskPrice, .int a_told__hear, .int v22, .ref a_told_stall, .ref a_told_shape, .ref a_told_side, .ref a_told_price, .ref a_told_purse, .ref a_told_spot, .ref a_told_club, .ref a_told_fitting, .ref a_told_nearly])), (a, .inr (0, [.ref a_tape, .ref a_told, .int a__kindsTold])), (a_tape, .inr (7, [.ref a_tape_bytes, .int a_tape__length, .int (o3.1 1), .int (o3.1 0)])), (a_tape_bytes, .inl (cs 0, 400, .inl a_tape_bytes_c))] H := hP
      have hD : va_D A [(a_told, .inr (8, [.int a_told__stalls, .int a_told__shift, .int a_told__halves, .int a_told__buyers, .int a_told__near, .int a_told__dusk, .int a_told__duskPrice, .int a_told__hear, .int v22, .ref a_told_stall, .ref a_told_shape, .ref a_told_side, .ref a_told_price, .ref a_told_purse, .ref a_told_spot, .ref a_told_club, .ref a_told_fitting, .ref a_told_nearly])), (a, .inr (0, [.ref a_tape, .ref a_told, .int a__kindsTold])), (a_tape, .inr (7, [.ref a_tape_bytes, .int a_tape__length, .int (o3.1 1), .int (o3.1 0)])), (a_tape_bytes, .inl (cs 0, 400, .inl a_tape_bytes_c))] := hD
      refine W.widen (k := 0) (n := 0) (Nat.le_of_ble_eq_true rfl) (Nat.le_of_ble_eq_true rfl) ?_
      exact W.vret hx hb hr (fun t ht hW => ⟨⟨(fun k => match k with | 0 => o3.1 0 | 1 => o3.1 1 | 2 => v22 | _ => 0, fun _ _ => 0), rfl, (Or.inr ((⟨h20, h9, h11⟩))), by rw [ht]; exact hP.sub [1, 0, 2, 3] rfl, hD.sub [1, 0, 2, 3] (by decide) rfl⟩, hS.F ht⟩) hS.2.2 dX0_readForged_40
  · refine lv_istore_n (lv' := [(1, .int r2), (0, .ref a)]) hx hb dX0_readForged_14 rfl hl (by decide) rfl (fun ls hl => ?_)
    refine lv_aload_n hx hb dX0_readForged_15 rfl (lv_at hl 1 rfl) ?_
    refine va_get (D := D) (ci := 0) (v := .ref a_tape) (C := RX0) (T := TX0) (N := 3) hx hb hT i_X0 hown hK hP 1 rfl rfl 0 (by decide) (hT _ q_44) (fun _ h9 => h9) rfl dX0_readForged_16 ?_
    refine va_calli (va_runV (As := []) (rest := []) ⟨hx, hb, hml, hown, hT⟩ (c_X7_isSound l D cs kK kV a_tape a_tape_bytes a_tape__length (o3.1 1) (o3.1 0) ((iv_w h12 (by decide) (by decide)))) (cwV 0 hT (hz_gV q_420 q_421 q_422 q_221 q_423) rfl rfl rfl (by decide +kernel) ⟨(Nat.le_of_ble_eq_true rfl), (Nat.le_of_ble_eq_true rfl)⟩) ⟨hz_P.blind, va_recv hK hP (ci := 7) (q0 := 2) rfl rfl, hz_P.mk (hP.sub (ws' := [(a_tape, .inr (7, [.ref a_tape_bytes, .int a_tape__length, .int (o3.1 1), .int (o3.1 0)]))]) [2] rfl) hE hS⟩ rfl rfl hl.1 rfl (lv_room (Nat.le_of_ble_eq_true rfl)) dX0_readForged_19 ⟨(Nat.le_of_ble_eq_true rfl), (Nat.le_of_ble_eq_true rfl)⟩) hS (fun _ _ h => h.elim) (fun _ h => h.elim) (fun r23 u t H1 locs ht hvm hw hB hz1 hk1 hS => ?_)
    have hP := hz_keep hP hk1
    clear hk1 hB hz1
    generalize H1 = H at hP hS ⊢
    rcases hw with ⟨rfl, h24⟩ | ⟨rfl, h25⟩
    · refine lv_if_eq (tgt := 40) hx hb dX0_readForged_22 (by decide) (fun _ => ?_) (fun z => absurd (by decide) z)
      refine W.widen (k := 0) (n := 0) (Nat.le_of_ble_eq_true rfl) (Nat.le_of_ble_eq_true rfl) ?_
      exact W.vret hx hb hr (fun t ht hW => ⟨⟨(fun k => match k with | 0 => o3.1 0 | 1 => o3.1 1 | 2 => a_told__forged | _ => 0, fun _ _ => 0), rfl, (Or.inl (⟨h24, h14⟩)), by rw [ht]; exact hP.sub [1, 0, 2, 3] rfl, hD.sub [1, 0, 2, 3] (by decide) rfl⟩, hS.F ht⟩) hS.2.2 dX0_readForged_40
    · exact (iv_no h25 h12 (by decide)).elim
set_option maxHeartbeats 4000000 in
set_option maxRecDepth 100000 in
theorem c_X7_takeNumber_59 (l : Launch) (D : va_G) (cs : Nat → ClassId) (kK kV : Nat → Nat) (a : Nat) (p1 : Int32) (a_bytes : Nat) (a__length : Int32) (a__place : Int32) (a__fault : Int32) (a_bytes_c : Nat → Int32) (h_p1 : IV (-1) 3 p1) (h_a__length : IV 0 400 a__length) (h_a__place : IV 0 400 a__place) (h_a__fault : IV 0 3205 a__fault) (h_a_bytes_c : CI 400 0 255 a_bytes_c) (sz : Nat) : Met l yX7_takeNumber (hz_w yX7_takeNumber cX7_takeNumber 5 (some .int)) ({ frames := 1, cells := 0, slots := 0, locals := 22 }) (va_Pc [.ref a, .int 0, .int p1] (hz_C D cs kK kV sz [(a, .inr (7, [.ref a_bytes, .int a__length, .int a__place, .int a__fault])), (a_bytes, .inl (cs 0, 400, .inl a_bytes_c))])) (va_Qi (fun (r : Int32) (u : (Nat → Int32) × (Nat → Nat → Int32)) => (IV 0 3 r ∧ IV 0 3205 (u.1 0) ∧ IV 0 3 p1 ∧ IV 0 400 (u.1 1)) ∨ (IV 1 3205 (u.1 0) ∧ IV 0 400 (u.1 1))) (fun u t => va_P D classes [(a, .inr (7, [.ref a_bytes, .int a__length, .int (u.1 1), .int (u.1 0)])), (a_bytes, .inl (cs 0, 400, .inl a_bytes_c))] t.heap ∧ va_D (va_A [(a, .inr (7, [.ref a_bytes, .int a__length, .int a__place, .int a__fault])), (a_bytes, .inl (cs 0, 400, .inl a_bytes_c))] sz) [(a, .inr (7, [.ref a_bytes, .int a__length, .int (u.1 1), .int (u.1 0)])), (a_bytes, .inl (cs 0, 400, .inl a_bytes_c))]) (va_A [(a, .inr (7, [.ref a_bytes, .int a__length, .int a__place, .int a__fault])), (a_bytes, .inl (cs 0, 400, .inl a_bytes_c))] sz)) 0 0 (va_A [(a, .inr (7, [.ref a_bytes, .int a__length, .int a__place, .int a__fault])), (a_bytes, .inl (cs 0, 400, .inl a_bytes_c))] sz) := by
  refine Met.ofW (cc := cX7_takeNumber) (maxL := 5) (ret := (some .int)) (by decide) rfl ?_
  intro p e s m args below meth c s₁ B hml hv
  obtain ⟨rfl, hsz, hP, hD0, hE⟩ := hv
  have hx := B.exec
  have hb := B.bytes
  have hr := B.returns
  have hT : ∀ w ∈ TB, w.before _ s = true := fun w h => atoms_spec (ws := hz_w yX7_takeNumber cX7_takeNumber 5 (some .int)) B.pre w (List.mem_cons_of_mem _ h)
  have hown : s.vm.findClass RX7 = some m.cls := findClass_of_methodNamed B.named
  have hlocks := B.notSynchronized
  clear B
  subst hsz
  have hD := hD0.self (sz := s.heap.size)
  generalize hAe : va_A [(a, .inr (7, [.ref a_bytes, .int a__length, .int a__place, .int a__fault])), (a_bytes, .inl (cs 0, 400, .inl a_bytes_c))] s.heap.size = A at hD hE ⊢
  have hA : ∀ q : Nat, s.heap.size ≤ q → A q := fun q h => by rw [← hAe]; exact Or.inr h
  clear hAe hD0
  have hS : va_S A s.heap s.heap [] := va_S.rf
  have hK := hE.1
  have hl := lv_entry ([.ref a, .int 0, .int p1]) (n := 5) (Nat.le_of_ble_eq_true rfl)
  rw [lg_entry_eq]
  generalize (lg_sl ([.ref a, .int 0, .int p1]) ++ List.replicate (5 - (lg_sl ([.ref a, .int 0, .int p1])).length) Slot.unset).toArray = ls at hl ⊢
  have hl : lv_has ls 5 [(0, .ref a), (1, .int 0), (2, .int p1)] := hl
  obtain ⟨H, eH⟩ : ∃ z, z = s.heap := ⟨_, rfl⟩
  have hP : va_P D classes [(a, .inr (7, [.ref a_bytes, .int a__length, .int a__place, .int a__fault])), (a_bytes, .inl (cs 0, 400, .inl a_bytes_c))] H := by rw [eH]; exact hP
  have hS : va_S A s.heap H [] := by rw [eH]; exact hS
  rw [← eH]
  clear eH
  obtain ⟨locs, el⟩ : ∃ z : List Loc, z = [] := ⟨_, rfl⟩
  rw [← el] at hS ⊢
  clear el
  have K133 : ∀ (k133_L_4 : Int32) (k133_L_3 : Int32) (k133_F_a_2 : Int32), IV 0 400 k133_F_a_2 → IV 0 400 k133_L_3 → ∀ (H : Heap) (locs : List Loc), va_P D classes [(a, .inr (7, [.ref a_bytes, .int a__length, .int k133_F_a_2, .int a__fault])), (a_bytes, .inl (cs 0, 400, .inl a_bytes_c))] H → va_D A [(a, .inr (7, [.ref a_bytes, .int a__length, .int k133_F_a_2, .int a__fault])), (a_bytes, .inl (cs 0, 400, .inl a_bytes_c))] → va_S A s.heap H locs → ∀ ls : Array Slot, lv_has ls 5 [(4, .int k133_L_4), (3, .int k133_L_3), (0, .ref a), (1, .int 0), (2, .int p1)] → W p l e (headSpec (hz_w yX7_takeNumber cX7_takeNumber 5 (some .int)) ({ frames := 1, cells := 0, slots := 0, locals := 22 })).room s m [.ref a, .int 0, .int p1].toArray below meth c H locs 0 0 (MQ below (va_Qi (fun (r : Int32) (u : (Nat → Int32) × (Nat → Nat → Int32)) => (IV 0 3 r ∧ IV 0 3205 (u.1 0) ∧ IV 0 3 p1 ∧ IV 0 400 (u.1 1)) ∨ (IV 1 3205 (u.1 0) ∧ IV 0 400 (u.1 1))) (fun u t => va_P D classes [(a, .inr (7, [.ref a_bytes, .int a__length, .int (u.1 1), .int (u.1 0)])), (a_bytes, .inl (cs 0, 400, .inl a_bytes_c))] t.heap ∧ va_D A [(a, .inr (7, [.ref a_bytes, .int a__length, .int (u.1 1), .int (u.1 0)])), (a_bytes, .inl (cs 0, 400, .inl a_bytes_c))]) A) [.ref a, .int 0, .int p1].toArray s 0 0 A) (F0 m 133 ls []) := by
    intro k133_L_4 k133_L_3 k133_F_a_2 q133_2 q133_3 H locs hP hD hS ls hl
    refine lv_aload_n hx hb dX7_takeNumber_133 rfl (lv_at hl 2 rfl) ?_
    refine lv_iload_n hx hb dX7_takeNumber_134 rfl (lv_at hl 1 rfl) ?_
    refine lv_iconst (v := 1) hx hb dX7_takeNumber_135 (by decide) ?_
    have hFc := va_free (wc := [(a, .inr (7, [.ref a_bytes, .int a__length, .int k133_F_a_2, .int a__fault]))]) hD hS hA [0] rfl
    refine va_callv (va_runV (As := [.int k133_L_3, .int 1]) (rest := []) ⟨hx, hb, hml, hown, hT⟩ (c_X7_fail l D cs kK kV a k133_L_3 1 a_bytes a__length k133_F_a_2 a__fault q133_3 ((iv_c (by decide))) h_a__fault H.size) (cwV 2 hT (hz_gV q_633 q_445 q_446 q_221 q_447) rfl rfl rfl (by decide +kernel) ⟨(Nat.le_of_ble_eq_true rfl), (Nat.le_of_ble_eq_true rfl)⟩) ⟨hz_C.blind, va_recv hK hP (ci := 7) (q0 := 0) rfl rfl, hz_C.mk (hP.sub (ws' := [(a, .inr (7, [.ref a_bytes, .int a__length, .int k133_F_a_2, .int a__fault]))]) [0] rfl) (hD.sub (ws' := [(a, .inr (7, [.ref a_bytes, .int a__length, .int k133_F_a_2, .int a__fault]))]) [0] (by decide) rfl) hE hS hFc⟩ rfl rfl hl.1 rfl (lv_room (Nat.le_of_ble_eq_true rfl)) dX7_takeNumber_136 ⟨(Nat.le_of_ble_eq_true rfl), (Nat.le_of_ble_eq_true rfl)⟩) hS (fun q _ h => hFc q h) hFc (fun o2 t H1 locs ht hvm hw hB hz1 hk1 hS => ?_)
    obtain ⟨hP1, hD1⟩ := hB
    rw [ht] at hP1
    obtain ⟨hP, hD⟩ := va_join (wr := [(a_bytes, .inl (cs 0, 400, .inl a_bytes_c))]) (w1 := [(a, .inr (7, [.ref a_bytes, .int a__length, .int k133_F_a_2, .int (o2.1 0)]))]) hP hD [0] [1] rfl rfl (by decide) (by decide) hk1 hFc hP1 hD1
    generalize H1 = H at hP hS ⊢
    have hP : va_P D classes [(a_bytes, .inl (cs 0, 400, .inl a_bytes_c)), (a, .inr (7, [.ref a_bytes, .int a__length, .int k133_F_a_2, .int (o2.1 0)]))] H := hP
    have hD : va_D A [(a_bytes, .inl (cs 0, 400, .inl a_bytes_c)), (a, .inr (7, [.ref a_bytes, .int a__length, .int k133_F_a_2, .int (o2.1 0)]))] := hD
    clear hk1 hFc hP1 hD1 hz1
    have h3 := hw
    refine lv_iload hx hb dX7_takeNumber_139 (lv_at hl 0 rfl) ?_
    refine W.widen (k := 0) (n := 0) (Nat.le_of_ble_eq_true rfl) (Nat.le_of_ble_eq_true rfl) ?_
    exact W.iret (v := k133_L_4) hx hb hr (fun t ht hW => ⟨⟨k133_L_4, (fun k => match k with | 0 => o2.1 0 | 1 => k133_F_a_2 | _ => 0, fun _ _ => 0), rfl, (Or.inr ((⟨h3, q133_2⟩))), by rw [ht]; exact hP.sub [1, 0] rfl, hD.sub [1, 0] (by decide) rfl⟩, hS.F ht⟩) hS.2.2 dX7_takeNumber_141
  have K94 : ∀ (k94_L_4 : Int32) (k94_L_3 : Int32) (k94_F_a_2 : Int32), IV 0 400 k94_F_a_2 → IV 0 400 k94_L_3 → ∀ (H : Heap) (locs : List Loc), va_P D classes [(a, .inr (7, [.ref a_bytes, .int a__length, .int k94_F_a_2, .int a__fault])), (a_bytes, .inl (cs 0, 400, .inl a_bytes_c))] H → va_D A [(a, .inr (7, [.ref a_bytes, .int a__length, .int k94_F_a_2, .int a__fault])), (a_bytes, .inl (cs 0, 400, .inl a_bytes_c))] → va_S A s.heap H locs → ∀ ls : Array Slot, lv_has ls 5 [(4, .int k94_L_4), (3, .int k94_L_3), (0, .ref a), (1, .int 0), (2, .int p1)] → W p l e (headSpec (hz_w yX7_takeNumber cX7_takeNumber 5 (some .int)) ({ frames := 1, cells := 0, slots := 0, locals := 22 })).room s m [.ref a, .int 0, .int p1].toArray below meth c H locs 0 0 (MQ below (va_Qi (fun (r : Int32) (u : (Nat → Int32) × (Nat → Nat → Int32)) => (IV 0 3 r ∧ IV 0 3205 (u.1 0) ∧ IV 0 3 p1 ∧ IV 0 400 (u.1 1)) ∨ (IV 1 3205 (u.1 0) ∧ IV 0 400 (u.1 1))) (fun u t => va_P D classes [(a, .inr (7, [.ref a_bytes, .int a__length, .int (u.1 1), .int (u.1 0)])), (a_bytes, .inl (cs 0, 400, .inl a_bytes_c))] t.heap ∧ va_D A [(a, .inr (7, [.ref a_bytes, .int a__length, .int (u.1 1), .int (u.1 0)])), (a_bytes, .inl (cs 0, 400, .inl a_bytes_c))]) A) [.ref a, .int 0, .int p1].toArray s 0 0 A) (F0 m 94 ls []) := by
    intro k94_L_4 k94_L_3 k94_F_a_2 q94_2 q94_3 H locs hP hD hS ls hl
    refine lv_aload_n hx hb dX7_takeNumber_94 rfl (lv_at hl 2 rfl) ?_
    refine va_get (D := D) (ci := 7) (v := .int k94_F_a_2) (C := RX7) (T := TX7) (N := 4) hx hb hT i_X7 hown hK hP 0 rfl rfl 2 (by decide) (hT _ q_129) (fun _ h9 => h9) rfl dX7_takeNumber_95 ?_
    refine lv_iload_n hx hb dX7_takeNumber_98 rfl (lv_at hl 1 rfl) ?_
    refine lv_icmp_ne (tgt := 111) hx hb dX7_takeNumber_99 (by decide) (fun c4 => ?_) (fun c4 => ?_)
    · refine lv_aload_n hx hb dX7_takeNumber_111 rfl (lv_at hl 2 rfl) ?_
      refine va_get (D := D) (ci := 7) (v := .int k94_F_a_2) (C := RX7) (T := TX7) (N := 4) hx hb hT i_X7 hown hK hP 0 rfl rfl 2 (by decide) (hT _ q_129) (fun _ h9 => h9) rfl dX7_takeNumber_112 ?_
      refine lv_iload_n hx hb dX7_takeNumber_115 rfl (lv_at hl 1 rfl) ?_
      refine lv_isub hx hb dX7_takeNumber_116 ?_
      refine lv_topi (fun v5 ev5 => ?_)
      have hv5 : IV (-400) 400 v5 := iv_sub ev5 q94_2 q94_3 (by decide) (by decide)
      refine lv_iconst (v := 5) hx hb dX7_takeNumber_117 (by decide) ?_
      refine lv_icmp_gt (tgt := 133) hx hb dX7_takeNumber_118 (by decide) (fun c6 => ?_) (fun c6 => ?_)
      · have h7 : IV 6 400 v5 := iv_lt2 c6 (iv_c (a := 5) (b := 5) (by decide)) hv5 (by decide)
        exact K133 k94_L_4 k94_L_3 k94_F_a_2 q94_2 q94_3 H locs (hP.sub (ws' := [(a, .inr (7, [.ref a_bytes, .int a__length, .int k94_F_a_2, .int a__fault])), (a_bytes, .inl (cs 0, 400, .inl a_bytes_c))]) [0, 1] rfl) (hD.sub (ws' := [(a, .inr (7, [.ref a_bytes, .int a__length, .int k94_F_a_2, .int a__fault])), (a_bytes, .inl (cs 0, 400, .inl a_bytes_c))]) [0, 1] (by decide) rfl) hS ls (lv_sub hl [0, 1, 2, 3, 4] rfl)
      · have h8 : IV (-400) 5 v5 := iv_le1 (Int32.not_lt.mp c6) hv5 (iv_c (a := 5) (b := 5) (by decide)) (by decide)
        refine lv_iload hx hb dX7_takeNumber_121 (lv_at hl 0 rfl) ?_
        refine lv_iload_n hx hb dX7_takeNumber_123 rfl (lv_at hl 3 rfl) ?_
        refine lv_icmp_lt (tgt := 133) hx hb dX7_takeNumber_124 (by decide) (fun c9 => ?_) (fun c9 => ?_)
        · have h10 : IV (-2147483648) (-1) k94_L_4 := iv_lt1 c9 iv_top (iv_c (a := 0) (b := 0) (by decide)) (by decide)
          exact K133 k94_L_4 k94_L_3 k94_F_a_2 q94_2 q94_3 H locs (hP.sub (ws' := [(a, .inr (7, [.ref a_bytes, .int a__length, .int k94_F_a_2, .int a__fault])), (a_bytes, .inl (cs 0, 400, .inl a_bytes_c))]) [0, 1] rfl) (hD.sub (ws' := [(a, .inr (7, [.ref a_bytes, .int a__length, .int k94_F_a_2, .int a__fault])), (a_bytes, .inl (cs 0, 400, .inl a_bytes_c))]) [0, 1] (by decide) rfl) hS ls (lv_sub hl [0, 1, 2, 3, 4] rfl)
        · have h11 : IV 0 2147483647 k94_L_4 := iv_le2 (Int32.not_lt.mp c9) (iv_c (a := 0) (b := 0) (by decide)) iv_top (by decide)
          refine lv_iload hx hb dX7_takeNumber_127 (lv_at hl 0 rfl) ?_
          refine lv_iload_n hx hb dX7_takeNumber_129 rfl (lv_at hl 4 rfl) ?_
          refine lv_icmp_le (tgt := 139) hx hb dX7_takeNumber_130 (by decide) (fun c12 => ?_) (fun c12 => ?_)
          · have h13 : IV 0 3 k94_L_4 := iv_le1 c12 h11 h_p1 (by decide)
            have h14 : IV 0 3 p1 := iv_le2 c12 h11 h_p1 (by decide)
            refine lv_iload hx hb dX7_takeNumber_139 (lv_at hl 0 rfl) ?_
            refine W.widen (k := 0) (n := 0) (Nat.le_of_ble_eq_true rfl) (Nat.le_of_ble_eq_true rfl) ?_
            exact W.iret (v := k94_L_4) hx hb hr (fun t ht hW => ⟨⟨k94_L_4, (fun k => match k with | 0 => a__fault | 1 => k94_F_a_2 | _ => 0, fun _ _ => 0), rfl, (Or.inl (⟨h13, h_a__fault, h14, q94_2⟩)), by rw [ht]; exact hP.sub [0, 1] rfl, hD.sub [0, 1] (by decide) rfl⟩, hS.F ht⟩) hS.2.2 dX7_takeNumber_141
          · exact K133 k94_L_4 k94_L_3 k94_F_a_2 q94_2 q94_3 H locs (hP.sub (ws' := [(a, .inr (7, [.ref a_bytes, .int a__length, .int k94_F_a_2, .int a__fault])), (a_bytes, .inl (cs 0, 400, .inl a_bytes_c))]) [0, 1] rfl) (hD.sub (ws' := [(a, .inr (7, [.ref a_bytes, .int a__length, .int k94_F_a_2, .int a__fault])), (a_bytes, .inl (cs 0, 400, .inl a_bytes_c))]) [0, 1] (by decide) rfl) hS ls (lv_sub hl [0, 1, 2, 3, 4] rfl)
    · refine lv_aload_n hx hb dX7_takeNumber_102 rfl (lv_at hl 2 rfl) ?_
      refine lv_iload_n hx hb dX7_takeNumber_103 rfl (lv_at hl 1 rfl) ?_
      refine lv_iconst (v := 0) hx hb dX7_takeNumber_104 (by decide) ?_
      have hFc := va_free (wc := [(a, .inr (7, [.ref a_bytes, .int a__length, .int k94_F_a_2, .int a__fault]))]) hD hS hA [0] rfl
      refine va_callv (va_runV (As := [.int k94_L_3, .int 0]) (rest := []) ⟨hx, hb, hml, hown, hT⟩ (c_X7_fail l D cs kK kV a k94_L_3 0 a_bytes a__length k94_F_a_2 a__fault q94_3 ((iv_c (by decide))) h_a__fault H.size) (cwV 2 hT (hz_gV q_633 q_445 q_446 q_221 q_447) rfl rfl rfl (by decide +kernel) ⟨(Nat.le_of_ble_eq_true rfl), (Nat.le_of_ble_eq_true rfl)⟩) ⟨hz_C.blind, va_recv hK hP (ci := 7) (q0 := 0) rfl rfl, hz_C.mk (hP.sub (ws' := [(a, .inr (7, [.ref a_bytes, .int a__length, .int k94_F_a_2, .int a__fault]))]) [0] rfl) (hD.sub (ws' := [(a, .inr (7, [.ref a_bytes, .int a__length, .int k94_F_a_2, .int a__fault]))]) [0] (by decide) rfl) hE hS hFc⟩ rfl rfl hl.1 rfl (lv_room (Nat.le_of_ble_eq_true rfl)) dX7_takeNumber_105 ⟨(Nat.le_of_ble_eq_true rfl), (Nat.le_of_ble_eq_true rfl)⟩) hS (fun q _ h => hFc q h) hFc (fun o16 t H1 locs ht hvm hw hB hz1 hk1 hS => ?_)
      obtain ⟨hP1, hD1⟩ := hB
      rw [ht] at hP1
      obtain ⟨hP, hD⟩ := va_join (wr := [(a_bytes, .inl (cs 0, 400, .inl a_bytes_c))]) (w1 := [(a, .inr (7, [.ref a_bytes, .int a__length, .int k94_F_a_2, .int (o16.1 0)]))]) hP hD [0] [1] rfl rfl (by decide) (by decide) hk1 hFc hP1 hD1
      generalize H1 = H at hP hS ⊢
      have hP : va_P D classes [(a_bytes, .inl (cs 0, 400, .inl a_bytes_c)), (a, .inr (7, [.ref a_bytes, .int a__length, .int k94_F_a_2, .int (o16.1 0)]))] H := hP
      have hD : va_D A [(a_bytes, .inl (cs 0, 400, .inl a_bytes_c)), (a, .inr (7, [.ref a_bytes, .int a__length, .int k94_F_a_2, .int (o16.1 0)]))] := hD
      clear hk1 hFc hP1 hD1 hz1
      have h17 := hw
      refine lv_goto (tgt := 139) hx hb dX7_takeNumber_108 (by decide) ?_
      refine lv_iload hx hb dX7_takeNumber_139 (lv_at hl 0 rfl) ?_
      refine W.widen (k := 0) (n := 0) (Nat.le_of_ble_eq_true rfl) (Nat.le_of_ble_eq_true rfl) ?_
      exact W.iret (v := k94_L_4) hx hb hr (fun t ht hW => ⟨⟨k94_L_4, (fun k => match k with | 0 => o16.1 0 | 1 => k94_F_a_2 | _ => 0, fun _ _ => 0), rfl, (Or.inr ((⟨h17, q94_2⟩))), by rw [ht]; exact hP.sub [1, 0] rfl, hD.sub [1, 0] (by decide) rfl⟩, hS.F ht⟩) hS.2.2 dX7_takeNumber_141
  have K12 : ∀ (n : Nat) (k12_L_4 : Int32) (k12_L_3 : Int32) (k12_F_a_2 : Int32), (400 - k12_F_a_2.toInt + 1).toNat ≤ n → IV 0 400 k12_F_a_2 → IV 0 400 k12_L_3 → ∀ (H : Heap) (locs : List Loc), va_P D classes [(a, .inr (7, [.ref a_bytes, .int a__length, .int k12_F_a_2, .int a__fault])), (a_bytes, .inl (cs 0, 400, .inl a_bytes_c))] H → va_D A [(a, .inr (7, [.ref a_bytes, .int a__length, .int k12_F_a_2, .int a__fault])), (a_bytes, .inl (cs 0, 400, .inl a_bytes_c))] → va_S A s.heap H locs → ∀ ls : Array Slot, lv_has ls 5 [(4, .int k12_L_4), (3, .int k12_L_3), (0, .ref a), (1, .int 0), (2, .int p1)] → W p l e (headSpec (hz_w yX7_takeNumber cX7_takeNumber 5 (some .int)) ({ frames := 1, cells := 0, slots := 0, locals := 22 })).room s m [.ref a, .int 0, .int p1].toArray below meth c H locs 0 0 (MQ below (va_Qi (fun (r : Int32) (u : (Nat → Int32) × (Nat → Nat → Int32)) => (IV 0 3 r ∧ IV 0 3205 (u.1 0) ∧ IV 0 3 p1 ∧ IV 0 400 (u.1 1)) ∨ (IV 1 3205 (u.1 0) ∧ IV 0 400 (u.1 1))) (fun u t => va_P D classes [(a, .inr (7, [.ref a_bytes, .int a__length, .int (u.1 1), .int (u.1 0)])), (a_bytes, .inl (cs 0, 400, .inl a_bytes_c))] t.heap ∧ va_D A [(a, .inr (7, [.ref a_bytes, .int a__length, .int (u.1 1), .int (u.1 0)])), (a_bytes, .inl (cs 0, 400, .inl a_bytes_c))]) A) [.ref a, .int 0, .int p1].toArray s 0 0 A) (F0 m 12 ls []) := by
    intro n
    induction n with
    | zero =>
      intro k12_L_4 k12_L_3 k12_F_a_2 hn q12_2 q12_3 H locs hP hD hS ls hl
      exact absurd hn (by unfold IV at q12_2; omega)
    | succ n ih12 =>
      intro k12_L_4 k12_L_3 k12_F_a_2 hn q12_2 q12_3 H locs hP hD hS ls hl
      have K81 : ∀ (k81_L_4 : Int32), IV 1 400 a__length → IV 0 399 k12_F_a_2 → IV 0 400 k12_L_3 → ∀ (H : Heap) (locs : List Loc), va_P D classes [(a, .inr (7, [.ref a_bytes, .int a__length, .int k12_F_a_2, .int a__fault])), (a_bytes, .inl (cs 0, 400, .inl a_bytes_c))] H → va_D A [(a, .inr (7, [.ref a_bytes, .int a__length, .int k12_F_a_2, .int a__fault])), (a_bytes, .inl (cs 0, 400, .inl a_bytes_c))] → va_S A s.heap H locs → ∀ ls : Array Slot, lv_has ls 5 [(4, .int k81_L_4), (3, .int k12_L_3), (0, .ref a), (1, .int 0), (2, .int p1)] → W p l e (headSpec (hz_w yX7_takeNumber cX7_takeNumber 5 (some .int)) ({ frames := 1, cells := 0, slots := 0, locals := 22 })).room s m [.ref a, .int 0, .int p1].toArray below meth c H locs 0 0 (MQ below (va_Qi (fun (r : Int32) (u : (Nat → Int32) × (Nat → Nat → Int32)) => (IV 0 3 r ∧ IV 0 3205 (u.1 0) ∧ IV 0 3 p1 ∧ IV 0 400 (u.1 1)) ∨ (IV 1 3205 (u.1 0) ∧ IV 0 400 (u.1 1))) (fun u t => va_P D classes [(a, .inr (7, [.ref a_bytes, .int a__length, .int (u.1 1), .int (u.1 0)])), (a_bytes, .inl (cs 0, 400, .inl a_bytes_c))] t.heap ∧ va_D A [(a, .inr (7, [.ref a_bytes, .int a__length, .int (u.1 1), .int (u.1 0)])), (a_bytes, .inl (cs 0, 400, .inl a_bytes_c))]) A) [.ref a, .int 0, .int p1].toArray s 0 0 A) (F0 m 81 ls []) := by
        intro k81_L_4 q81_1 q81_2 q81_3 H locs hP hD hS ls hl
        refine lv_aload_n hx hb dX7_takeNumber_81 rfl (lv_at hl 2 rfl) ?_
        refine lv_dup hx hb dX7_takeNumber_82 rfl ?_
        refine va_get (D := D) (ci := 7) (v := .int k12_F_a_2) (C := RX7) (T := TX7) (N := 4) hx hb hT i_X7 hown hK hP 0 rfl rfl 2 (by decide) (hT _ q_129) (fun _ h9 => h9) rfl dX7_takeNumber_83 ?_
        refine lv_iconst (v := 1) hx hb dX7_takeNumber_86 (by decide) ?_
        refine lv_iadd hx hb dX7_takeNumber_87 ?_
        refine lv_topi (fun v18 ev18 => ?_)
        have hv18 : IV 1 400 v18 := iv_add ev18 q81_2 (iv_c (a := 1) (b := 1) (by decide)) (by decide) (by decide)
        have dv18 : v18.toInt = k12_F_a_2.toInt + 1 := iv_addE ev18 q81_2 (iv_c (a := 1) (b := 1) (by decide)) (by decide) (by decide) (by decide)
        refine va_put (D := D) (ci := 7) (v := .int v18) (ty := .int) (C := RX7) (T := TX7) (N := 4) hx hb hT i_X7 tyX7 tyX7_ok nmX7 hown hK hP hD hS 0 rfl rfl 2 (by decide) (hT _ q_129) (fun _ h9 => h9) rfl (by decide +kernel) rfl rfl (Nat.le_of_ble_eq_true rfl) dX7_takeNumber_88 (fun H locs hP hD hS => ?_)
        have hP : va_P D classes [(a, .inr (7, [.ref a_bytes, .int a__length, .int v18, .int a__fault])), (a_bytes, .inl (cs 0, 400, .inl a_bytes_c))] H := hP
        have hD : va_D A [(a, .inr (7, [.ref a_bytes, .int a__length, .int v18, .int a__fault])), (a_bytes, .inl (cs 0, 400, .inl a_bytes_c))] := hD
        refine lv_goto (tgt := 12) hx hb dX7_takeNumber_91 (by decide) ?_
        exact ih12 k81_L_4 k12_L_3 v18 (by have h9 := q81_2; unfold IV at h9; have := dv18; omega) (iv_w hv18 (by decide) (by decide)) q81_3 H locs (hP.sub (ws' := [(a, .inr (7, [.ref a_bytes, .int a__length, .int v18, .int a__fault])), (a_bytes, .inl (cs 0, 400, .inl a_bytes_c))]) [0, 1] rfl) (hD.sub (ws' := [(a, .inr (7, [.ref a_bytes, .int a__length, .int v18, .int a__fault])), (a_bytes, .inl (cs 0, 400, .inl a_bytes_c))]) [0, 1] (by decide) rfl) hS ls (lv_sub hl [0, 1, 2, 3, 4] rfl)
      refine lv_aload_n hx hb dX7_takeNumber_12 rfl (lv_at hl 2 rfl) ?_
      refine va_get (D := D) (ci := 7) (v := .int k12_F_a_2) (C := RX7) (T := TX7) (N := 4) hx hb hT i_X7 hown hK hP 0 rfl rfl 2 (by decide) (hT _ q_129) (fun _ h9 => h9) rfl dX7_takeNumber_13 ?_
      refine lv_aload_n hx hb dX7_takeNumber_16 rfl (lv_at hl 2 rfl) ?_
      refine va_get (D := D) (ci := 7) (v := .int a__length) (C := RX7) (T := TX7) (N := 4) hx hb hT i_X7 hown hK hP 0 rfl rfl 1 (by decide) (hT _ q_128) (fun _ h9 => h9) rfl dX7_takeNumber_17 ?_
      refine lv_icmp_ge (tgt := 94) hx hb dX7_takeNumber_20 (by decide) (fun c19 => ?_) (fun c19 => ?_)
      · exact K94 k12_L_4 k12_L_3 k12_F_a_2 q12_2 q12_3 H locs (hP.sub (ws' := [(a, .inr (7, [.ref a_bytes, .int a__length, .int k12_F_a_2, .int a__fault])), (a_bytes, .inl (cs 0, 400, .inl a_bytes_c))]) [0, 1] rfl) (hD.sub (ws' := [(a, .inr (7, [.ref a_bytes, .int a__length, .int k12_F_a_2, .int a__fault])), (a_bytes, .inl (cs 0, 400, .inl a_bytes_c))]) [0, 1] (by decide) rfl) hS ls (lv_sub hl [0, 1, 2, 3, 4] rfl)
      · have h20 : IV 0 399 k12_F_a_2 := iv_lt1 (Int32.not_le.mp c19) q12_2 h_a__length (by decide)
        have h21 : IV 1 400 a__length := iv_lt2 (Int32.not_le.mp c19) q12_2 h_a__length (by decide)
        refine lv_aload_n hx hb dX7_takeNumber_23 rfl (lv_at hl 2 rfl) ?_
        refine va_get (D := D) (ci := 7) (v := .ref a_bytes) (C := RX7) (T := TX7) (N := 4) hx hb hT i_X7 hown hK hP 0 rfl rfl 0 (by decide) (hT _ q_127) (fun _ h9 => h9) rfl dX7_takeNumber_24 ?_
        refine lv_aload_n hx hb dX7_takeNumber_27 rfl (lv_at hl 2 rfl) ?_
        refine va_get (D := D) (ci := 7) (v := .int k12_F_a_2) (C := RX7) (T := TX7) (N := 4) hx hb hT i_X7 hown hK hP 0 rfl rfl 2 (by decide) (hT _ q_129) (fun _ h9 => h9) rfl dX7_takeNumber_28 ?_
        refine va_iald hx hb hK hP 1 0 rfl rfl (iv_v h20 (by decide) (by decide)) dX7_takeNumber_31 ?_
        refine lv_topi (fun v22 ev22 => ?_)
        have hv22 : IV 0 255 v22 := iv_ci ev22 h_a_bytes_c (iv_v h20 (by decide) (by decide))
        refine lv_bipush (v := 48) hx hb dX7_takeNumber_32 (by decide) ?_
        refine lv_icmp_lt (tgt := 94) hx hb dX7_takeNumber_34 (by decide) (fun c23 => ?_) (fun c23 => ?_)
        · have h24 : IV 0 47 v22 := iv_lt1 c23 hv22 (iv_c (a := 48) (b := 48) (by decide)) (by decide)
          exact K94 k12_L_4 k12_L_3 k12_F_a_2 (iv_w h20 (by decide) (by decide)) q12_3 H locs (hP.sub (ws' := [(a, .inr (7, [.ref a_bytes, .int a__length, .int k12_F_a_2, .int a__fault])), (a_bytes, .inl (cs 0, 400, .inl a_bytes_c))]) [0, 1] rfl) (hD.sub (ws' := [(a, .inr (7, [.ref a_bytes, .int a__length, .int k12_F_a_2, .int a__fault])), (a_bytes, .inl (cs 0, 400, .inl a_bytes_c))]) [0, 1] (by decide) rfl) hS ls (lv_sub hl [0, 1, 2, 3, 4] rfl)
        · have h25 : IV 48 255 v22 := iv_le2 (Int32.not_lt.mp c23) (iv_c (a := 48) (b := 48) (by decide)) hv22 (by decide)
          refine lv_aload_n hx hb dX7_takeNumber_37 rfl (lv_at hl 2 rfl) ?_
          refine va_get (D := D) (ci := 7) (v := .ref a_bytes) (C := RX7) (T := TX7) (N := 4) hx hb hT i_X7 hown hK hP 0 rfl rfl 0 (by decide) (hT _ q_127) (fun _ h9 => h9) rfl dX7_takeNumber_38 ?_
          refine lv_aload_n hx hb dX7_takeNumber_41 rfl (lv_at hl 2 rfl) ?_
          refine va_get (D := D) (ci := 7) (v := .int k12_F_a_2) (C := RX7) (T := TX7) (N := 4) hx hb hT i_X7 hown hK hP 0 rfl rfl 2 (by decide) (hT _ q_129) (fun _ h9 => h9) rfl dX7_takeNumber_42 ?_
          refine va_iald hx hb hK hP 1 0 rfl rfl (iv_v h20 (by decide) (by decide)) dX7_takeNumber_45 ?_
          refine hz_ev v22 ev22.symm ?_
          refine lv_bipush (v := 57) hx hb dX7_takeNumber_46 (by decide) ?_
          refine lv_icmp_gt (tgt := 94) hx hb dX7_takeNumber_48 (by decide) (fun c26 => ?_) (fun c26 => ?_)
          · have h27 : IV 58 255 v22 := iv_lt2 c26 (iv_c (a := 57) (b := 57) (by decide)) h25 (by decide)
            exact K94 k12_L_4 k12_L_3 k12_F_a_2 (iv_w h20 (by decide) (by decide)) q12_3 H locs (hP.sub (ws' := [(a, .inr (7, [.ref a_bytes, .int a__length, .int k12_F_a_2, .int a__fault])), (a_bytes, .inl (cs 0, 400, .inl a_bytes_c))]) [0, 1] rfl) (hD.sub (ws' := [(a, .inr (7, [.ref a_bytes, .int a__length, .int k12_F_a_2, .int a__fault])), (a_bytes, .inl (cs 0, 400, .inl a_bytes_c))]) [0, 1] (by decide) rfl) hS ls (lv_sub hl [0, 1, 2, 3, 4] rfl)
          · have h28 : IV 48 57 v22 := iv_le1 (Int32.not_lt.mp c26) h25 (iv_c (a := 57) (b := 57) (by decide)) (by decide)
            refine lv_aload_n hx hb dX7_takeNumber_51 rfl (lv_at hl 2 rfl) ?_
            refine va_get (D := D) (ci := 7) (v := .int k12_F_a_2) (C := RX7) (T := TX7) (N := 4) hx hb hT i_X7 hown hK hP 0 rfl rfl 2 (by decide) (hT _ q_129) (fun _ h9 => h9) rfl dX7_takeNumber_52 ?_
            refine lv_iload_n hx hb dX7_takeNumber_55 rfl (lv_at hl 1 rfl) ?_
            refine lv_isub hx hb dX7_takeNumber_56 ?_
            refine lv_topi (fun v29 ev29 => ?_)
            have hv29 : IV (-400) 399 v29 := iv_sub ev29 h20 q12_3 (by decide) (by decide)
            refine lv_iconst (v := 5) hx hb dX7_takeNumber_57 (by decide) ?_
            refine lv_icmp_ge (tgt := 81) hx hb dX7_takeNumber_58 (by decide) (fun c30 => ?_) (fun c30 => ?_)
            · have h31 : IV 5 399 v29 := iv_le2 c30 (iv_c (a := 5) (b := 5) (by decide)) hv29 (by decide)
              exact K81 k12_L_4 h21 h20 q12_3 H locs (hP.sub (ws' := [(a, .inr (7, [.ref a_bytes, .int a__length, .int k12_F_a_2, .int a__fault])), (a_bytes, .inl (cs 0, 400, .inl a_bytes_c))]) [0, 1] rfl) (hD.sub (ws' := [(a, .inr (7, [.ref a_bytes, .int a__length, .int k12_F_a_2, .int a__fault])), (a_bytes, .inl (cs 0, 400, .inl a_bytes_c))]) [0, 1] (by decide) rfl) hS ls (lv_sub hl [0, 1, 2, 3, 4] rfl)
            · have h32 : IV (-400) 4 v29 := iv_lt1 (Int32.not_le.mp c30) hv29 (iv_c (a := 5) (b := 5) (by decide)) (by decide)
              refine lv_iload hx hb dX7_takeNumber_61 (lv_at hl 0 rfl) ?_
              refine lv_bipush (v := 10) hx hb dX7_takeNumber_63 (by decide) ?_
              refine lv_imul hx hb dX7_takeNumber_65 ?_
              refine lv_topi (fun v33 ev33 => ?_)
              refine lv_aload_n hx hb dX7_takeNumber_66 rfl (lv_at hl 2 rfl) ?_
              refine va_get (D := D) (ci := 7) (v := .ref a_bytes) (C := RX7) (T := TX7) (N := 4) hx hb hT i_X7 hown hK hP 0 rfl rfl 0 (by decide) (hT _ q_127) (fun _ h9 => h9) rfl dX7_takeNumber_67 ?_
              refine lv_aload_n hx hb dX7_takeNumber_70 rfl (lv_at hl 2 rfl) ?_
              refine va_get (D := D) (ci := 7) (v := .int k12_F_a_2) (C := RX7) (T := TX7) (N := 4) hx hb hT i_X7 hown hK hP 0 rfl rfl 2 (by decide) (hT _ q_129) (fun _ h9 => h9) rfl dX7_takeNumber_71 ?_
              refine va_iald hx hb hK hP 1 0 rfl rfl (iv_v h20 (by decide) (by decide)) dX7_takeNumber_74 ?_
              refine hz_ev v22 ev22.symm ?_
              refine lv_iadd hx hb dX7_takeNumber_75 ?_
              refine lv_topi (fun v34 ev34 => ?_)
              refine lv_bipush (v := 48) hx hb dX7_takeNumber_76 (by decide) ?_
              refine lv_isub hx hb dX7_takeNumber_78 ?_
              refine lv_topi (fun v35 ev35 => ?_)
              refine lv_istore (lv' := [(4, .int v35), (3, .int k12_L_3), (0, .ref a), (1, .int 0), (2, .int p1)]) hx hb dX7_takeNumber_79 hl (by decide) rfl (fun ls hl => ?_)
              exact K81 v35 h21 h20 q12_3 H locs (hP.sub (ws' := [(a, .inr (7, [.ref a_bytes, .int a__length, .int k12_F_a_2, .int a__fault])), (a_bytes, .inl (cs 0, 400, .inl a_bytes_c))]) [0, 1] rfl) (hD.sub (ws' := [(a, .inr (7, [.ref a_bytes, .int a__length, .int k12_F_a_2, .int a__fault])), (a_bytes, .inl (cs 0, 400, .inl a_bytes_c))]) [0, 1] (by decide) rfl) hS ls (lv_sub hl [0, 1, 2, 3, 4] rfl)
  refine lv_aload_n hx hb dX7_takeNumber_0 rfl (lv_at hl 0 rfl) ?_
  have hFc := va_free (wc := [(a, .inr (7, [.ref a_bytes, .int a__length, .int a__place, .int a__fault])), (a_bytes, .inl (cs 0, 400, .inl a_bytes_c))]) hD hS hA [0,1] rfl
  refine va_callv (va_runV (As := []) (rest := []) ⟨hx, hb, hml, hown, hT⟩ (c_X7_skipBlanks l D cs kK kV a a_bytes a__length a__place a__fault a_bytes_c h_a__length h_a__place h_a_bytes_c H.size) (cwV 0 hT (hz_gV q_631 q_437 q_438 q_221 q_439) rfl rfl rfl (by decide +kernel) ⟨(Nat.le_of_ble_eq_true rfl), (Nat.le_of_ble_eq_true rfl)⟩) ⟨hz_C.blind, va_recv hK hP (ci := 7) (q0 := 0) rfl rfl, hz_C.mk (hP.sub (ws' := [(a, .inr (7, [.ref a_bytes, .int a__length, .int a__place, .int a__fault])), (a_bytes, .inl (cs 0, 400, .inl a_bytes_c))]) [0,1] rfl) (hD.sub (ws' := [(a, .inr (7, [.ref a_bytes, .int a__length, .int a__place, .int a__fault])), (a_bytes, .inl (cs 0, 400, .inl a_bytes_c))]) [0,1] (by decide) rfl) hE hS hFc⟩ rfl rfl hl.1 rfl (lv_room (Nat.le_of_ble_eq_true rfl)) dX7_takeNumber_1 ⟨(Nat.le_of_ble_eq_true rfl), (Nat.le_of_ble_eq_true rfl)⟩) hS (fun q _ h => hFc q h) hFc (fun u t H1 locs ht hvm hw hB hz1 hk1 hS => ?_)
  obtain ⟨o37, h38, hP1, hD1⟩ := hB
  rw [ht] at hP1
  obtain ⟨hP, hD⟩ := va_join (wr := []) (w1 := [(a, .inr (7, [.ref a_bytes, .int a__length, .int o37, .int a__fault])), (a_bytes, .inl (cs 0, 400, .inl a_bytes_c))]) hP hD [0, 1] [] rfl rfl (by decide) (by decide) hk1 hFc hP1 hD1
  generalize H1 = H at hP hS ⊢
  have hP : va_P D classes [(a, .inr (7, [.ref a_bytes, .int a__length, .int o37, .int a__fault])), (a_bytes, .inl (cs 0, 400, .inl a_bytes_c))] H := hP
  have hD : va_D A [(a, .inr (7, [.ref a_bytes, .int a__length, .int o37, .int a__fault])), (a_bytes, .inl (cs 0, 400, .inl a_bytes_c))] := hD
  clear hk1 hFc hP1 hD1 hz1
  refine lv_aload_n hx hb dX7_takeNumber_4 rfl (lv_at hl 0 rfl) ?_
  refine va_get (D := D) (ci := 7) (v := .int o37) (C := RX7) (T := TX7) (N := 4) hx hb hT i_X7 hown hK hP 0 rfl rfl 2 (by decide) (hT _ q_129) (fun _ h9 => h9) rfl dX7_takeNumber_5 ?_
  refine lv_istore_n (lv' := [(3, .int o37), (0, .ref a), (1, .int 0), (2, .int p1)]) hx hb dX7_takeNumber_8 rfl hl (by decide) rfl (fun ls hl => ?_)
  refine lv_iconst (v := 0) hx hb dX7_takeNumber_9 (by decide) ?_
  refine lv_istore (lv' := [(4, .int 0), (3, .int o37), (0, .ref a), (1, .int 0), (2, .int p1)]) hx hb dX7_takeNumber_10 hl (by decide) rfl (fun ls hl => ?_)
  exact K12 _ 0 o37 o37 (Nat.le_refl _) h38 h38 H locs (hP.sub (ws' := [(a, .inr (7, [.ref a_bytes, .int a__length, .int o37, .int a__fault])), (a_bytes, .inl (cs 0, 400, .inl a_bytes_c))]) [0, 1] rfl) (hD.sub (ws' := [(a, .inr (7, [.ref a_bytes, .int a__length, .int o37, .int a__fault])), (a_bytes, .inl (cs 0, 400, .inl a_bytes_c))]) [0, 1] (by decide) rfl) hS ls (lv_sub hl [0, 1, 2, 3, 4] rfl)
set_option maxHeartbeats 4000000 in
set_option maxRecDepth 100000 in
theorem c_X0_numberTold_58 (l : Launch) (D : va_G) (cs : Nat → ClassId) (kK kV : Nat → Nat) (a : Nat) (p1 : Int32) (a_tape : Nat) (a_told : Nat) (a__kindsTold : Int32) (a_tape_bytes : Nat) (a_tape__length : Int32) (a_tape__place : Int32) (a_tape__fault : Int32) (a_tape_bytes_c : Nat → Int32) (h_p1 : IV (-1) 3 p1) (h_a_tape__length : IV 0 400 a_tape__length) (h_a_tape__place : IV 0 400 a_tape__place) (h_a_tape__fault : IV 0 3205 a_tape__fault) (h_a_tape_bytes_c : CI 400 0 255 a_tape_bytes_c) (sz : Nat) : Met l yX0_numberTold (hz_w yX0_numberTold cX0_numberTold 3 (some .int)) ({ frames := 2, cells := 0, slots := 0, locals := 46 }) (va_Pc [.ref a, .int 0, .int p1] (hz_C D cs kK kV sz [(a, .inr (0, [.ref a_tape, .ref a_told, .int a__kindsTold])), (a_tape, .inr (7, [.ref a_tape_bytes, .int a_tape__length, .int a_tape__place, .int a_tape__fault])), (a_tape_bytes, .inl (cs 0, 400, .inl a_tape_bytes_c))])) (va_Qi (fun (r : Int32) (u : (Nat → Int32) × (Nat → Nat → Int32)) => (r = 0 ∧ IV 1 3205 (u.1 0) ∧ IV 1 3205 a_tape__fault ∧ IV 0 400 (u.1 1)) ∨ (IV 0 3 r ∧ IV 0 3205 (u.1 0) ∧ IV 0 0 a_tape__fault ∧ IV 0 3 p1 ∧ IV 0 400 (u.1 1)) ∨ (IV 1 3205 (u.1 0) ∧ IV 0 0 a_tape__fault ∧ IV 0 400 (u.1 1))) (fun u t => va_P D classes [(a, .inr (0, [.ref a_tape, .ref a_told, .int a__kindsTold])), (a_tape, .inr (7, [.ref a_tape_bytes, .int a_tape__length, .int (u.1 1), .int (u.1 0)])), (a_tape_bytes, .inl (cs 0, 400, .inl a_tape_bytes_c))] t.heap ∧ va_D (va_A [(a, .inr (0, [.ref a_tape, .ref a_told, .int a__kindsTold])), (a_tape, .inr (7, [.ref a_tape_bytes, .int a_tape__length, .int a_tape__place, .int a_tape__fault])), (a_tape_bytes, .inl (cs 0, 400, .inl a_tape_bytes_c))] sz) [(a, .inr (0, [.ref a_tape, .ref a_told, .int a__kindsTold])), (a_tape, .inr (7, [.ref a_tape_bytes, .int a_tape__length, .int (u.1 1), .int (u.1 0)])), (a_tape_bytes, .inl (cs 0, 400, .inl a_tape_bytes_c))]) (va_A [(a, .inr (0, [.ref a_tape, .ref a_told, .int a__kindsTold])), (a_tape, .inr (7, [.ref a_tape_bytes, .int a_tape__length, .int a_tape__place, .int a_tape__fault])), (a_tape_bytes, .inl (cs 0, 400, .inl a_tape_bytes_c))] sz)) 0 0 (va_A [(a, .inr (0, [.ref a_tape, .ref a_told, .int a__kindsTold])), (a_tape, .inr (7, [.ref a_tape_bytes, .int a_tape__length, .int a_tape__place, .int a_tape__fault])), (a_tape_bytes, .inl (cs 0, 400, .inl a_tape_bytes_c))] sz) := by
  refine Met.ofW (cc := cX0_numberTold) (maxL := 3) (ret := (some .int)) (by decide) rfl ?_
  intro p e s m args below meth c s₁ B hml hv
  obtain ⟨rfl, hsz, hP, hD0, hE⟩ := hv
  have hx := B.exec
  have hb := B.bytes
  have hr := B.returns
  have hT : ∀ w ∈ TB, w.before _ s = true := fun w h => atoms_spec (ws := hz_w yX0_numberTold cX0_numberTold 3 (some .int)) B.pre w (List.mem_cons_of_mem _ h)
  have hown : s.vm.findClass RX0 = some m.cls := findClass_of_methodNamed B.named
  have hlocks := B.notSynchronized
  clear B
  subst hsz
  have hD := hD0.self (sz := s.heap.size)
  generalize hAe : va_A [(a, .inr (0, [.ref a_tape, .ref a_told, .int a__kindsTold])), (a_tape, .inr (7, [.ref a_tape_bytes, .int a_tape__length, .int a_tape__place, .int a_tape__fault])), (a_tape_bytes, .inl (cs 0, 400, .inl a_tape_bytes_c))] s.heap.size = A at hD hE ⊢
  have hA : ∀ q : Nat, s.heap.size ≤ q → A q := fun q h => by rw [← hAe]; exact Or.inr h
  clear hAe hD0
  have hS : va_S A s.heap s.heap [] := va_S.rf
  have hK := hE.1
  have hl := lv_entry ([.ref a, .int 0, .int p1]) (n := 3) (Nat.le_of_ble_eq_true rfl)
  rw [lg_entry_eq]
  generalize (lg_sl ([.ref a, .int 0, .int p1]) ++ List.replicate (3 - (lg_sl ([.ref a, .int 0, .int p1])).length) Slot.unset).toArray = ls at hl ⊢
  have hl : lv_has ls 3 [(0, .ref a), (1, .int 0), (2, .int p1)] := hl
  obtain ⟨H, eH⟩ : ∃ z, z = s.heap := ⟨_, rfl⟩
  have hP : va_P D classes [(a, .inr (0, [.ref a_tape, .ref a_told, .int a__kindsTold])), (a_tape, .inr (7, [.ref a_tape_bytes, .int a_tape__length, .int a_tape__place, .int a_tape__fault])), (a_tape_bytes, .inl (cs 0, 400, .inl a_tape_bytes_c))] H := by rw [eH]; exact hP
  have hS : va_S A s.heap H [] := by rw [eH]; exact hS
  rw [← eH]
  clear eH
  obtain ⟨locs, el⟩ : ∃ z : List Loc, z = [] := ⟨_, rfl⟩
  rw [← el] at hS ⊢
  clear el
  refine lv_aload_n hx hb dX0_numberTold_0 rfl (lv_at hl 0 rfl) ?_
  refine va_get (D := D) (ci := 0) (v := .ref a_tape) (C := RX0) (T := TX0) (N := 3) hx hb hT i_X0 hown hK hP 0 rfl rfl 0 (by decide) (hT _ q_44) (fun _ h9 => h9) rfl dX0_numberTold_1 ?_
  refine va_calli (va_runV (As := []) (rest := []) ⟨hx, hb, hml, hown, hT⟩ (c_X7_isSound l D cs kK kV a_tape a_tape_bytes a_tape__length a_tape__place a_tape__fault h_a_tape__fault) (cwV 0 hT (hz_gV q_420 q_421 q_422 q_221 q_423) rfl rfl rfl (by decide +kernel) ⟨(Nat.le_of_ble_eq_true rfl), (Nat.le_of_ble_eq_true rfl)⟩) ⟨hz_P.blind, va_recv hK hP (ci := 7) (q0 := 1) rfl rfl, hz_P.mk (hP.sub (ws' := [(a_tape, .inr (7, [.ref a_tape_bytes, .int a_tape__length, .int a_tape__place, .int a_tape__fault]))]) [1] rfl) hE hS⟩ rfl rfl hl.1 rfl (lv_room (Nat.le_of_ble_eq_true rfl)) dX0_numberTold_4 ⟨(Nat.le_of_ble_eq_true rfl), (Nat.le_of_ble_eq_true rfl)⟩) hS (fun _ _ h => h.elim) (fun _ h => h.elim) (fun r1 u t H1 locs ht hvm hw hB hz1 hk1 hS => ?_)
  have hP := hz_keep hP hk1
  clear hk1 hB hz1
  generalize H1 = H at hP hS ⊢
  rcases hw with ⟨rfl, h2⟩ | ⟨rfl, h3⟩
  · refine lv_if_eq (tgt := 22) hx hb dX0_numberTold_7 (by decide) (fun _ => ?_) (fun z => absurd (by decide) z)
    refine lv_iload_n hx hb dX0_numberTold_22 rfl (lv_at hl 1 rfl) ?_
    refine W.widen (k := 0) (n := 0) (Nat.le_of_ble_eq_true rfl) (Nat.le_of_ble_eq_true rfl) ?_
    exact W.iret (v := 0) hx hb hr (fun t ht hW => ⟨⟨0, (fun k => match k with | 0 => a_tape__fault | 1 => a_tape__place | _ => 0, fun _ _ => 0), rfl, (Or.inl (⟨rfl, h2, h2, h_a_tape__place⟩)), by rw [ht]; exact hP.sub [0, 1, 2] rfl, hD.sub [0, 1, 2] (by decide) rfl⟩, hS.F ht⟩) hS.2.2 dX0_numberTold_23
  · refine lv_if_eq (tgt := 22) hx hb dX0_numberTold_7 (by decide) (fun z => absurd z (by decide)) (fun _ => ?_)
    refine lv_aload_n hx hb dX0_numberTold_10 rfl (lv_at hl 0 rfl) ?_
    refine va_get (D := D) (ci := 0) (v := .ref a_tape) (C := RX0) (T := TX0) (N := 3) hx hb hT i_X0 hown hK hP 0 rfl rfl 0 (by decide) (hT _ q_44) (fun _ h9 => h9) rfl dX0_numberTold_11 ?_
    refine lv_iload_n hx hb dX0_numberTold_14 rfl (lv_at hl 1 rfl) ?_
    refine lv_iload_n hx hb dX0_numberTold_15 rfl (lv_at hl 2 rfl) ?_
    have hFc := va_free (wc := [(a_tape, .inr (7, [.ref a_tape_bytes, .int a_tape__length, .int a_tape__place, .int a_tape__fault])), (a_tape_bytes, .inl (cs 0, 400, .inl a_tape_bytes_c))]) hD hS hA [1,2] rfl
    refine va_calli (va_runV (As := [.int 0, .int p1]) (rest := []) ⟨hx, hb, hml, hown, hT⟩ (c_X7_takeNumber_59 l D cs kK kV a_tape p1 a_tape_bytes a_tape__length a_tape__place a_tape__fault a_tape_bytes_c h_p1 h_a_tape__length h_a_tape__place ((iv_w h3 (by decide) (by decide))) h_a_tape_bytes_c H.size) (cwV 2 hT (hz_gV q_472 q_473 q_474 q_221 q_475) rfl rfl rfl (by decide +kernel) ⟨(Nat.le_of_ble_eq_true rfl), (Nat.le_of_ble_eq_true rfl)⟩) ⟨hz_C.blind, va_recv hK hP (ci := 7) (q0 := 1) rfl rfl, hz_C.mk (hP.sub (ws' := [(a_tape, .inr (7, [.ref a_tape_bytes, .int a_tape__length, .int a_tape__place, .int a_tape__fault])), (a_tape_bytes, .inl (cs 0, 400, .inl a_tape_bytes_c))]) [1,2] rfl) (hD.sub (ws' := [(a_tape, .inr (7, [.ref a_tape_bytes, .int a_tape__length, .int a_tape__place, .int a_tape__fault])), (a_tape_bytes, .inl (cs 0, 400, .inl a_tape_bytes_c))]) [1,2] (by decide) rfl) hE hS hFc⟩ rfl rfl hl.1 rfl (lv_room (Nat.le_of_ble_eq_true rfl)) dX0_numberTold_16 ⟨(Nat.le_of_ble_eq_true rfl), (Nat.le_of_ble_eq_true rfl)⟩) hS (fun q _ h => hFc q h) hFc (fun r4 o5 t H1 locs ht hvm hw hB hz1 hk1 hS => ?_)
    obtain ⟨hP1, hD1⟩ := hB
    rw [ht] at hP1
    obtain ⟨hP, hD⟩ := va_join (wr := [(a, .inr (0, [.ref a_tape, .ref a_told, .int a__kindsTold]))]) (w1 := [(a_tape, .inr (7, [.ref a_tape_bytes, .int a_tape__length, .int (o5.1 1), .int (o5.1 0)])), (a_tape_bytes, .inl (cs 0, 400, .inl a_tape_bytes_c))]) hP hD [1, 2] [0] rfl rfl (by decide) (by decide) hk1 hFc hP1 hD1
    generalize H1 = H at hP hS ⊢
    have hP : va_P D classes [(a, .inr (0, [.ref a_tape, .ref a_told, .int a__kindsTold])), (a_tape, .inr (7, [.ref a_tape_bytes, .int a_tape__length, .int (o5.1 1), .int (o5.1 0)])), (a_tape_bytes, .inl (cs 0, 400, .inl a_tape_bytes_c))] H := hP
    have hD : va_D A [(a, .inr (0, [.ref a_tape, .ref a_told, .int a__kindsTold])), (a_tape, .inr (7, [.ref a_tape_bytes, .int a_tape__length, .int (o5.1 1), .int (o5.1 0)])), (a_tape_bytes, .inl (cs 0, 400, .inl a_tape_bytes_c))] := hD
    clear hk1 hFc hP1 hD1 hz1
    rcases hw with ⟨h6, h7, h8, h9⟩ | ⟨h10, h11⟩
    · refine lv_goto (tgt := 23) hx hb dX0_numberTold_19 (by decide) ?_
      refine W.widen (k := 0) (n := 0) (Nat.le_of_ble_eq_true rfl) (Nat.le_of_ble_eq_true rfl) ?_
      exact W.iret (v := r4) hx hb hr (fun t ht hW => ⟨⟨r4, (fun k => match k with | 0 => o5.1 0 | 1 => o5.1 1 | _ => 0, fun _ _ => 0), rfl, (Or.inr (Or.inl (⟨h6, h7, h3, h8, h9⟩))), by rw [ht]; exact hP.sub [0, 1, 2] rfl, hD.sub [0, 1, 2] (by decide) rfl⟩, hS.F ht⟩) hS.2.2 dX0_numberTold_23
    · refine lv_goto (tgt := 23) hx hb dX0_numberTold_19 (by decide) ?_
      refine W.widen (k := 0) (n := 0) (Nat.le_of_ble_eq_true rfl) (Nat.le_of_ble_eq_true rfl) ?_
      exact W.iret (v := r4) hx hb hr (fun t ht hW => ⟨⟨r4, (fun k => match k with | 0 => o5.1 0 | 1 => o5.1 1 | _ => 0, fun _ _ => 0), rfl, (Or.inr (Or.inr ((⟨h10, h3, h11⟩)))), by rw [ht]; exact hP.sub [0, 1, 2] rfl, hD.sub [0, 1, 2] (by decide) rfl⟩, hS.F ht⟩) hS.2.2 dX0_numberTold_23
