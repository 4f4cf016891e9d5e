theorem dX5_readRule_0 : decode cX5_readRule 0 = .ok (.aload_n 0, 1) := by decide +kernel
theorem dX5_readRule_1 : decode cX5_readRule 1 = .ok (.aload_n 1, 1) := by decide +kernel
theorem dX5_readRule_2 : decode cX5_readRule 2 = .ok (.putfield 15, 3) := by decide +kernel
theorem dX5_readRule_5 : decode cX5_readRule 5 = .ok (.new 19, 3) := by decide +kernel
theorem dX5_readRule_8 : decode cX5_readRule 8 = .ok (.dup, 1) := by decide +kernel
theorem dX5_readRule_9 : decode cX5_readRule 9 = .ok (.invokespecial 21, 3) := by decide +kernel
theorem dX5_readRule_12 : decode cX5_readRule 12 = .ok (.astore_n 2, 1) := by decide +kernel
theorem dX5_readRule_13 : decode cX5_readRule 13 = .ok (.aload_n 0, 1) := by decide +kernel
theorem dX5_readRule_14 : decode cX5_readRule 14 = .ok (.iconst 0, 1) := by decide +kernel
theorem dX5_readRule_15 : decode cX5_readRule 15 = .ok (.putfield 22, 3) := by decide +kernel
theorem dX5_readRule_18 : decode cX5_readRule 18 = .ok (.aload_n 0, 1) := by decide +kernel
theorem dX5_readRule_19 : decode cX5_readRule 19 = .ok (.iconst 0, 1) := by decide +kernel
theorem dX5_readRule_20 : decode cX5_readRule 20 = .ok (.putfield 26, 3) := by decide +kernel
theorem dX5_readRule_23 : decode cX5_readRule 23 = .ok (.aload_n 0, 1) := by decide +kernel
theorem dX5_readRule_24 : decode cX5_readRule 24 = .ok (.getfield 15, 3) := by decide +kernel
theorem dX5_readRule_27 : decode cX5_readRule 27 = .ok (.invokevirtual 29, 3) := by decide +kernel
theorem dX5_readRule_30 : decode cX5_readRule 30 = .ok (.iconst 1, 1) := by decide +kernel
theorem dX5_readRule_31 : decode cX5_readRule 31 = .ok (.istore_n 3, 1) := by decide +kernel
theorem dX5_readRule_32 : decode cX5_readRule 32 = .ok (.iconst 0, 1) := by decide +kernel
theorem dX5_readRule_33 : decode cX5_readRule 33 = .ok (.istore 4, 2) := by decide +kernel
theorem dX5_readRule_35 : decode cX5_readRule 35 = .ok (.iload 4, 2) := by decide +kernel
theorem dX5_readRule_37 : decode cX5_readRule 37 = .ok (.bipush 12, 2) := by decide +kernel
theorem dX5_readRule_39 : decode cX5_readRule 39 = .ok (.if_icmp .gt 54, 3) := by decide +kernel
theorem dX5_readRule_42 : decode cX5_readRule 42 = .ok (.iload_n 3, 1) := by decide +kernel
theorem dX5_readRule_43 : decode cX5_readRule 43 = .ok (.ifCond .eq 50, 3) := by decide +kernel
theorem dX5_readRule_46 : decode cX5_readRule 46 = .ok (.aload_n 0, 1) := by decide +kernel
theorem dX5_readRule_47 : decode cX5_readRule 47 = .ok (.getfield 15, 3) := by decide +kernel
theorem dX5_readRule_50 : decode cX5_readRule 50 = .ok (.invokevirtual 34, 3) := by decide +kernel
theorem dX5_readRule_53 : decode cX5_readRule 53 = .ok (.ifCond .eq 40, 3) := by decide +kernel
theorem dX5_readRule_56 : decode cX5_readRule 56 = .ok (.aload_n 0, 1) := by decide +kernel
theorem dX5_readRule_57 : decode cX5_readRule 57 = .ok (.aload_n 2, 1) := by decide +kernel
theorem dX5_readRule_58 : decode cX5_readRule 58 = .ok (.invokevirtual 38, 3) := by decide +kernel
theorem dX5_readRule_61 : decode cX5_readRule 61 = .ok (.aload_n 0, 1) := by decide +kernel
theorem dX5_readRule_62 : decode cX5_readRule 62 = .ok (.getfield 15, 3) := by decide +kernel
theorem dX5_readRule_65 : decode cX5_readRule 65 = .ok (.invokevirtual 34, 3) := by decide +kernel
theorem dX5_readRule_68 : decode cX5_readRule 68 = .ok (.ifCond .eq 17, 3) := by decide +kernel
theorem dX5_readRule_71 : decode cX5_readRule 71 = .ok (.aload_n 0, 1) := by decide +kernel
theorem dX5_readRule_72 : decode cX5_readRule 72 = .ok (.getfield 15, 3) := by decide +kernel
theorem dX5_readRule_75 : decode cX5_readRule 75 = .ok (.invokevirtual 42, 3) := by decide +kernel
theorem dX5_readRule_78 : decode cX5_readRule 78 = .ok (.ifCond .eq 7, 3) := by decide +kernel
theorem dX5_readRule_81 : decode cX5_readRule 81 = .ok (.iconst 1, 1) := by decide +kernel
theorem dX5_readRule_82 : decode cX5_readRule 82 = .ok (.goto 4, 3) := by decide +kernel
theorem dX5_readRule_85 : decode cX5_readRule 85 = .ok (.iconst 0, 1) := by decide +kernel
theorem dX5_readRule_86 : decode cX5_readRule 86 = .ok (.istore_n 3, 1) := by decide +kernel
theorem dX5_readRule_87 : decode cX5_readRule 87 = .ok (.iinc 4 1, 3) := by decide +kernel
theorem dX5_readRule_90 : decode cX5_readRule 90 = .ok (.goto (-55), 3) := by decide +kernel
theorem dX5_readRule_93 : decode cX5_readRule 93 = .ok (.aload_n 0, 1) := by decide +kernel
theorem dX5_readRule_94 : decode cX5_readRule 94 = .ok (.getfield 15, 3) := by decide +kernel
theorem dX5_readRule_97 : decode cX5_readRule 97 = .ok (.invokevirtual 34, 3) := by decide +kernel
theorem dX5_readRule_100 : decode cX5_readRule 100 = .ok (.ifCond .eq 18, 3) := by decide +kernel
theorem dX5_readRule_103 : decode cX5_readRule 103 = .ok (.aload_n 2, 1) := by decide +kernel
theorem dX5_readRule_104 : decode cX5_readRule 104 = .ok (.aload_n 0, 1) := by decide +kernel
theorem dX5_readRule_105 : decode cX5_readRule 105 = .ok (.getfield 9, 3) := by decide +kernel
theorem dX5_readRule_108 : decode cX5_readRule 108 = .ok (.aload_n 0, 1) := by decide +kernel
theorem dX5_readRule_109 : decode cX5_readRule 109 = .ok (.getfield 22, 3) := by decide +kernel
theorem dX5_readRule_112 : decode cX5_readRule 112 = .ok (.invokestatic 45, 3) := by decide +kernel
theorem dX5_readRule_115 : decode cX5_readRule 115 = .ok (.putfield 51, 3) := by decide +kernel
theorem dX5_readRule_118 : decode cX5_readRule 118 = .ok (.aload_n 2, 1) := by decide +kernel
theorem dX5_readRule_119 : decode cX5_readRule 119 = .ok (.areturn, 1) := by decide +kernel
set_option maxHeartbeats 4000000 in
set_option maxRecDepth 100000 in
theorem c_X5_readRule (l : Launch) (D : va_G) (cs : Nat → ClassId) (kK kV : Nat → Nat) (a : Nat) (b0 : Nat) (a__tape : Value) (a_code : Nat) (a__length : Int32) (a__parts : Int32) (b0_bytes : Nat) (b0__length : Int32) (b0__place : Int32) (b0__fault : Int32) (b0_bytes_c : Nat → Int32) (a_code_c : Nat → Int32) (h_b0__length : IV 0 400 b0__length) (h_b0_bytes_c : CI 400 0 255 b0_bytes_c) (sz : Nat) : Met l yX5_readRule (hz_w yX5_readRule cX5_readRule 5 (some (.object "HalfFair$Rule"))) ({ frames := 30, cells := 7, slots := 454, locals := 719 }) (va_Pc [.ref a, .ref b0] (hz_C D cs kK kV sz [(a, .inr (5, [a__tape, .ref a_code, .int a__length, .int a__parts])), (b0, .inr (7, [.ref b0_bytes, .int b0__length, .int b0__place, .int b0__fault])), (b0_bytes, .inl (cs 0, 400, .inl b0_bytes_c)), (a_code, .inl (cs 0, 400, .inl a_code_c))])) (va_Qr (fun (_ : Unit) => True) (fun _ ra t => (∃ (o_a_2 : Int32), ∃ (o_a_3 : Int32), ∃ (o_a_code_c : Nat → Int32), ∃ (o_b0_2 : Int32), ∃ (o_b0_3 : Int32), ∃ (m0 : Nat), ∃ (m0_0 : Int32), ∃ (m1 : Nat), ∃ (m1_c : Nat → Int32), ∃ (m2 : Nat), ∃ (m2_c : Nat → Int32), ∃ (m3 : Nat), ∃ (m3_c : Nat → Int32), ∃ (m4 : Nat), ∃ (m4_c : Nat → Int32), ∃ (m5 : Nat), ∃ (m5_c : Nat → Int32), ra = m0 ∧ IV 0 400 o_a_2 ∧ IV 0 400 o_b0_2 ∧ IV 1 3205 o_b0_3 ∧ IV 0 12 m0_0 ∧ CI 12 0 400 m2_c ∧ CI 12 0 400 m3_c ∧ CI 12 0 400 m4_c ∧ CI 0 0 0 m5_c ∧ va_P D classes [(a, .inr (5, [.ref b0, .ref a_code, .int o_a_2, .int o_a_3])), (b0, .inr (7, [.ref b0_bytes, .int b0__length, .int o_b0_2, .int o_b0_3])), (b0_bytes, .inl (cs 0, 400, .inl b0_bytes_c)), (a_code, .inl (cs 0, 400, .inl o_a_code_c)), (m0, .inr (4, [.int m0_0, .ref m1, .ref m2, .ref m3, .ref m4, .ref m5])), (m1, .inl (cs 0, 12, .inl m1_c)), (m2, .inl (cs 0, 12, .inl m2_c)), (m3, .inl (cs 0, 12, .inl m3_c)), (m4, .inl (cs 0, 12, .inl m4_c)), (m5, .inl (cs 0, 0, .inl m5_c))] t.heap ∧ va_D (va_A [(a, .inr (5, [a__tape, .ref a_code, .int a__length, .int a__parts])), (b0, .inr (7, [.ref b0_bytes, .int b0__length, .int b0__place, .int b0__fault])), (b0_bytes, .inl (cs 0, 400, .inl b0_bytes_c)), (a_code, .inl (cs 0, 400, .inl a_code_c))] sz) [(a, .inr (5, [.ref b0, .ref a_code, .int o_a_2, .int o_a_3])), (b0, .inr (7, [.ref b0_bytes, .int b0__length, .int o_b0_2, .int o_b0_3])), (b0_bytes, .inl (cs 0, 400, .inl b0_bytes_c)), (a_code, .inl (cs 0, 400, .inl o_a_code_c)), (m0, .inr (4, [.int m0_0, .ref m1, .ref m2, .ref m3, .ref m4, .ref m5])), (m1, .inl (cs 0, 12, .inl m1_c)), (m2, .inl (cs 0, 12, .inl m2_c)), (m3, .inl (cs 0, 12, .inl m3_c)), (m4, .inl (cs 0, 12, .inl m4_c)), (m5, .inl (cs 0, 0, .inl m5_c))]) ∨ (∃ (o_a_2 : Int32), ∃ (o_a_3 : Int32), ∃ (o_a_code_c : Nat → Int32), ∃ (o_b0_2 : Int32), ∃ (o_b0_3 : Int32), ∃ (m0 : Nat), ∃ (m0_0 : Int32), ∃ (m1 : Nat), ∃ (m1_c : Nat → Int32), ∃ (m2 : Nat), ∃ (m2_c : Nat → Int32), ∃ (m3 : Nat), ∃ (m3_c : Nat → Int32), ∃ (m4 : Nat), ∃ (m4_c : Nat → Int32), ∃ (m5 : Nat), ∃ (m5_c : Nat → Int32), ∃ (m6 : Nat), ∃ (m6_c : Nat → Int32), ∃ (m6_n : Nat), ra = m0 ∧ IV 0 400 o_a_2 ∧ IV 0 400 o_b0_2 ∧ IV 0 0 o_b0_3 ∧ IV 0 12 m0_0 ∧ CI 12 0 400 m2_c ∧ CI 12 0 400 m3_c ∧ CI 12 0 400 m4_c ∧ CI 0 0 0 m5_c ∧ m6_n ≤ 400 ∧ va_P D classes [(a, .inr (5, [.ref b0, .ref a_code, .int o_a_2, .int o_a_3])), (b0, .inr (7, [.ref b0_bytes, .int b0__length, .int o_b0_2, .int o_b0_3])), (b0_bytes, .inl (cs 0, 400, .inl b0_bytes_c)), (a_code, .inl (cs 0, 400, .inl o_a_code_c)), (m0, .inr (4, [.int m0_0, .ref m1, .ref m2, .ref m3, .ref m4, .ref m6])), (m1, .inl (cs 0, 12, .inl m1_c)), (m2, .inl (cs 0, 12, .inl m2_c)), (m3, .inl (cs 0, 12, .inl m3_c)), (m4, .inl (cs 0, 12, .inl m4_c)), (m5, .inl (cs 0, 0, .inl m5_c)), (m6, .inl (cs 0, m6_n, .inl m6_c))] t.heap ∧ va_D (va_A [(a, .inr (5, [a__tape, .ref a_code, .int a__length, .int a__parts])), (b0, .inr (7, [.ref b0_bytes, .int b0__length, .int b0__place, .int b0__fault])), (b0_bytes, .inl (cs 0, 400, .inl b0_bytes_c)), (a_code, .inl (cs 0, 400, .inl a_code_c))] sz) [(a, .inr (5, [.ref b0, .ref a_code, .int o_a_2, .int o_a_3])), (b0, .inr (7, [.ref b0_bytes, .int b0__length, .int o_b0_2, .int o_b0_3])), (b0_bytes, .inl (cs 0, 400, .inl b0_bytes_c)), (a_code, .inl (cs 0, 400, .inl o_a_code_c)), (m0, .inr (4, [.int m0_0, .ref m1, .ref m2, .ref m3, .ref m4, .ref m6])), (m1, .inl (cs 0, 12, .inl m1_c)), (m2, .inl (cs 0, 12, .inl m2_c)), (m3, .inl (cs 0, 12, .inl m3_c)), (m4, .inl (cs 0, 12, .inl m4_c)), (m5, .inl (cs 0, 0, .inl m5_c)), (m6, .inl (cs 0, m6_n, .inl m6_c))])) (va_A [(a, .inr (5, [a__tape, .ref a_code, .int a__length, .int a__parts])), (b0, .inr (7, [.ref b0_bytes, .int b0__length, .int b0__place, .int b0__fault])), (b0_bytes, .inl (cs 0, 400, .inl b0_bytes_c)), (a_code, .inl (cs 0, 400, .inl a_code_c))] sz)) 7 454 (va_A [(a, .inr (5, [a__tape, .ref a_code, .int a__length, .int a__parts])), (b0, .inr (7, [.ref b0_bytes, .int b0__length, .int b0__place, .int b0__fault])), (b0_bytes, .inl (cs 0, 400, .inl b0_bytes_c)), (a_code, .inl (cs 0, 400, .inl a_code_c))] sz) := by
  refine Met.ofW (cc := cX5_readRule) (maxL := 5) (ret := (some (.object "HalfFair$Rule"))) (by decide) rfl ?_
  intro p e s m args below meth c s₁ B hml hv
  obtain ⟨rfl, hsz, hP, hD0, hE⟩ := hv
  have hx := B.exec
  have hb := B.bytes
  have hr := B.returns
  have hT : ∀ w ∈ TB, w.before _ s = true := fun w h => atoms_spec (ws := hz_w yX5_readRule cX5_readRule 5 (some (.object "HalfFair$Rule"))) B.pre w (List.mem_cons_of_mem _ h)
  have hown : s.vm.findClass RX5 = some m.cls := findClass_of_methodNamed B.named
  have hlocks := B.notSynchronized
  clear B
  subst hsz
  have hD := hD0.self (sz := s.heap.size)
  generalize hAe : va_A [(a, .inr (5, [a__tape, .ref a_code, .int a__length, .int a__parts])), (b0, .inr (7, [.ref b0_bytes, .int b0__length, .int b0__place, .int b0__fault])), (b0_bytes, .inl (cs 0, 400, .inl b0_bytes_c)), (a_code, .inl (cs 0, 400, .inl a_code_c))] s.heap.size = A at hD hE ⊢
  have hA : ∀ q : Nat, s.heap.size ≤ q → A q := fun q h => by rw [← hAe]; exact Or.inr h
  clear hAe hD0
  have hS : va_S A s.heap s.heap [] := va_S.rf
  have hK := hE.1
  have hl := lv_entry ([.ref a, .ref b0]) (n := 5) (Nat.le_of_ble_eq_true rfl)
  rw [lg_entry_eq]
  generalize (lg_sl ([.ref a, .ref b0]) ++ List.replicate (5 - (lg_sl ([.ref a, .ref b0])).length) Slot.unset).toArray = ls at hl ⊢
  have hl : lv_has ls 5 [(0, .ref a), (1, .ref b0)] := hl
  obtain ⟨H, eH⟩ : ∃ z, z = s.heap := ⟨_, rfl⟩
  have hP : va_P D classes [(a, .inr (5, [a__tape, .ref a_code, .int a__length, .int a__parts])), (b0, .inr (7, [.ref b0_bytes, .int b0__length, .int b0__place, .int b0__fault])), (b0_bytes, .inl (cs 0, 400, .inl b0_bytes_c)), (a_code, .inl (cs 0, 400, .inl a_code_c))] H := by rw [eH]; exact hP
  have hS : va_S A s.heap H [] := by rw [eH]; exact hS
  rw [← eH]
  clear eH
  obtain ⟨locs, el⟩ : ∃ z : List Loc, z = [] := ⟨_, rfl⟩
  rw [← el] at hS ⊢
  clear el
  have K35 : ∀ (n : Nat) (k35_A0 : Nat) (k35_A1 : Nat) (k35_A2 : Nat) (k35_A3 : Nat) (k35_A4 : Nat) (k35_A5 : Nat) (k35_L_4 : Int32) (k35_F_a_2 : Int32) (k35_F_a_3 : Int32) (k35_C_a_code : Nat → Int32) (k35_F_k35_A0_0 : Int32) (k35_C_k35_A1 : Nat → Int32) (k35_C_k35_A2 : Nat → Int32) (k35_C_k35_A3 : Nat → Int32) (k35_C_k35_A4 : Nat → Int32) (k35_C_k35_A5 : Nat → Int32) (k35_F_b0_2 : Int32) (k35_F_b0_3 : Int32), (13 - k35_L_4.toInt + 1).toNat ≤ n → IV 0 400 k35_F_a_2 → IV 0 400 k35_F_b0_2 → IV 0 3205 k35_F_b0_3 → IV 0 12 k35_F_k35_A0_0 → IV 0 13 k35_L_4 → CI 12 0 400 k35_C_k35_A2 → CI 12 0 400 k35_C_k35_A3 → CI 12 0 400 k35_C_k35_A4 → CI 0 0 0 k35_C_k35_A5 → ∀ (H : Heap) (locs : List Loc), va_P D classes [(a, .inr (5, [.ref b0, .ref a_code, .int k35_F_a_2, .int k35_F_a_3])), (b0_bytes, .inl (cs 0, 400, .inl b0_bytes_c)), (a_code, .inl (cs 0, 400, .inl k35_C_a_code)), (k35_A0, .inr (4, [.int k35_F_k35_A0_0, .ref k35_A1, .ref k35_A2, .ref k35_A3, .ref k35_A4, .ref k35_A5])), (k35_A1, .inl (cs 0, 12, .inl k35_C_k35_A1)), (k35_A2, .inl (cs 0, 12, .inl k35_C_k35_A2)), (k35_A3, .inl (cs 0, 12, .inl k35_C_k35_A3)), (k35_A4, .inl (cs 0, 12, .inl k35_C_k35_A4)), (k35_A5, .inl (cs 0, 0, .inl k35_C_k35_A5)), (b0, .inr (7, [.ref b0_bytes, .int b0__length, .int k35_F_b0_2, .int k35_F_b0_3]))] H → va_D A [(a, .inr (5, [.ref b0, .ref a_code, .int k35_F_a_2, .int k35_F_a_3])), (b0_bytes, .inl (cs 0, 400, .inl b0_bytes_c)), (a_code, .inl (cs 0, 400, .inl k35_C_a_code)), (k35_A0, .inr (4, [.int k35_F_k35_A0_0, .ref k35_A1, .ref k35_A2, .ref k35_A3, .ref k35_A4, .ref k35_A5])), (k35_A1, .inl (cs 0, 12, .inl k35_C_k35_A1)), (k35_A2, .inl (cs 0, 12, .inl k35_C_k35_A2)), (k35_A3, .inl (cs 0, 12, .inl k35_C_k35_A3)), (k35_A4, .inl (cs 0, 12, .inl k35_C_k35_A4)), (k35_A5, .inl (cs 0, 0, .inl k35_C_k35_A5)), (b0, .inr (7, [.ref b0_bytes, .int b0__length, .int k35_F_b0_2, .int k35_F_b0_3]))] → va_S A s.heap H locs → ∀ ls : Array Slot, lv_has ls 5 [(4, .int k35_L_4), (3, .int 1), (2, .ref k35_A0), (0, .ref a), (1, .ref b0)] → W p l e (headSpec (hz_w yX5_readRule cX5_readRule 5 (some (.object "HalfFair$Rule"))) ({ frames := 30, cells := 7, slots := 454, locals := 719 })).room s m [.ref a, .ref b0].toArray below meth c H locs 6 54 (MQ below (va_Qr (fun (_ : Unit) => True) (fun _ ra t => (∃ (o_a_2 : Int32), ∃ (o_a_3 : Int32), ∃ (o_a_code_c : Nat → Int32), ∃ (o_b0_2 : Int32), ∃ (o_b0_3 : Int32), ∃ (m0 : Nat), ∃ (m0_0 : Int32), ∃ (m1 : Nat), ∃ (m1_c : Nat → Int32), ∃ (m2 : Nat), ∃ (m2_c : Nat → Int32), ∃ (m3 : Nat), ∃ (m3_c : Nat → Int32), ∃ (m4 : Nat), ∃ (m4_c : Nat → Int32), ∃ (m5 : Nat), ∃ (m5_c : Nat → Int32), ra = m0 ∧ IV 0 400 o_a_2 ∧ IV 0 400 o_b0_2 ∧ IV 1 3205 o_b0_3 ∧ IV 0 12 m0_0 ∧ CI 12 0 400 m2_c ∧ CI 12 0 400 m3_c ∧ CI 12 0 400 m4_c ∧ CI 0 0 0 m5_c ∧ va_P D classes [(a, .inr (5, [.ref b0, .ref a_code, .int o_a_2, .int o_a_3])), (b0, .inr (7, [.ref b0_bytes, .int b0__length, .int o_b0_2, .int o_b0_3])), (b0_bytes, .inl (cs 0, 400, .inl b0_bytes_c)), (a_code, .inl (cs 0, 400, .inl o_a_code_c)), (m0, .inr (4, [.int m0_0, .ref m1, .ref m2, .ref m3, .ref m4, .ref m5])), (m1, .inl (cs 0, 12, .inl m1_c)), (m2, .inl (cs 0, 12, .inl m2_c)), (m3, .inl (cs 0, 12, .inl m3_c)), (m4, .inl (cs 0, 12, .inl m4_c)), (m5, .inl (cs 0, 0, .inl m5_c))] t.heap ∧ va_D A [(a, .inr (5, [.ref b0, .ref a_code, .int o_a_2, .int o_a_3])), (b0, .inr (7, [.ref b0_bytes, .int b0__length, .int o_b0_2, .int o_b0_3])), (b0_bytes, .inl (cs 0, 400, .inl b0_bytes_c)), (a_code, .inl (cs 0, 400, .inl o_a_code_c)), (m0, .inr (4, [.int m0_0, .ref m1, .ref m2, .ref m3, .ref m4, .ref m5])), (m1, .inl (cs 0, 12, .inl m1_c)), (m2, .inl (cs 0, 12, .inl m2_c)), (m3, .inl (cs 0, 12, .inl m3_c)), (m4, .inl (cs 0, 12, .inl m4_c)), (m5, .inl (cs 0, 0, .inl m5_c))]) ∨ (∃ (o_a_2 : Int32), ∃ (o_a_3 : Int32), ∃ (o_a_code_c : Nat → Int32), ∃ (o_b0_2 : Int32), ∃ (o_b0_3 : Int32), ∃ (m0 : Nat), ∃ (m0_0 : Int32), ∃ (m1 : Nat), ∃ (m1_c : Nat → Int32), ∃ (m2 : Nat), ∃ (m2_c : Nat → Int32), ∃ (m3 : Nat), ∃ (m3_c : Nat → Int32), ∃ (m4 : Nat), ∃ (m4_c : Nat → Int32), ∃ (m5 : Nat), ∃ (m5_c : Nat → Int32), ∃ (m6 : Nat), ∃ (m6_c : Nat → Int32), ∃ (m6_n : Nat), ra = m0 ∧ IV 0 400 o_a_2 ∧ IV 0 400 o_b0_2 ∧ IV 0 0 o_b0_3 ∧ IV 0 12 m0_0 ∧ CI 12 0 400 m2_c ∧ CI 12 0 400 m3_c ∧ CI 12 0 400 m4_c ∧ CI 0 0 0 m5_c ∧ m6_n ≤ 400 ∧ va_P D classes [(a, .inr (5, [.ref b0, .ref a_code, .int o_a_2, .int o_a_3])), (b0, .inr (7, [.ref b0_bytes, .int b0__length, .int o_b0_2, .int o_b0_3])), (b0_bytes, .inl (cs 0, 400, .inl b0_bytes_c)), (a_code, .inl (cs 0, 400, .inl o_a_code_c)), (m0, .inr (4, [.int m0_0, .ref m1, .ref m2, .ref m3, .ref m4, .ref m6])), (m1, .inl (cs 0, 12, .inl m1_c)), (m2, .inl (cs 0, 12, .inl m2_c)), (m3, .inl (cs 0, 12, .inl m3_c)), (m4, .inl (cs 0, 12, .inl m4_c)), (m5, .inl (cs 0, 0, .inl m5_c)), (m6, .inl (cs 0, m6_n, .inl m6_c))] t.heap ∧ va_D A [(a, .inr (5, [.ref b0, .ref a_code, .int o_a_2, .int o_a_3])), (b0, .inr (7, [.ref b0_bytes, .int b0__length, .int o_b0_2, .int o_b0_3])), (b0_bytes, .inl (cs 0, 400, .inl b0_bytes_c)), (a_code, .inl (cs 0, 400, .inl o_a_code_c)), (m0, .inr (4, [.int m0_0, .ref m1, .ref m2, .ref m3, .ref m4, .ref m6])), (m1, .inl (cs 0, 12, .inl m1_c)), (m2, .inl (cs 0, 12, .inl m2_c)), (m3, .inl (cs 0, 12, .inl m3_c)), (m4, .inl (cs 0, 12, .inl m4_c)), (m5, .inl (cs 0, 0, .inl m5_c)), (m6, .inl (cs 0, m6_n, .inl m6_c))])) A) [.ref a, .ref b0].toArray s 7 454 A) (F0 m 35 ls []) := by
    intro n
    induction n with
    | zero =>
      intro k35_A0 k35_A1 k35_A2 k35_A3 k35_A4 k35_A5 k35_L_4 k35_F_a_2 k35_F_a_3 k35_C_a_code k35_F_k35_A0_0 k35_C_k35_A1 k35_C_k35_A2 k35_C_k35_A3 k35_C_k35_A4 k35_C_k35_A5 k35_F_b0_2 k35_F_b0_3 hn q35_1 q35_2 q35_3 q35_4 q35_5 z35_1 z35_2 z35_3 z35_4 H locs hP hD hS ls hl
      exact absurd hn (by unfold IV at q35_5; omega)
    | succ n ih35 =>
      intro k35_A0 k35_A1 k35_A2 k35_A3 k35_A4 k35_A5 k35_L_4 k35_F_a_2 k35_F_a_3 k35_C_a_code k35_F_k35_A0_0 k35_C_k35_A1 k35_C_k35_A2 k35_C_k35_A3 k35_C_k35_A4 k35_C_k35_A5 k35_F_b0_2 k35_F_b0_3 hn q35_1 q35_2 q35_3 q35_4 q35_5 z35_1 z35_2 z35_3 z35_4 H locs hP hD hS ls hl
      refine lv_iload hx hb dX5_readRule_35 (lv_at hl 0 rfl) ?_
      refine lv_bipush (v := 12) hx hb dX5_readRule_37 (by decide) ?_
      refine lv_icmp_gt (tgt := 93) hx hb dX5_readRule_39 (by decide) (fun c1 => ?_) (fun c1 => ?_)
      · have h2 : IV 13 13 k35_L_4 := iv_lt2 c1 (iv_c (a := 12) (b := 12) (by decide)) q35_5 (by decide)
        refine lv_aload_n hx hb dX5_readRule_93 rfl (lv_at hl 3 rfl) ?_
        refine va_get (D := D) (ci := 5) (v := .ref b0) (C := RX5) (T := TX5) (N := 4) hx hb hT i_X5 hown hK hP 0 rfl rfl 0 (by decide) (hT _ q_104) (fun _ h9 => h9) rfl dX5_readRule_94 ?_
        refine va_calli (va_runV (As := []) (rest := []) ⟨hx, hb, hml, hown, hT⟩ (c_X7_isSound l D cs kK kV b0 b0_bytes b0__length k35_F_b0_2 k35_F_b0_3 q35_3) (cwV 0 hT (hz_gV q_553 q_421 q_422 q_221 q_423) rfl rfl rfl (by decide +kernel) ⟨(Nat.le_of_ble_eq_true rfl), (Nat.le_of_ble_eq_true rfl)⟩) ⟨hz_P.blind, va_recv hK hP (ci := 7) (q0 := 9) rfl rfl, hz_P.mk (hP.sub (ws' := [(b0, .inr (7, [.ref b0_bytes, .int b0__length, .int k35_F_b0_2, .int k35_F_b0_3]))]) [9] rfl) hE hS⟩ rfl rfl hl.1 rfl (lv_room (Nat.le_of_ble_eq_true rfl)) dX5_readRule_97 ⟨(Nat.le_of_ble_eq_true rfl), (Nat.le_of_ble_eq_true rfl)⟩) hS (fun _ _ h => h.elim) (fun _ h => h.elim) (fun r3 u t H1 locs ht hvm hw hB hz1 hk1 hS => ?_)
        have hP := hz_keep hP hk1
        clear hk1 hB hz1
        generalize H1 = H at hP hS ⊢
        rcases hw with ⟨rfl, h4⟩ | ⟨rfl, h5⟩
        · refine lv_if_eq (tgt := 118) hx hb dX5_readRule_100 (by decide) (fun _ => ?_) (fun z => absurd (by decide) z)
          refine lv_aload_n hx hb dX5_readRule_118 rfl (lv_at hl 2 rfl) ?_
          refine W.widen (k := 7) (n := 454) (Nat.le_of_ble_eq_true rfl) (Nat.le_of_ble_eq_true rfl) ?_
          exact W.aret (v := .ref k35_A0) hx hb hr (Or.inl ⟨_, rfl⟩) (Or.inr ⟨_, rfl⟩) (fun t ht hW => ⟨⟨(), k35_A0, rfl, trivial, Or.inl ⟨k35_F_a_2, k35_F_a_3, k35_C_a_code, k35_F_b0_2, k35_F_b0_3, k35_A0, k35_F_k35_A0_0, k35_A1, k35_C_k35_A1, k35_A2, k35_C_k35_A2, k35_A3, k35_C_k35_A3, k35_A4, k35_C_k35_A4, k35_A5, k35_C_k35_A5, rfl, q35_1, q35_2, h4, q35_4, z35_1, z35_2, z35_3, z35_4, by rw [ht]; exact hP.sub [0, 9, 1, 2, 3, 4, 5, 6, 7, 8] rfl, hD.sub [0, 9, 1, 2, 3, 4, 5, 6, 7, 8] (by decide) rfl⟩⟩, hS.F ht⟩) hS.2.2 dX5_readRule_119
        · refine lv_if_eq (tgt := 118) hx hb dX5_readRule_100 (by decide) (fun z => absurd z (by decide)) (fun _ => ?_)
          refine lv_aload_n hx hb dX5_readRule_103 rfl (lv_at hl 2 rfl) ?_
          refine lv_aload_n hx hb dX5_readRule_104 rfl (lv_at hl 3 rfl) ?_
          refine va_get (D := D) (ci := 5) (v := .ref a_code) (C := RX5) (T := TX5) (N := 4) hx hb hT i_X5 hown hK hP 0 rfl rfl 1 (by decide) (hT _ q_103) (fun _ h9 => h9) rfl dX5_readRule_105 ?_
          refine lv_aload_n hx hb dX5_readRule_108 rfl (lv_at hl 3 rfl) ?_
          refine va_get (D := D) (ci := 5) (v := .int k35_F_a_2) (C := RX5) (T := TX5) (N := 4) hx hb hT i_X5 hown hK hP 0 rfl rfl 2 (by decide) (hT _ q_105) (fun _ h9 => h9) rfl dX5_readRule_109 ?_
          have hFc := va_free (wc := [(a_code, .inl (cs 0, 400, .inl k35_C_a_code))]) hD hS hA [2] rfl
          refine va_callr (va_runS (As := [.ref a_code, .int k35_F_a_2]) (rest := [.ref k35_A0]) ⟨hx, hb, hml, hown, hT⟩ (c_J7_copyOf_59c91_109 l D cs kK kV a_code k35_F_a_2 k35_C_a_code q35_1 H.size) (va_cwS 2 hT (hz_gS q_559 q_560 q_533 q_561) rfl rfl rfl (by decide +kernel) ⟨(Nat.le_of_ble_eq_true rfl), (Nat.le_of_ble_eq_true rfl)⟩) ⟨hz_C.blind, hz_C.mk (hP.sub (ws' := [(a_code, .inl (cs 0, 400, .inl k35_C_a_code))]) [2] rfl) (hD.sub (ws' := [(a_code, .inl (cs 0, 400, .inl k35_C_a_code))]) [2] (by decide) rfl) hE hS hFc⟩ rfl rfl hl.1 rfl (lv_room (Nat.le_of_ble_eq_true rfl)) dX5_readRule_112 ⟨(Nat.le_of_ble_eq_true rfl), (Nat.le_of_ble_eq_true rfl)⟩) hS (fun q _ h => hFc q h) hFc (fun u r6 t H1 locs ht hvm hw hB hz1 hk1 hS => ?_)
          obtain ⟨o7, o8, o9, rfl, h10, hP1, hD1⟩ := hB
          rw [ht] at hP1
          obtain ⟨hP, hD⟩ := va_join (wr := [(a, .inr (5, [.ref b0, .ref a_code, .int k35_F_a_2, .int k35_F_a_3])), (b0_bytes, .inl (cs 0, 400, .inl b0_bytes_c)), (k35_A0, .inr (4, [.int k35_F_k35_A0_0, .ref k35_A1, .ref k35_A2, .ref k35_A3, .ref k35_A4, .ref k35_A5])), (k35_A1, .inl (cs 0, 12, .inl k35_C_k35_A1)), (k35_A2, .inl (cs 0, 12, .inl k35_C_k35_A2)), (k35_A3, .inl (cs 0, 12, .inl k35_C_k35_A3)), (k35_A4, .inl (cs 0, 12, .inl k35_C_k35_A4)), (k35_A5, .inl (cs 0, 0, .inl k35_C_k35_A5)), (b0, .inr (7, [.ref b0_bytes, .int b0__length, .int k35_F_b0_2, .int k35_F_b0_3]))]) (w1 := [(a_code, .inl (cs 0, 400, .inl k35_C_a_code)), (r6, .inl (cs 0, o9, .inl o8))]) hP hD [2] [0, 1, 3, 4, 5, 6, 7, 8, 9] rfl rfl (by decide) (by decide) hk1 hFc hP1 hD1
          generalize H1 = H at hP hS ⊢
          have hP : va_P D classes [(a, .inr (5, [.ref b0, .ref a_code, .int k35_F_a_2, .int k35_F_a_3])), (b0_bytes, .inl (cs 0, 400, .inl b0_bytes_c)), (k35_A0, .inr (4, [.int k35_F_k35_A0_0, .ref k35_A1, .ref k35_A2, .ref k35_A3, .ref k35_A4, .ref k35_A5])), (k35_A1, .inl (cs 0, 12, .inl k35_C_k35_A1)), (k35_A2, .inl (cs 0, 12, .inl k35_C_k35_A2)), (k35_A3, .inl (cs 0, 12, .inl k35_C_k35_A3)), (k35_A4, .inl (cs 0, 12, .inl k35_C_k35_A4)), (k35_A5, .inl (cs 0, 0, .inl k35_C_k35_A5)), (b0, .inr (7, [.ref b0_bytes, .int b0__length, .int k35_F_b0_2, .int k35_F_b0_3])), (a_code, .inl (cs 0, 400, .inl k35_C_a_code)), (r6, .inl (cs 0, o9, .inl o8))] H := hP
          have hD : va_D A [(a, .inr (5, [.ref b0, .ref a_code, .int k35_F_a_2, .int k35_F_a_3])), (b0_bytes, .inl (cs 0, 400, .inl b0_bytes_c)), (k35_A0, .inr (4, [.int k35_F_k35_A0_0, .ref k35_A1, .ref k35_A2, .ref k35_A3, .ref k35_A4, .ref k35_A5])), (k35_A1, .inl (cs 0, 12, .inl k35_C_k35_A1)), (k35_A2, .inl (cs 0, 12, .inl k35_C_k35_A2)), (k35_A3, .inl (cs 0, 12, .inl k35_C_k35_A3)), (k35_A4, .inl (cs 0, 12, .inl k35_C_k35_A4)), (k35_A5, .inl (cs 0, 0, .inl k35_C_k35_A5)), (b0, .inr (7, [.ref b0_bytes, .int b0__length, .int k35_F_b0_2, .int k35_F_b0_3])), (a_code, .inl (cs 0, 400, .inl k35_C_a_code)), (r6, .inl (cs 0, o9, .inl o8))] := hD
          clear hk1 hFc hP1 hD1 hz1
          refine W.widen (k := 7) (n := 454) (Nat.le_of_ble_eq_true rfl) (Nat.le_of_ble_eq_true rfl) ?_
          refine va_put (D := D) (ci := 4) (v := .ref r6) (ty := .array .int) (C := RX4) (T := TX4) (N := 6) hx hb hT i_X4 tyX4 tyX4_ok nmX4 hown hK hP hD hS 2 rfl rfl 5 (by decide) (hT _ q_107) (fun _ h9 => h9) rfl (by decide +kernel) rfl rfl (Nat.le_of_ble_eq_true rfl) dX5_readRule_115 (fun H locs hP hD hS => ?_)
          have hP : va_P D classes [(a, .inr (5, [.ref b0, .ref a_code, .int k35_F_a_2, .int k35_F_a_3])), (b0_bytes, .inl (cs 0, 400, .inl b0_bytes_c)), (k35_A0, .inr (4, [.int k35_F_k35_A0_0, .ref k35_A1, .ref k35_A2, .ref k35_A3, .ref k35_A4, .ref r6])), (k35_A1, .inl (cs 0, 12, .inl k35_C_k35_A1)), (k35_A2, .inl (cs 0, 12, .inl k35_C_k35_A2)), (k35_A3, .inl (cs 0, 12, .inl k35_C_k35_A3)), (k35_A4, .inl (cs 0, 12, .inl k35_C_k35_A4)), (k35_A5, .inl (cs 0, 0, .inl k35_C_k35_A5)), (b0, .inr (7, [.ref b0_bytes, .int b0__length, .int k35_F_b0_2, .int k35_F_b0_3])), (a_code, .inl (cs 0, 400, .inl k35_C_a_code)), (r6, .inl (cs 0, o9, .inl o8))] H := hP
          have hD : va_D A [(a, .inr (5, [.ref b0, .ref a_code, .int k35_F_a_2, .int k35_F_a_3])), (b0_bytes, .inl (cs 0, 400, .inl b0_bytes_c)), (k35_A0, .inr (4, [.int k35_F_k35_A0_0, .ref k35_A1, .ref k35_A2, .ref k35_A3, .ref k35_A4, .ref r6])), (k35_A1, .inl (cs 0, 12, .inl k35_C_k35_A1)), (k35_A2, .inl (cs 0, 12, .inl k35_C_k35_A2)), (k35_A3, .inl (cs 0, 12, .inl k35_C_k35_A3)), (k35_A4, .inl (cs 0, 12, .inl k35_C_k35_A4)), (k35_A5, .inl (cs 0, 0, .inl k35_C_k35_A5)), (b0, .inr (7, [.ref b0_bytes, .int b0__length, .int k35_F_b0_2, .int k35_F_b0_3])), (a_code, .inl (cs 0, 400, .inl k35_C_a_code)), (r6, .inl (cs 0, o9, .inl o8))] := hD
          refine lv_aload_n hx hb dX5_readRule_118 rfl (lv_at hl 2 rfl) ?_
          refine W.widen (k := 7) (n := 454) (Nat.le_of_ble_eq_true rfl) (Nat.le_of_ble_eq_true rfl) ?_
          exact W.aret (v := .ref k35_A0) hx hb hr (Or.inl ⟨_, rfl⟩) (Or.inr ⟨_, rfl⟩) (fun t ht hW => ⟨⟨(), k35_A0, rfl, trivial, Or.inr ⟨k35_F_a_2, k35_F_a_3, k35_C_a_code, k35_F_b0_2, k35_F_b0_3, k35_A0, k35_F_k35_A0_0, k35_A1, k35_C_k35_A1, k35_A2, k35_C_k35_A2, k35_A3, k35_C_k35_A3, k35_A4, k35_C_k35_A4, k35_A5, k35_C_k35_A5, r6, o8, o9, rfl, q35_1, q35_2, h5, q35_4, z35_1, z35_2, z35_3, z35_4, h10, by rw [ht]; exact hP.sub [0, 8, 1, 9, 2, 3, 4, 5, 6, 7, 10] rfl, hD.sub [0, 8, 1, 9, 2, 3, 4, 5, 6, 7, 10] (by decide) rfl⟩⟩, hS.F ht⟩) hS.2.2 dX5_readRule_119
      · have h11 : IV 0 12 k35_L_4 := iv_le1 (Int32.not_lt.mp c1) q35_5 (iv_c (a := 12) (b := 12) (by decide)) (by decide)
        refine lv_iload_n hx hb dX5_readRule_42 rfl (lv_at hl 1 rfl) ?_
        refine lv_if_eq (tgt := 93) hx hb dX5_readRule_43 (by decide) (fun z => absurd z (by decide)) (fun _ => ?_)
        refine lv_aload_n hx hb dX5_readRule_46 rfl (lv_at hl 3 rfl) ?_
        refine va_get (D := D) (ci := 5) (v := .ref b0) (C := RX5) (T := TX5) (N := 4) hx hb hT i_X5 hown hK hP 0 rfl rfl 0 (by decide) (hT _ q_104) (fun _ h9 => h9) rfl dX5_readRule_47 ?_
        refine va_calli (va_runV (As := []) (rest := []) ⟨hx, hb, hml, hown, hT⟩ (c_X7_isSound l D cs kK kV b0 b0_bytes b0__length k35_F_b0_2 k35_F_b0_3 q35_3) (cwV 0 hT (hz_gV q_553 q_421 q_422 q_221 q_423) rfl rfl rfl (by decide +kernel) ⟨(Nat.le_of_ble_eq_true rfl), (Nat.le_of_ble_eq_true rfl)⟩) ⟨hz_P.blind, va_recv hK hP (ci := 7) (q0 := 9) rfl rfl, hz_P.mk (hP.sub (ws' := [(b0, .inr (7, [.ref b0_bytes, .int b0__length, .int k35_F_b0_2, .int k35_F_b0_3]))]) [9] rfl) hE hS⟩ rfl rfl hl.1 rfl (lv_room (Nat.le_of_ble_eq_true rfl)) dX5_readRule_50 ⟨(Nat.le_of_ble_eq_true rfl), (Nat.le_of_ble_eq_true rfl)⟩) hS (fun _ _ h => h.elim) (fun _ h => h.elim) (fun r12 u t H1 locs ht hvm hw hB hz1 hk1 hS => ?_)
        have hP := hz_keep hP hk1
        clear hk1 hB hz1
        generalize H1 = H at hP hS ⊢
        rcases hw with ⟨rfl, h13⟩ | ⟨rfl, h14⟩
        · refine lv_if_eq (tgt := 93) hx hb dX5_readRule_53 (by decide) (fun _ => ?_) (fun z => absurd (by decide) z)
          refine lv_aload_n hx hb dX5_readRule_93 rfl (lv_at hl 3 rfl) ?_
          refine va_get (D := D) (ci := 5) (v := .ref b0) (C := RX5) (T := TX5) (N := 4) hx hb hT i_X5 hown hK hP 0 rfl rfl 0 (by decide) (hT _ q_104) (fun _ h9 => h9) rfl dX5_readRule_94 ?_
          refine va_calli (va_runV (As := []) (rest := []) ⟨hx, hb, hml, hown, hT⟩ (c_X7_isSound l D cs kK kV b0 b0_bytes b0__length k35_F_b0_2 k35_F_b0_3 ((iv_w h13 (by decide) (by decide)))) (cwV 0 hT (hz_gV q_553 q_421 q_422 q_221 q_423) rfl rfl rfl (by decide +kernel) ⟨(Nat.le_of_ble_eq_true rfl), (Nat.le_of_ble_eq_true rfl)⟩) ⟨hz_P.blind, va_recv hK hP (ci := 7) (q0 := 9) rfl rfl, hz_P.mk (hP.sub (ws' := [(b0, .inr (7, [.ref b0_bytes, .int b0__length, .int k35_F_b0_2, .int k35_F_b0_3]))]) [9] rfl) hE hS⟩ rfl rfl hl.1 rfl (lv_room (Nat.le_of_ble_eq_true rfl)) dX5_readRule_97 ⟨(Nat.le_of_ble_eq_true rfl), (Nat.le_of_ble_eq_true rfl)⟩) hS (fun _ _ h => h.elim) (fun _ h => h.elim) (fun r15 u t H1 locs ht hvm hw hB hz1 hk1 hS => ?_)
          have hP := hz_keep hP hk1
          clear hk1 hB hz1
          generalize H1 = H at hP hS ⊢
          rcases hw with ⟨rfl, h16⟩ | ⟨rfl, h17⟩
          · refine lv_if_eq (tgt := 118) hx hb dX5_readRule_100 (by decide) (fun _ => ?_) (fun z => absurd (by decide) z)
            refine lv_aload_n hx hb dX5_readRule_118 rfl (lv_at hl 2 rfl) ?_
            refine W.widen (k := 7) (n := 454) (Nat.le_of_ble_eq_true rfl) (Nat.le_of_ble_eq_true rfl) ?_
            exact W.aret (v := .ref k35_A0) hx hb hr (Or.inl ⟨_, rfl⟩) (Or.inr ⟨_, rfl⟩) (fun t ht hW => ⟨⟨(), k35_A0, rfl, trivial, Or.inl ⟨k35_F_a_2, k35_F_a_3, k35_C_a_code, k35_F_b0_2, k35_F_b0_3, k35_A0, k35_F_k35_A0_0, k35_A1, k35_C_k35_A1, k35_A2, k35_C_k35_A2, k35_A3, k35_C_k35_A3, k35_A4, k35_C_k35_A4, k35_A5, k35_C_k35_A5, rfl, q35_1, q35_2, h16, q35_4, z35_1, z35_2, z35_3, z35_4, by rw [ht]; exact hP.sub [0, 9, 1, 2, 3, 4, 5, 6, 7, 8] rfl, hD.sub [0, 9, 1, 2, 3, 4, 5, 6, 7, 8] (by decide) rfl⟩⟩, hS.F ht⟩) hS.2.2 dX5_readRule_119
          · exact (iv_no h17 h13 (by decide)).elim
        · refine lv_if_eq (tgt := 93) hx hb dX5_readRule_53 (by decide) (fun z => absurd z (by decide)) (fun _ => ?_)
          refine lv_aload_n hx hb dX5_readRule_56 rfl (lv_at hl 3 rfl) ?_
          refine lv_aload_n hx hb dX5_readRule_57 rfl (lv_at hl 2 rfl) ?_
          have hFc := va_free (wc := [(a, .inr (5, [.ref b0, .ref a_code, .int k35_F_a_2, .int k35_F_a_3])), (b0, .inr (7, [.ref b0_bytes, .int b0__length, .int k35_F_b0_2, .int k35_F_b0_3])), (b0_bytes, .inl (cs 0, 400, .inl b0_bytes_c)), (k35_A0, .inr (4, [.int k35_F_k35_A0_0, .ref k35_A1, .ref k35_A2, .ref k35_A3, .ref k35_A4, .ref k35_A5])), (k35_A1, .inl (cs 0, 12, .inl k35_C_k35_A1)), (k35_A2, .inl (cs 0, 12, .inl k35_C_k35_A2)), (a_code, .inl (cs 0, 400, .inl k35_C_a_code)), (k35_A3, .inl (cs 0, 12, .inl k35_C_k35_A3)), (k35_A4, .inl (cs 0, 12, .inl k35_C_k35_A4))]) hD hS hA [0,9,1,3,4,5,2,6,7] rfl
          refine va_callv (va_runV (As := [.ref k35_A0]) (rest := []) ⟨hx, hb, hml, hown, hT⟩ (c_X5_readClause l D cs kK kV a k35_A0 b0 a_code k35_F_a_2 k35_F_a_3 b0_bytes b0__length k35_F_b0_2 k35_F_b0_3 b0_bytes_c k35_F_k35_A0_0 k35_A1 k35_A2 k35_A3 k35_A4 k35_A5 k35_C_k35_A1 k35_C_k35_A2 k35_C_a_code k35_C_k35_A3 k35_C_k35_A4 q35_1 h_b0__length q35_2 ((iv_w h14 (by decide) (by decide))) h_b0_bytes_c q35_4 z35_1 z35_2 z35_3 H.size) (cwV 1 hT (hz_gV q_554 q_555 q_556 q_246 q_557) rfl rfl rfl (by decide +kernel) ⟨(Nat.le_of_ble_eq_true rfl), (Nat.le_of_ble_eq_true rfl)⟩) ⟨hz_C.blind, va_recv hK hP (ci := 5) (q0 := 0) rfl rfl, hz_C.mk (hP.sub (ws' := [(a, .inr (5, [.ref b0, .ref a_code, .int k35_F_a_2, .int k35_F_a_3])), (b0, .inr (7, [.ref b0_bytes, .int b0__length, .int k35_F_b0_2, .int k35_F_b0_3])), (b0_bytes, .inl (cs 0, 400, .inl b0_bytes_c)), (k35_A0, .inr (4, [.int k35_F_k35_A0_0, .ref k35_A1, .ref k35_A2, .ref k35_A3, .ref k35_A4, .ref k35_A5])), (k35_A1, .inl (cs 0, 12, .inl k35_C_k35_A1)), (k35_A2, .inl (cs 0, 12, .inl k35_C_k35_A2)), (a_code, .inl (cs 0, 400, .inl k35_C_a_code)), (k35_A3, .inl (cs 0, 12, .inl k35_C_k35_A3)), (k35_A4, .inl (cs 0, 12, .inl k35_C_k35_A4))]) [0,9,1,3,4,5,2,6,7] rfl) (hD.sub (ws' := [(a, .inr (5, [.ref b0, .ref a_code, .int k35_F_a_2, .int k35_F_a_3])), (b0, .inr (7, [.ref b0_bytes, .int b0__length, .int k35_F_b0_2, .int k35_F_b0_3])), (b0_bytes, .inl (cs 0, 400, .inl b0_bytes_c)), (k35_A0, .inr (4, [.int k35_F_k35_A0_0, .ref k35_A1, .ref k35_A2, .ref k35_A3, .ref k35_A4, .ref k35_A5])), (k35_A1, .inl (cs 0, 12, .inl k35_C_k35_A1)), (k35_A2, .inl (cs 0, 12, .inl k35_C_k35_A2)), (a_code, .inl (cs 0, 400, .inl k35_C_a_code)), (k35_A3, .inl (cs 0, 12, .inl k35_C_k35_A3)), (k35_A4, .inl (cs 0, 12, .inl k35_C_k35_A4))]) [0,9,1,3,4,5,2,6,7] (by decide) rfl) hE hS hFc⟩ rfl rfl hl.1 rfl (lv_room (Nat.le_of_ble_eq_true rfl)) dX5_readRule_58 ⟨(Nat.le_of_ble_eq_true rfl), (Nat.le_of_ble_eq_true rfl)⟩) hS (fun q _ h => hFc q h) hFc (fun o19 t H1 locs ht hvm hw hB hz1 hk1 hS => ?_)
          obtain ⟨hP1, hD1⟩ := hB
          rw [ht] at hP1
          obtain ⟨hP, hD⟩ := va_join (wr := [(k35_A5, .inl (cs 0, 0, .inl k35_C_k35_A5))]) (w1 := [(a, .inr (5, [.ref b0, .ref a_code, .int (o19.1 1), .int (o19.1 2)])), (b0, .inr (7, [.ref b0_bytes, .int b0__length, .int (o19.1 3), .int (o19.1 0)])), (b0_bytes, .inl (cs 0, 400, .inl b0_bytes_c)), (k35_A0, .inr (4, [.int (o19.1 4), .ref k35_A1, .ref k35_A2, .ref k35_A3, .ref k35_A4, .ref k35_A5])), (k35_A1, .inl (cs 0, 12, .inl (o19.2 2))), (k35_A2, .inl (cs 0, 12, .inl (o19.2 4))), (a_code, .inl (cs 0, 400, .inl (o19.2 0))), (k35_A3, .inl (cs 0, 12, .inl (o19.2 3))), (k35_A4, .inl (cs 0, 12, .inl (o19.2 1)))]) hP hD [0, 9, 1, 3, 4, 5, 2, 6, 7] [8] rfl rfl (by decide) (by decide) hk1 hFc hP1 hD1
          generalize H1 = H at hP hS ⊢
          have hP : va_P D classes [(k35_A5, .inl (cs 0, 0, .inl k35_C_k35_A5)), (a, .inr (5, [.ref b0, .ref a_code, .int (o19.1 1), .int (o19.1 2)])), (b0, .inr (7, [.ref b0_bytes, .int b0__length, .int (o19.1 3), .int (o19.1 0)])), (b0_bytes, .inl (cs 0, 400, .inl b0_bytes_c)), (k35_A0, .inr (4, [.int (o19.1 4), .ref k35_A1, .ref k35_A2, .ref k35_A3, .ref k35_A4, .ref k35_A5])), (k35_A1, .inl (cs 0, 12, .inl (o19.2 2))), (k35_A2, .inl (cs 0, 12, .inl (o19.2 4))), (a_code, .inl (cs 0, 400, .inl (o19.2 0))), (k35_A3, .inl (cs 0, 12, .inl (o19.2 3))), (k35_A4, .inl (cs 0, 12, .inl (o19.2 1)))] H := hP
          have hD : va_D A [(k35_A5, .inl (cs 0, 0, .inl k35_C_k35_A5)), (a, .inr (5, [.ref b0, .ref a_code, .int (o19.1 1), .int (o19.1 2)])), (b0, .inr (7, [.ref b0_bytes, .int b0__length, .int (o19.1 3), .int (o19.1 0)])), (b0_bytes, .inl (cs 0, 400, .inl b0_bytes_c)), (k35_A0, .inr (4, [.int (o19.1 4), .ref k35_A1, .ref k35_A2, .ref k35_A3, .ref k35_A4, .ref k35_A5])), (k35_A1, .inl (cs 0, 12, .inl (o19.2 2))), (k35_A2, .inl (cs 0, 12, .inl (o19.2 4))), (a_code, .inl (cs 0, 400, .inl (o19.2 0))), (k35_A3, .inl (cs 0, 12, .inl (o19.2 3))), (k35_A4, .inl (cs 0, 12, .inl (o19.2 1)))] := hD
          clear hk1 hFc hP1 hD1 hz1
          rcases hw with ⟨h20, h21, h22, h23, h24, h25, h26, h27⟩ | ⟨h28, h29, h30, h31, h32, h33, h34⟩ | ⟨h35, h36, h37, h38, h39, h40, h41, h42⟩
          · refine lv_aload_n hx hb dX5_readRule_61 rfl (lv_at hl 3 rfl) ?_
            refine va_get (D := D) (ci := 5) (v := .ref b0) (C := RX5) (T := TX5) (N := 4) hx hb hT i_X5 hown hK hP 1 rfl rfl 0 (by decide) (hT _ q_104) (fun _ h9 => h9) rfl dX5_readRule_62 ?_
            refine va_calli (va_runV (As := []) (rest := []) ⟨hx, hb, hml, hown, hT⟩ (c_X7_isSound l D cs kK kV b0 b0_bytes b0__length (o19.1 3) (o19.1 0) h20) (cwV 0 hT (hz_gV q_553 q_421 q_422 q_221 q_423) rfl rfl rfl (by decide +kernel) ⟨(Nat.le_of_ble_eq_true rfl), (Nat.le_of_ble_eq_true rfl)⟩) ⟨hz_P.blind, va_recv hK hP (ci := 7) (q0 := 2) rfl rfl, hz_P.mk (hP.sub (ws' := [(b0, .inr (7, [.ref b0_bytes, .int b0__length, .int (o19.1 3), .int (o19.1 0)]))]) [2] rfl) hE hS⟩ rfl rfl hl.1 rfl (lv_room (Nat.le_of_ble_eq_true rfl)) dX5_readRule_65 ⟨(Nat.le_of_ble_eq_true rfl), (Nat.le_of_ble_eq_true rfl)⟩) hS (fun _ _ h => h.elim) (fun _ h => h.elim) (fun r43 u t H1 locs ht hvm hw hB hz1 hk1 hS => ?_)
            have hP := hz_keep hP hk1
            clear hk1 hB hz1
            generalize H1 = H at hP hS ⊢
            rcases hw with ⟨rfl, h44⟩ | ⟨rfl, h45⟩
            · refine lv_if_eq (tgt := 85) hx hb dX5_readRule_68 (by decide) (fun _ => ?_) (fun z => absurd (by decide) z)
              refine lv_iconst (v := 0) hx hb dX5_readRule_85 (by decide) ?_
              refine lv_istore_n (lv' := [(3, .int 0), (4, .int k35_L_4), (2, .ref k35_A0), (0, .ref a), (1, .ref b0)]) hx hb dX5_readRule_86 rfl hl (by decide) rfl (fun ls hl => ?_)
              obtain ⟨v46, ev46⟩ : ∃ z : Int32, z = k35_L_4 + 1 := ⟨_, rfl⟩
              have hv46 : IV 1 13 v46 := iv_add ev46 h11 (iv_c (a := 1) (b := 1) (by decide)) (by decide) (by decide)
              have dv46 : v46.toInt = k35_L_4.toInt + 1 := iv_addE ev46 h11 (iv_c (a := 1) (b := 1) (by decide)) (by decide) (by decide) (by decide)
              refine lv_iinc (v := v46) (lv' := [(4, .int v46), (3, .int 0), (2, .ref k35_A0), (0, .ref a), (1, .ref b0)]) hx hb dX5_readRule_87 hl (k := 1) rfl (by rw [ev46]; rfl) (by decide) rfl (fun ls hl => ?_)
              refine lv_goto (tgt := 35) hx hb dX5_readRule_90 (by decide) ?_
              refine lv_iload hx hb dX5_readRule_35 (lv_at hl 0 rfl) ?_
              refine lv_bipush (v := 12) hx hb dX5_readRule_37 (by decide) ?_
              refine lv_icmp_gt (tgt := 93) hx hb dX5_readRule_39 (by decide) (fun c47 => ?_) (fun c47 => ?_)
              · have h48 : IV 13 13 v46 := iv_lt2 c47 (iv_c (a := 12) (b := 12) (by decide)) hv46 (by decide)
                refine lv_aload_n hx hb dX5_readRule_93 rfl (lv_at hl 3 rfl) ?_
                refine va_get (D := D) (ci := 5) (v := .ref b0) (C := RX5) (T := TX5) (N := 4) hx hb hT i_X5 hown hK hP 1 rfl rfl 0 (by decide) (hT _ q_104) (fun _ h9 => h9) rfl dX5_readRule_94 ?_
                refine va_calli (va_runV (As := []) (rest := []) ⟨hx, hb, hml, hown, hT⟩ (c_X7_isSound l D cs kK kV b0 b0_bytes b0__length (o19.1 3) (o19.1 0) ((iv_w h44 (by decide) (by decide)))) (cwV 0 hT (hz_gV q_553 q_421 q_422 q_221 q_423) rfl rfl rfl (by decide +kernel) ⟨(Nat.le_of_ble_eq_true rfl), (Nat.le_of_ble_eq_true rfl)⟩) ⟨hz_P.blind, va_recv hK hP (ci := 7) (q0 := 2) rfl rfl, hz_P.mk (hP.sub (ws' := [(b0, .inr (7, [.ref b0_bytes, .int b0__length, .int (o19.1 3), .int (o19.1 0)]))]) [2] rfl) hE hS⟩ rfl rfl hl.1 rfl (lv_room (Nat.le_of_ble_eq_true rfl)) dX5_readRule_97 ⟨(Nat.le_of_ble_eq_true rfl), (Nat.le_of_ble_eq_true rfl)⟩) hS (fun _ _ h => h.elim) (fun _ h => h.elim) (fun r49 u t H1 locs ht hvm hw hB hz1 hk1 hS => ?_)
                have hP := hz_keep hP hk1
                clear hk1 hB hz1
                generalize H1 = H at hP hS ⊢
                rcases hw with ⟨rfl, h50⟩ | ⟨rfl, h51⟩
                · refine lv_if_eq (tgt := 118) hx hb dX5_readRule_100 (by decide) (fun _ => ?_) (fun z => absurd (by decide) z)
                  refine lv_aload_n hx hb dX5_readRule_118 rfl (lv_at hl 2 rfl) ?_
                  refine W.widen (k := 7) (n := 454) (Nat.le_of_ble_eq_true rfl) (Nat.le_of_ble_eq_true rfl) ?_
                  exact W.aret (v := .ref k35_A0) hx hb hr (Or.inl ⟨_, rfl⟩) (Or.inr ⟨_, rfl⟩) (fun t ht hW => ⟨⟨(), k35_A0, rfl, trivial, Or.inl ⟨o19.1 1, o19.1 2, (o19.2 0), o19.1 3, o19.1 0, k35_A0, o19.1 4, k35_A1, (o19.2 2), k35_A2, (o19.2 4), k35_A3, (o19.2 3), k35_A4, (o19.2 1), k35_A5, k35_C_k35_A5, rfl, h22, h23, h50, (iv_w h24 (by decide) (by decide)), h27, h26, h25, z35_4, by rw [ht]; exact hP.sub [1, 2, 3, 7, 4, 5, 6, 8, 9, 0] rfl, hD.sub [1, 2, 3, 7, 4, 5, 6, 8, 9, 0] (by decide) rfl⟩⟩, hS.F ht⟩) hS.2.2 dX5_readRule_119
                · exact (iv_no h51 h44 (by decide)).elim
              · have h52 : IV 1 12 v46 := iv_le1 (Int32.not_lt.mp c47) hv46 (iv_c (a := 12) (b := 12) (by decide)) (by decide)
                refine lv_iload_n hx hb dX5_readRule_42 rfl (lv_at hl 1 rfl) ?_
                refine lv_if_eq (tgt := 93) hx hb dX5_readRule_43 (by decide) (fun _ => ?_) (fun z => absurd (by decide) z)
                refine lv_aload_n hx hb dX5_readRule_93 rfl (lv_at hl 3 rfl) ?_
                refine va_get (D := D) (ci := 5) (v := .ref b0) (C := RX5) (T := TX5) (N := 4) hx hb hT i_X5 hown hK hP 1 rfl rfl 0 (by decide) (hT _ q_104) (fun _ h9 => h9) rfl dX5_readRule_94 ?_
                refine va_calli (va_runV (As := []) (rest := []) ⟨hx, hb, hml, hown, hT⟩ (c_X7_isSound l D cs kK kV b0 b0_bytes b0__length (o19.1 3) (o19.1 0) ((iv_w h44 (by decide) (by decide)))) (cwV 0 hT (hz_gV q_553 q_421 q_422 q_221 q_423) rfl rfl rfl (by decide +kernel) ⟨(Nat.le_of_ble_eq_true rfl), (Nat.le_of_ble_eq_true rfl)⟩) ⟨hz_P.blind, va_recv hK hP (ci := 7) (q0 := 2) rfl rfl, hz_P.mk (hP.sub (ws' := [(b0, .inr (7, [.ref b0_bytes, .int b0__length, .int (o19.1 3), .int (o19.1 0)]))]) [2] rfl) hE hS⟩ rfl rfl hl.1 rfl (lv_room (Nat.le_of_ble_eq_true rfl)) dX5_readRule_97 ⟨(Nat.le_of_ble_eq_true rfl), (Nat.le_of_ble_eq_true rfl)⟩) hS (fun _ _ h => h.elim) (fun _ h => h.elim) (fun r53 u t H1 locs ht hvm hw hB hz1 hk1 hS => ?_)
                have hP := hz_keep hP hk1
                clear hk1 hB hz1
                generalize H1 = H at hP hS ⊢
                rcases hw with ⟨rfl, h54⟩ | ⟨rfl, h55⟩
                · refine lv_if_eq (tgt := 118) hx hb dX5_readRule_100 (by decide) (fun _ => ?_) (fun z => absurd (by decide) z)
                  refine lv_aload_n hx hb dX5_readRule_118 rfl (lv_at hl 2 rfl) ?_
                  refine W.widen (k := 7) (n := 454) (Nat.le_of_ble_eq_true rfl) (Nat.le_of_ble_eq_true rfl) ?_
                  exact W.aret (v := .ref k35_A0) hx hb hr (Or.inl ⟨_, rfl⟩) (Or.inr ⟨_, rfl⟩) (fun t ht hW => ⟨⟨(), k35_A0, rfl, trivial, Or.inl ⟨o19.1 1, o19.1 2, (o19.2 0), o19.1 3, o19.1 0, k35_A0, o19.1 4, k35_A1, (o19.2 2), k35_A2, (o19.2 4), k35_A3, (o19.2 3), k35_A4, (o19.2 1), k35_A5, k35_C_k35_A5, rfl, h22, h23, h54, (iv_w h24 (by decide) (by decide)), h27, h26, h25, z35_4, by rw [ht]; exact hP.sub [1, 2, 3, 7, 4, 5, 6, 8, 9, 0] rfl, hD.sub [1, 2, 3, 7, 4, 5, 6, 8, 9, 0] (by decide) rfl⟩⟩, hS.F ht⟩) hS.2.2 dX5_readRule_119
                · exact (iv_no h55 h44 (by decide)).elim
            · refine lv_if_eq (tgt := 85) hx hb dX5_readRule_68 (by decide) (fun z => absurd z (by decide)) (fun _ => ?_)
              refine lv_aload_n hx hb dX5_readRule_71 rfl (lv_at hl 3 rfl) ?_
              refine va_get (D := D) (ci := 5) (v := .ref b0) (C := RX5) (T := TX5) (N := 4) hx hb hT i_X5 hown hK hP 1 rfl rfl 0 (by decide) (hT _ q_104) (fun _ h9 => h9) rfl dX5_readRule_72 ?_
              have hFc := va_free (wc := [(b0, .inr (7, [.ref b0_bytes, .int b0__length, .int (o19.1 3), .int (o19.1 0)])), (b0_bytes, .inl (cs 0, 400, .inl b0_bytes_c))]) hD hS hA [2,3] rfl
              refine va_calli (va_runV (As := []) (rest := []) ⟨hx, hb, hml, hown, hT⟩ (c_X7_takeNextClause l D cs kK kV b0 b0_bytes b0__length (o19.1 3) (o19.1 0) b0_bytes_c h_b0__length h23 ((iv_w h45 (by decide) (by decide))) h_b0_bytes_c H.size) (cwV 0 hT (hz_gV q_558 q_429 q_430 q_221 q_431) rfl rfl rfl (by decide +kernel) ⟨(Nat.le_of_ble_eq_true rfl), (Nat.le_of_ble_eq_true rfl)⟩) ⟨hz_C.blind, va_recv hK hP (ci := 7) (q0 := 2) rfl rfl, hz_C.mk (hP.sub (ws' := [(b0, .inr (7, [.ref b0_bytes, .int b0__length, .int (o19.1 3), .int (o19.1 0)])), (b0_bytes, .inl (cs 0, 400, .inl b0_bytes_c))]) [2,3] rfl) (hD.sub (ws' := [(b0, .inr (7, [.ref b0_bytes, .int b0__length, .int (o19.1 3), .int (o19.1 0)])), (b0_bytes, .inl (cs 0, 400, .inl b0_bytes_c))]) [2,3] (by decide) rfl) hE hS hFc⟩ rfl rfl hl.1 rfl (lv_room (Nat.le_of_ble_eq_true rfl)) dX5_readRule_75 ⟨(Nat.le_of_ble_eq_true rfl), (Nat.le_of_ble_eq_true rfl)⟩) hS (fun q _ h => hFc q h) hFc (fun r56 o57 t H1 locs ht hvm hw hB hz1 hk1 hS => ?_)
              obtain ⟨hP1, hD1⟩ := hB
              rw [ht] at hP1
              obtain ⟨hP, hD⟩ := va_join (wr := [(k35_A5, .inl (cs 0, 0, .inl k35_C_k35_A5)), (a, .inr (5, [.ref b0, .ref a_code, .int (o19.1 1), .int (o19.1 2)])), (k35_A0, .inr (4, [.int (o19.1 4), .ref k35_A1, .ref k35_A2, .ref k35_A3, .ref k35_A4, .ref k35_A5])), (k35_A1, .inl (cs 0, 12, .inl (o19.2 2))), (k35_A2, .inl (cs 0, 12, .inl (o19.2 4))), (a_code, .inl (cs 0, 400, .inl (o19.2 0))), (k35_A3, .inl (cs 0, 12, .inl (o19.2 3))), (k35_A4, .inl (cs 0, 12, .inl (o19.2 1)))]) (w1 := [(b0, .inr (7, [.ref b0_bytes, .int b0__length, .int (o57.1 1), .int (o57.1 0)])), (b0_bytes, .inl (cs 0, 400, .inl b0_bytes_c))]) hP hD [2, 3] [0, 1, 4, 5, 6, 7, 8, 9] rfl rfl (by decide) (by decide) hk1 hFc hP1 hD1
              generalize H1 = H at hP hS ⊢
              have hP : va_P D classes [(k35_A5, .inl (cs 0, 0, .inl k35_C_k35_A5)), (a, .inr (5, [.ref b0, .ref a_code, .int (o19.1 1), .int (o19.1 2)])), (k35_A0, .inr (4, [.int (o19.1 4), .ref k35_A1, .ref k35_A2, .ref k35_A3, .ref k35_A4, .ref k35_A5])), (k35_A1, .inl (cs 0, 12, .inl (o19.2 2))), (k35_A2, .inl (cs 0, 12, .inl (o19.2 4))), (a_code, .inl (cs 0, 400, .inl (o19.2 0))), (k35_A3, .inl (cs 0, 12, .inl (o19.2 3))), (k35_A4, .inl (cs 0, 12, .inl (o19.2 1))), (b0, .inr (7, [.ref b0_bytes, .int b0__length, .int (o57.1 1), .int (o57.1 0)])), (b0_bytes, .inl (cs 0, 400, .inl b0_bytes_c))] H := hP
              have hD : va_D A [(k35_A5, .inl (cs 0, 0, .inl k35_C_k35_A5)), (a, .inr (5, [.ref b0, .ref a_code, .int (o19.1 1), .int (o19.1 2)])), (k35_A0, .inr (4, [.int (o19.1 4), .ref k35_A1, .ref k35_A2, .ref k35_A3, .ref k35_A4, .ref k35_A5])), (k35_A1, .inl (cs 0, 12, .inl (o19.2 2))), (k35_A2, .inl (cs 0, 12, .inl (o19.2 4))), (a_code, .inl (cs 0, 400, .inl (o19.2 0))), (k35_A3, .inl (cs 0, 12, .inl (o19.2 3))), (k35_A4, .inl (cs 0, 12, .inl (o19.2 1))), (b0, .inr (7, [.ref b0_bytes, .int b0__length, .int (o57.1 1), .int (o57.1 0)])), (b0_bytes, .inl (cs 0, 400, .inl b0_bytes_c))] := hD
              clear hk1 hFc hP1 hD1 hz1
              rcases hw with ⟨rfl, h58, h59⟩ | ⟨rfl, h60, h61, h62⟩ | ⟨rfl, h63, h64, h65⟩
              · refine lv_if_eq (tgt := 85) hx hb dX5_readRule_78 (by decide) (fun _ => ?_) (fun z => absurd (by decide) z)
                refine lv_iconst (v := 0) hx hb dX5_readRule_85 (by decide) ?_
                refine lv_istore_n (lv' := [(3, .int 0), (4, .int k35_L_4), (2, .ref k35_A0), (0, .ref a), (1, .ref b0)]) hx hb dX5_readRule_86 rfl hl (by decide) rfl (fun ls hl => ?_)
                obtain ⟨v66, ev66⟩ : ∃ z : Int32, z = k35_L_4 + 1 := ⟨_, rfl⟩
                have hv66 : IV 1 13 v66 := iv_add ev66 h11 (iv_c (a := 1) (b := 1) (by decide)) (by decide) (by decide)
                have dv66 : v66.toInt = k35_L_4.toInt + 1 := iv_addE ev66 h11 (iv_c (a := 1) (b := 1) (by decide)) (by decide) (by decide) (by decide)
                refine lv_iinc (v := v66) (lv' := [(4, .int v66), (3, .int 0), (2, .ref k35_A0), (0, .ref a), (1, .ref b0)]) hx hb dX5_readRule_87 hl (k := 1) rfl (by rw [ev66]; rfl) (by decide) rfl (fun ls hl => ?_)
                refine lv_goto (tgt := 35) hx hb dX5_readRule_90 (by decide) ?_
                refine lv_iload hx hb dX5_readRule_35 (lv_at hl 0 rfl) ?_
                refine lv_bipush (v := 12) hx hb dX5_readRule_37 (by decide) ?_
                refine lv_icmp_gt (tgt := 93) hx hb dX5_readRule_39 (by decide) (fun c67 => ?_) (fun c67 => ?_)
                · have h68 : IV 13 13 v66 := iv_lt2 c67 (iv_c (a := 12) (b := 12) (by decide)) hv66 (by decide)
                  refine lv_aload_n hx hb dX5_readRule_93 rfl (lv_at hl 3 rfl) ?_
                  refine va_get (D := D) (ci := 5) (v := .ref b0) (C := RX5) (T := TX5) (N := 4) hx hb hT i_X5 hown hK hP 1 rfl rfl 0 (by decide) (hT _ q_104) (fun _ h9 => h9) rfl dX5_readRule_94 ?_
                  refine va_calli (va_runV (As := []) (rest := []) ⟨hx, hb, hml, hown, hT⟩ (c_X7_isSound l D cs kK kV b0 b0_bytes b0__length (o57.1 1) (o57.1 0) h58) (cwV 0 hT (hz_gV q_553 q_421 q_422 q_221 q_423) rfl rfl rfl (by decide +kernel) ⟨(Nat.le_of_ble_eq_true rfl), (Nat.le_of_ble_eq_true rfl)⟩) ⟨hz_P.blind, va_recv hK hP (ci := 7) (q0 := 8) rfl rfl, hz_P.mk (hP.sub (ws' := [(b0, .inr (7, [.ref b0_bytes, .int b0__length, .int (o57.1 1), .int (o57.1 0)]))]) [8] rfl) hE hS⟩ rfl rfl hl.1 rfl (lv_room (Nat.le_of_ble_eq_true rfl)) dX5_readRule_97 ⟨(Nat.le_of_ble_eq_true rfl), (Nat.le_of_ble_eq_true rfl)⟩) hS (fun _ _ h => h.elim) (fun _ h => h.elim) (fun r69 u t H1 locs ht hvm hw hB hz1 hk1 hS => ?_)
                  have hP := hz_keep hP hk1
                  clear hk1 hB hz1
                  generalize H1 = H at hP hS ⊢
                  rcases hw with ⟨rfl, h70⟩ | ⟨rfl, h71⟩
                  · refine lv_if_eq (tgt := 118) hx hb dX5_readRule_100 (by decide) (fun _ => ?_) (fun z => absurd (by decide) z)
                    refine lv_aload_n hx hb dX5_readRule_118 rfl (lv_at hl 2 rfl) ?_
                    refine W.widen (k := 7) (n := 454) (Nat.le_of_ble_eq_true rfl) (Nat.le_of_ble_eq_true rfl) ?_
                    exact W.aret (v := .ref k35_A0) hx hb hr (Or.inl ⟨_, rfl⟩) (Or.inr ⟨_, rfl⟩) (fun t ht hW => ⟨⟨(), k35_A0, rfl, trivial, Or.inl ⟨o19.1 1, o19.1 2, (o19.2 0), o57.1 1, o57.1 0, k35_A0, o19.1 4, k35_A1, (o19.2 2), k35_A2, (o19.2 4), k35_A3, (o19.2 3), k35_A4, (o19.2 1), k35_A5, k35_C_k35_A5, rfl, h22, h59, h70, (iv_w h24 (by decide) (by decide)), h27, h26, h25, z35_4, by rw [ht]; exact hP.sub [1, 8, 9, 5, 2, 3, 4, 6, 7, 0] rfl, hD.sub [1, 8, 9, 5, 2, 3, 4, 6, 7, 0] (by decide) rfl⟩⟩, hS.F ht⟩) hS.2.2 dX5_readRule_119
                  · refine lv_if_eq (tgt := 118) hx hb dX5_readRule_100 (by decide) (fun z => absurd z (by decide)) (fun _ => ?_)
                    refine lv_aload_n hx hb dX5_readRule_103 rfl (lv_at hl 2 rfl) ?_
                    refine lv_aload_n hx hb dX5_readRule_104 rfl (lv_at hl 3 rfl) ?_
                    refine va_get (D := D) (ci := 5) (v := .ref a_code) (C := RX5) (T := TX5) (N := 4) hx hb hT i_X5 hown hK hP 1 rfl rfl 1 (by decide) (hT _ q_103) (fun _ h9 => h9) rfl dX5_readRule_105 ?_
                    refine lv_aload_n hx hb dX5_readRule_108 rfl (lv_at hl 3 rfl) ?_
                    refine va_get (D := D) (ci := 5) (v := .int (o19.1 1)) (C := RX5) (T := TX5) (N := 4) hx hb hT i_X5 hown hK hP 1 rfl rfl 2 (by decide) (hT _ q_105) (fun _ h9 => h9) rfl dX5_readRule_109 ?_
                    have hFc := va_free (wc := [(a_code, .inl (cs 0, 400, .inl (o19.2 0)))]) hD hS hA [5] rfl
                    refine va_callr (va_runS (As := [.ref a_code, .int (o19.1 1)]) (rest := [.ref k35_A0]) ⟨hx, hb, hml, hown, hT⟩ (c_J7_copyOf_59c91_109 l D cs kK kV a_code (o19.1 1) (o19.2 0) h22 H.size) (va_cwS 2 hT (hz_gS q_559 q_560 q_533 q_561) rfl rfl rfl (by decide +kernel) ⟨(Nat.le_of_ble_eq_true rfl), (Nat.le_of_ble_eq_true rfl)⟩) ⟨hz_C.blind, hz_C.mk (hP.sub (ws' := [(a_code, .inl (cs 0, 400, .inl (o19.2 0)))]) [5] rfl) (hD.sub (ws' := [(a_code, .inl (cs 0, 400, .inl (o19.2 0)))]) [5] (by decide) rfl) hE hS hFc⟩ rfl rfl hl.1 rfl (lv_room (Nat.le_of_ble_eq_true rfl)) dX5_readRule_112 ⟨(Nat.le_of_ble_eq_true rfl), (Nat.le_of_ble_eq_true rfl)⟩) hS (fun q _ h => hFc q h) hFc (fun u r72 t H1 locs ht hvm hw hB hz1 hk1 hS => ?_)
                    obtain ⟨o73, o74, o75, rfl, h76, hP1, hD1⟩ := hB
                    rw [ht] at hP1
                    obtain ⟨hP, hD⟩ := va_join (wr := [(k35_A5, .inl (cs 0, 0, .inl k35_C_k35_A5)), (a, .inr (5, [.ref b0, .ref a_code, .int (o19.1 1), .int (o19.1 2)])), (k35_A0, .inr (4, [.int (o19.1 4), .ref k35_A1, .ref k35_A2, .ref k35_A3, .ref k35_A4, .ref k35_A5])), (k35_A1, .inl (cs 0, 12, .inl (o19.2 2))), (k35_A2, .inl (cs 0, 12, .inl (o19.2 4))), (k35_A3, .inl (cs 0, 12, .inl (o19.2 3))), (k35_A4, .inl (cs 0, 12, .inl (o19.2 1))), (b0, .inr (7, [.ref b0_bytes, .int b0__length, .int (o57.1 1), .int (o57.1 0)])), (b0_bytes, .inl (cs 0, 400, .inl b0_bytes_c))]) (w1 := [(a_code, .inl (cs 0, 400, .inl (o19.2 0))), (r72, .inl (cs 0, o75, .inl o74))]) hP hD [5] [0, 1, 2, 3, 4, 6, 7, 8, 9] rfl rfl (by decide) (by decide) hk1 hFc hP1 hD1
                    generalize H1 = H at hP hS ⊢
                    have hP : va_P D classes [(k35_A5, .inl (cs 0, 0, .inl k35_C_k35_A5)), (a, .inr (5, [.ref b0, .ref a_code, .int (o19.1 1), .int (o19.1 2)])), (k35_A0, .inr (4, [.int (o19.1 4), .ref k35_A1, .ref k35_A2, .ref k35_A3, .ref k35_A4, .ref k35_A5])), (k35_A1, .inl (cs 0, 12, .inl (o19.2 2))), (k35_A2, .inl (cs 0, 12, .inl (o19.2 4))), (k35_A3, .inl (cs 0, 12, .inl (o19.2 3))), (k35_A4, .inl (cs 0, 12, .inl (o19.2 1))), (b0, .inr (7, [.ref b0_bytes, .int b0__length, .int (o57.1 1), .int (o57.1 0)])), (b0_bytes, .inl (cs 0, 400, .inl b0_bytes_c)), (a_code, .inl (cs 0, 400, .inl (o19.2 0))), (r72, .inl (cs 0, o75, .inl o74))] H := hP
                    have hD : va_D A [(k35_A5, .inl (cs 0, 0, .inl k35_C_k35_A5)), (a, .inr (5, [.ref b0, .ref a_code, .int (o19.1 1), .int (o19.1 2)])), (k35_A0, .inr (4, [.int (o19.1 4), .ref k35_A1, .ref k35_A2, .ref k35_A3, .ref k35_A4, .ref k35_A5])), (k35_A1, .inl (cs 0, 12, .inl (o19.2 2))), (k35_A2, .inl (cs 0, 12, .inl (o19.2 4))), (k35_A3, .inl (cs 0, 12, .inl (o19.2 3))), (k35_A4, .inl (cs 0, 12, .inl (o19.2 1))), (b0, .inr (7, [.ref b0_bytes, .int b0__length, .int (o57.1 1), .int (o57.1 0)])), (b0_bytes, .inl (cs 0, 400, .inl b0_bytes_c)), (a_code, .inl (cs 0, 400, .inl (o19.2 0))), (r72, .inl (cs 0, o75, .inl o74))] := hD
                    clear hk1 hFc hP1 hD1 hz1
                    refine W.widen (k := 7) (n := 454) (Nat.le_of_ble_eq_true rfl) (Nat.le_of_ble_eq_true rfl) ?_
                    refine va_put (D := D) (ci := 4) (v := .ref r72) (ty := .array .int) (C := RX4) (T := TX4) (N := 6) hx hb hT i_X4 tyX4 tyX4_ok nmX4 hown hK hP hD hS 2 rfl rfl 5 (by decide) (hT _ q_107) (fun _ h9 => h9) rfl (by decide +kernel) rfl rfl (Nat.le_of_ble_eq_true rfl) dX5_readRule_115 (fun H locs hP hD hS => ?_)
                    have hP : va_P D classes [(k35_A5, .inl (cs 0, 0, .inl k35_C_k35_A5)), (a, .inr (5, [.ref b0, .ref a_code, .int (o19.1 1), .int (o19.1 2)])), (k35_A0, .inr (4, [.int (o19.1 4), .ref k35_A1, .ref k35_A2, .ref k35_A3, .ref k35_A4, .ref r72])), (k35_A1, .inl (cs 0, 12, .inl (o19.2 2))), (k35_A2, .inl (cs 0, 12, .inl (o19.2 4))), (k35_A3, .inl (cs 0, 12, .inl (o19.2 3))), (k35_A4, .inl (cs 0, 12, .inl (o19.2 1))), (b0, .inr (7, [.ref b0_bytes, .int b0__length, .int (o57.1 1), .int (o57.1 0)])), (b0_bytes, .inl (cs 0, 400, .inl b0_bytes_c)), (a_code, .inl (cs 0, 400, .inl (o19.2 0))), (r72, .inl (cs 0, o75, .inl o74))] H := hP
                    have hD : va_D A [(k35_A5, .inl (cs 0, 0, .inl k35_C_k35_A5)), (a, .inr (5, [.ref b0, .ref a_code, .int (o19.1 1), .int (o19.1 2)])), (k35_A0, .inr (4, [.int (o19.1 4), .ref k35_A1, .ref k35_A2, .ref k35_A3, .ref k35_A4, .ref r72])), (k35_A1, .inl (cs 0, 12, .inl (o19.2 2))), (k35_A2, .inl (cs 0, 12, .inl (o19.2 4))), (k35_A3, .inl (cs 0, 12, .inl (o19.2 3))), (k35_A4, .inl (cs 0, 12, .inl (o19.2 1))), (b0, .inr (7, [.ref b0_bytes, .int b0__length, .int (o57.1 1), .int (o57.1 0)])), (b0_bytes, .inl (cs 0, 400, .inl b0_bytes_c)), (a_code, .inl (cs 0, 400, .inl (o19.2 0))), (r72, .inl (cs 0, o75, .inl o74))] := hD
                    refine lv_aload_n hx hb dX5_readRule_118 rfl (lv_at hl 2 rfl) ?_
                    refine W.widen (k := 7) (n := 454) (Nat.le_of_ble_eq_true rfl) (Nat.le_of_ble_eq_true rfl) ?_
                    exact W.aret (v := .ref k35_A0) hx hb hr (Or.inl ⟨_, rfl⟩) (Or.inr ⟨_, rfl⟩) (fun t ht hW => ⟨⟨(), k35_A0, rfl, trivial, Or.inr ⟨o19.1 1, o19.1 2, (o19.2 0), o57.1 1, o57.1 0, k35_A0, o19.1 4, k35_A1, (o19.2 2), k35_A2, (o19.2 4), k35_A3, (o19.2 3), k35_A4, (o19.2 1), k35_A5, k35_C_k35_A5, r72, o74, o75, rfl, h22, h59, h71, (iv_w h24 (by decide) (by decide)), h27, h26, h25, z35_4, h76, by rw [ht]; exact hP.sub [1, 7, 8, 9, 2, 3, 4, 5, 6, 0, 10] rfl, hD.sub [1, 7, 8, 9, 2, 3, 4, 5, 6, 0, 10] (by decide) rfl⟩⟩, hS.F ht⟩) hS.2.2 dX5_readRule_119
                · have h77 : IV 1 12 v66 := iv_le1 (Int32.not_lt.mp c67) hv66 (iv_c (a := 12) (b := 12) (by decide)) (by decide)
                  refine lv_iload_n hx hb dX5_readRule_42 rfl (lv_at hl 1 rfl) ?_
                  refine lv_if_eq (tgt := 93) hx hb dX5_readRule_43 (by decide) (fun _ => ?_) (fun z => absurd (by decide) z)
                  refine lv_aload_n hx hb dX5_readRule_93 rfl (lv_at hl 3 rfl) ?_
                  refine va_get (D := D) (ci := 5) (v := .ref b0) (C := RX5) (T := TX5) (N := 4) hx hb hT i_X5 hown hK hP 1 rfl rfl 0 (by decide) (hT _ q_104) (fun _ h9 => h9) rfl dX5_readRule_94 ?_
                  refine va_calli (va_runV (As := []) (rest := []) ⟨hx, hb, hml, hown, hT⟩ (c_X7_isSound l D cs kK kV b0 b0_bytes b0__length (o57.1 1) (o57.1 0) h58) (cwV 0 hT (hz_gV q_553 q_421 q_422 q_221 q_423) rfl rfl rfl (by decide +kernel) ⟨(Nat.le_of_ble_eq_true rfl), (Nat.le_of_ble_eq_true rfl)⟩) ⟨hz_P.blind, va_recv hK hP (ci := 7) (q0 := 8) rfl rfl, hz_P.mk (hP.sub (ws' := [(b0, .inr (7, [.ref b0_bytes, .int b0__length, .int (o57.1 1), .int (o57.1 0)]))]) [8] rfl) hE hS⟩ rfl rfl hl.1 rfl (lv_room (Nat.le_of_ble_eq_true rfl)) dX5_readRule_97 ⟨(Nat.le_of_ble_eq_true rfl), (Nat.le_of_ble_eq_true rfl)⟩) hS (fun _ _ h => h.elim) (fun _ h => h.elim) (fun r78 u t H1 locs ht hvm hw hB hz1 hk1 hS => ?_)
                  have hP := hz_keep hP hk1
                  clear hk1 hB hz1
                  generalize H1 = H at hP hS ⊢
                  rcases hw with ⟨rfl, h79⟩ | ⟨rfl, h80⟩
                  · refine lv_if_eq (tgt := 118) hx hb dX5_readRule_100 (by decide) (fun _ => ?_) (fun z => absurd (by decide) z)
                    refine lv_aload_n hx hb dX5_readRule_118 rfl (lv_at hl 2 rfl) ?_
                    refine W.widen (k := 7) (n := 454) (Nat.le_of_ble_eq_true rfl) (Nat.le_of_ble_eq_true rfl) ?_
                    exact W.aret (v := .ref k35_A0) hx hb hr (Or.inl ⟨_, rfl⟩) (Or.inr ⟨_, rfl⟩) (fun t ht hW => ⟨⟨(), k35_A0, rfl, trivial, Or.inl ⟨o19.1 1, o19.1 2, (o19.2 0), o57.1 1, o57.1 0, k35_A0, o19.1 4, k35_A1, (o19.2 2), k35_A2, (o19.2 4), k35_A3, (o19.2 3), k35_A4, (o19.2 1), k35_A5, k35_C_k35_A5, rfl, h22, h59, h79, (iv_w h24 (by decide) (by decide)), h27, h26, h25, z35_4, by rw [ht]; exact hP.sub [1, 8, 9, 5, 2, 3, 4, 6, 7, 0] rfl, hD.sub [1, 8, 9, 5, 2, 3, 4, 6, 7, 0] (by decide) rfl⟩⟩, hS.F ht⟩) hS.2.2 dX5_readRule_119
                  · refine lv_if_eq (tgt := 118) hx hb dX5_readRule_100 (by decide) (fun z => absurd z (by decide)) (fun _ => ?_)
                    refine lv_aload_n hx hb dX5_readRule_103 rfl (lv_at hl 2 rfl) ?_
                    refine lv_aload_n hx hb dX5_readRule_104 rfl (lv_at hl 3 rfl) ?_
                    refine va_get (D := D) (ci := 5) (v := .ref a_code) (C := RX5) (T := TX5) (N := 4) hx hb hT i_X5 hown hK hP 1 rfl rfl 1 (by decide) (hT _ q_103) (fun _ h9 => h9) rfl dX5_readRule_105 ?_
                    refine lv_aload_n hx hb dX5_readRule_108 rfl (lv_at hl 3 rfl) ?_
                    refine va_get (D := D) (ci := 5) (v := .int (o19.1 1)) (C := RX5) (T := TX5) (N := 4) hx hb hT i_X5 hown hK hP 1 rfl rfl 2 (by decide) (hT _ q_105) (fun _ h9 => h9) rfl dX5_readRule_109 ?_
                    have hFc := va_free (wc := [(a_code, .inl (cs 0, 400, .inl (o19.2 0)))]) hD hS hA [5] rfl
                    refine va_callr (va_runS (As := [.ref a_code, .int (o19.1 1)]) (rest := [.ref k35_A0]) ⟨hx, hb, hml, hown, hT⟩ (c_J7_copyOf_59c91_109 l D cs kK kV a_code (o19.1 1) (o19.2 0) h22 H.size) (va_cwS 2 hT (hz_gS q_559 q_560 q_533 q_561) rfl rfl rfl (by decide +kernel) ⟨(Nat.le_of_ble_eq_true rfl), (Nat.le_of_ble_eq_true rfl)⟩) ⟨hz_C.blind, hz_C.mk (hP.sub (ws' := [(a_code, .inl (cs 0, 400, .inl (o19.2 0)))]) [5] rfl) (hD.sub (ws' := [(a_code, .inl (cs 0, 400, .inl (o19.2 0)))]) [5] (by decide) rfl) hE hS hFc⟩ rfl rfl hl.1 rfl (lv_room (Nat.le_of_ble_eq_true rfl)) dX5_readRule_112 ⟨(Nat.le_of_ble_eq_true rfl), (Nat.le_of_ble_eq_true rfl)⟩) hS (fun q _ h => hFc q h) hFc (fun u r81 t H1 locs ht hvm hw hB hz1 hk1 hS => ?_)
                    obtain ⟨o82, o83, o84, rfl, h85, hP1, hD1⟩ := hB
                    rw [ht] at hP1
                    obtain ⟨hP, hD⟩ := va_join (wr := [(k35_A5, .inl (cs 0, 0, .inl k35_C_k35_A5)), (a, .inr (5, [.ref b0, .ref a_code, .int (o19.1 1), .int (o19.1 2)])), (k35_A0, .inr (4, [.int (o19.1 4), .ref k35_A1, .ref k35_A2, .ref k35_A3, .ref k35_A4, .ref k35_A5])), (k35_A1, .inl (cs 0, 12, .inl (o19.2 2))), (k35_A2, .inl (cs 0, 12, .inl (o19.2 4))), (k35_A3, .inl (cs 0, 12, .inl (o19.2 3))), (k35_A4, .inl (cs 0, 12, .inl (o19.2 1))), (b0, .inr (7, [.ref b0_bytes, .int b0__length, .int (o57.1 1), .int (o57.1 0)])), (b0_bytes, .inl (cs 0, 400, .inl b0_bytes_c))]) (w1 := [(a_code, .inl (cs 0, 400, .inl (o19.2 0))), (r81, .inl (cs 0, o84, .inl o83))]) hP hD [5] [0, 1, 2, 3, 4, 6, 7, 8, 9] rfl rfl (by decide) (by decide) hk1 hFc hP1 hD1
                    generalize H1 = H at hP hS ⊢
                    have hP : va_P D classes [(k35_A5, .inl (cs 0, 0, .inl k35_C_k35_A5)), (a, .inr (5, [.ref b0, .ref a_code, .int (o19.1 1), .int (o19.1 2)])), (k35_A0, .inr (4, [.int (o19.1 4), .ref k35_A1, .ref k35_A2, .ref k35_A3, .ref k35_A4, .ref k35_A5])), (k35_A1, .inl (cs 0, 12, .inl (o19.2 2))), (k35_A2, .inl (cs 0, 12, .inl (o19.2 4))), (k35_A3, .inl (cs 0, 12, .inl (o19.2 3))), (k35_A4, .inl (cs 0, 12, .inl (o19.2 1))), (b0, .inr (7, [.ref b0_bytes, .int b0__length, .int (o57.1 1), .int (o57.1 0)])), (b0_bytes, .inl (cs 0, 400, .inl b0_bytes_c)), (a_code, .inl (cs 0, 400, .inl (o19.2 0))), (r81, .inl (cs 0, o84, .inl o83))] H := hP
                    have hD : va_D A [(k35_A5, .inl (cs 0, 0, .inl k35_C_k35_A5)), (a, .inr (5, [.ref b0, .ref a_code, .int (o19.1 1), .int (o19.1 2)])), (k35_A0, .inr (4, [.int (o19.1 4), .ref k35_A1, .ref k35_A2, .ref k35_A3, .ref k35_A4, .ref k35_A5])), (k35_A1, .inl (cs 0, 12, .inl (o19.2 2))), (k35_A2, .inl (cs 0, 12, .inl (o19.2 4))), (k35_A3, .inl (cs 0, 12, .inl (o19.2 3))), (k35_A4, .inl (cs 0, 12, .inl (o19.2 1))), (b0, .inr (7, [.ref b0_bytes, .int b0__length, .int (o57.1 1), .int (o57.1 0)])), (b0_bytes, .inl (cs 0, 400, .inl b0_bytes_c)), (a_code, .inl (cs 0, 400, .inl (o19.2 0))), (r81, .inl (cs 0, o84, .inl o83))] := hD
                    clear hk1 hFc hP1 hD1 hz1
                    refine W.widen (k := 7) (n := 454) (Nat.le_of_ble_eq_true rfl) (Nat.le_of_ble_eq_true rfl) ?_
                    refine va_put (D := D) (ci := 4) (v := .ref r81) (ty := .array .int) (C := RX4) (T := TX4) (N := 6) hx hb hT i_X4 tyX4 tyX4_ok nmX4 hown hK hP hD hS 2 rfl rfl 5 (by decide) (hT _ q_107) (fun _ h9 => h9) rfl (by decide +kernel) rfl rfl (Nat.le_of_ble_eq_true rfl) dX5_readRule_115 (fun H locs hP hD hS => ?_)
                    have hP : va_P D classes [(k35_A5, .inl (cs 0, 0, .inl k35_C_k35_A5)), (a, .inr (5, [.ref b0, .ref a_code, .int (o19.1 1), .int (o19.1 2)])), (k35_A0, .inr (4, [.int (o19.1 4), .ref k35_A1, .ref k35_A2, .ref k35_A3, .ref k35_A4, .ref r81])), (k35_A1, .inl (cs 0, 12, .inl (o19.2 2))), (k35_A2, .inl (cs 0, 12, .inl (o19.2 4))), (k35_A3, .inl (cs 0, 12, .inl (o19.2 3))), (k35_A4, .inl (cs 0, 12, .inl (o19.2 1))), (b0, .inr (7, [.ref b0_bytes, .int b0__length, .int (o57.1 1), .int (o57.1 0)])), (b0_bytes, .inl (cs 0, 400, .inl b0_bytes_c)), (a_code, .inl (cs 0, 400, .inl (o19.2 0))), (r81, .inl (cs 0, o84, .inl o83))] H := hP
                    have hD : va_D A [(k35_A5, .inl (cs 0, 0, .inl k35_C_k35_A5)), (a, .inr (5, [.ref b0, .ref a_code, .int (o19.1 1), .int (o19.1 2)])), (k35_A0, .inr (4, [.int (o19.1 4), .ref k35_A1, .ref k35_A2, .ref k35_A3, .ref k35_A4, .ref r81])), (k35_A1, .inl (cs 0, 12, .inl (o19.2 2))), (k35_A2, .inl (cs 0, 12, .inl (o19.2 4))), (k35_A3, .inl (cs 0, 12, .inl (o19.2 3))), (k35_A4, .inl (cs 0, 12, .inl (o19.2 1))), (b0, .inr (7, [.ref b0_bytes, .int b0__length, .int (o57.1 1), .int (o57.1 0)])), (b0_bytes, .inl (cs 0, 400, .inl b0_bytes_c)), (a_code, .inl (cs 0, 400, .inl (o19.2 0))), (r81, .inl (cs 0, o84, .inl o83))] := hD
                    refine lv_aload_n hx hb dX5_readRule_118 rfl (lv_at hl 2 rfl) ?_
                    refine W.widen (k := 7) (n := 454) (Nat.le_of_ble_eq_true rfl) (Nat.le_of_ble_eq_true rfl) ?_
                    exact W.aret (v := .ref k35_A0) hx hb hr (Or.inl ⟨_, rfl⟩) (Or.inr ⟨_, rfl⟩) (fun t ht hW => ⟨⟨(), k35_A0, rfl, trivial, Or.inr ⟨o19.1 1, o19.1 2, (o19.2 0), o57.1 1, o57.1 0, k35_A0, o19.1 4, k35_A1, (o19.2 2), k35_A2, (o19.2 4), k35_A3, (o19.2 3), k35_A4, (o19.2 1), k35_A5, k35_C_k35_A5, r81, o83, o84, rfl, h22, h59, h80, (iv_w h24 (by decide) (by decide)), h27, h26, h25, z35_4, h85, by rw [ht]; exact hP.sub [1, 7, 8, 9, 2, 3, 4, 5, 6, 0, 10] rfl, hD.sub [1, 7, 8, 9, 2, 3, 4, 5, 6, 0, 10] (by decide) rfl⟩⟩, hS.F ht⟩) hS.2.2 dX5_readRule_119
              · refine lv_if_eq (tgt := 85) hx hb dX5_readRule_78 (by decide) (fun _ => ?_) (fun z => absurd (by decide) z)
                refine lv_iconst (v := 0) hx hb dX5_readRule_85 (by decide) ?_
                refine lv_istore_n (lv' := [(3, .int 0), (4, .int k35_L_4), (2, .ref k35_A0), (0, .ref a), (1, .ref b0)]) hx hb dX5_readRule_86 rfl hl (by decide) rfl (fun ls hl => ?_)
                obtain ⟨v86, ev86⟩ : ∃ z : Int32, z = k35_L_4 + 1 := ⟨_, rfl⟩
                have hv86 : IV 1 13 v86 := iv_add ev86 h11 (iv_c (a := 1) (b := 1) (by decide)) (by decide) (by decide)
                have dv86 : v86.toInt = k35_L_4.toInt + 1 := iv_addE ev86 h11 (iv_c (a := 1) (b := 1) (by decide)) (by decide) (by decide) (by decide)
                refine lv_iinc (v := v86) (lv' := [(4, .int v86), (3, .int 0), (2, .ref k35_A0), (0, .ref a), (1, .ref b0)]) hx hb dX5_readRule_87 hl (k := 1) rfl (by rw [ev86]; rfl) (by decide) rfl (fun ls hl => ?_)
                refine lv_goto (tgt := 35) hx hb dX5_readRule_90 (by decide) ?_
                refine lv_iload hx hb dX5_readRule_35 (lv_at hl 0 rfl) ?_
                refine lv_bipush (v := 12) hx hb dX5_readRule_37 (by decide) ?_
                refine lv_icmp_gt (tgt := 93) hx hb dX5_readRule_39 (by decide) (fun c87 => ?_) (fun c87 => ?_)
                · have h88 : IV 13 13 v86 := iv_lt2 c87 (iv_c (a := 12) (b := 12) (by decide)) hv86 (by decide)
                  refine lv_aload_n hx hb dX5_readRule_93 rfl (lv_at hl 3 rfl) ?_
                  refine va_get (D := D) (ci := 5) (v := .ref b0) (C := RX5) (T := TX5) (N := 4) hx hb hT i_X5 hown hK hP 1 rfl rfl 0 (by decide) (hT _ q_104) (fun _ h9 => h9) rfl dX5_readRule_94 ?_
                  refine va_calli (va_runV (As := []) (rest := []) ⟨hx, hb, hml, hown, hT⟩ (c_X7_isSound l D cs kK kV b0 b0_bytes b0__length (o57.1 1) (o57.1 0) ((iv_w h60 (by decide) (by decide)))) (cwV 0 hT (hz_gV q_553 q_421 q_422 q_221 q_423) rfl rfl rfl (by decide +kernel) ⟨(Nat.le_of_ble_eq_true rfl), (Nat.le_of_ble_eq_true rfl)⟩) ⟨hz_P.blind, va_recv hK hP (ci := 7) (q0 := 8) rfl rfl, hz_P.mk (hP.sub (ws' := [(b0, .inr (7, [.ref b0_bytes, .int b0__length, .int (o57.1 1), .int (o57.1 0)]))]) [8] rfl) hE hS⟩ rfl rfl hl.1 rfl (lv_room (Nat.le_of_ble_eq_true rfl)) dX5_readRule_97 ⟨(Nat.le_of_ble_eq_true rfl), (Nat.le_of_ble_eq_true rfl)⟩) hS (fun _ _ h => h.elim) (fun _ h => h.elim) (fun r89 u t H1 locs ht hvm hw hB hz1 hk1 hS => ?_)
                  have hP := hz_keep hP hk1
                  clear hk1 hB hz1
                  generalize H1 = H at hP hS ⊢
                  rcases hw with ⟨rfl, h90⟩ | ⟨rfl, h91⟩
                  · refine lv_if_eq (tgt := 118) hx hb dX5_readRule_100 (by decide) (fun _ => ?_) (fun z => absurd (by decide) z)
                    refine lv_aload_n hx hb dX5_readRule_118 rfl (lv_at hl 2 rfl) ?_
                    refine W.widen (k := 7) (n := 454) (Nat.le_of_ble_eq_true rfl) (Nat.le_of_ble_eq_true rfl) ?_
                    exact W.aret (v := .ref k35_A0) hx hb hr (Or.inl ⟨_, rfl⟩) (Or.inr ⟨_, rfl⟩) (fun t ht hW => ⟨⟨(), k35_A0, rfl, trivial, Or.inl ⟨o19.1 1, o19.1 2, (o19.2 0), o57.1 1, o57.1 0, k35_A0, o19.1 4, k35_A1, (o19.2 2), k35_A2, (o19.2 4), k35_A3, (o19.2 3), k35_A4, (o19.2 1), k35_A5, k35_C_k35_A5, rfl, h22, (iv_w h62 (by decide) (by decide)), h90, (iv_w h24 (by decide) (by decide)), h27, h26, h25, z35_4, by rw [ht]; exact hP.sub [1, 8, 9, 5, 2, 3, 4, 6, 7, 0] rfl, hD.sub [1, 8, 9, 5, 2, 3, 4, 6, 7, 0] (by decide) rfl⟩⟩, hS.F ht⟩) hS.2.2 dX5_readRule_119
                  · exact (iv_no h91 h60 (by decide)).elim
                · have h92 : IV 1 12 v86 := iv_le1 (Int32.not_lt.mp c87) hv86 (iv_c (a := 12) (b := 12) (by decide)) (by decide)
                  refine lv_iload_n hx hb dX5_readRule_42 rfl (lv_at hl 1 rfl) ?_
                  refine lv_if_eq (tgt := 93) hx hb dX5_readRule_43 (by decide) (fun _ => ?_) (fun z => absurd (by decide) z)
                  refine lv_aload_n hx hb dX5_readRule_93 rfl (lv_at hl 3 rfl) ?_
                  refine va_get (D := D) (ci := 5) (v := .ref b0) (C := RX5) (T := TX5) (N := 4) hx hb hT i_X5 hown hK hP 1 rfl rfl 0 (by decide) (hT _ q_104) (fun _ h9 => h9) rfl dX5_readRule_94 ?_
                  refine va_calli (va_runV (As := []) (rest := []) ⟨hx, hb, hml, hown, hT⟩ (c_X7_isSound l D cs kK kV b0 b0_bytes b0__length (o57.1 1) (o57.1 0) ((iv_w h60 (by decide) (by decide)))) (cwV 0 hT (hz_gV q_553 q_421 q_422 q_221 q_423) rfl rfl rfl (by decide +kernel) ⟨(Nat.le_of_ble_eq_true rfl), (Nat.le_of_ble_eq_true rfl)⟩) ⟨hz_P.blind, va_recv hK hP (ci := 7) (q0 := 8) rfl rfl, hz_P.mk (hP.sub (ws' := [(b0, .inr (7, [.ref b0_bytes, .int b0__length, .int (o57.1 1), .int (o57.1 0)]))]) [8] rfl) hE hS⟩ rfl rfl hl.1 rfl (lv_room (Nat.le_of_ble_eq_true rfl)) dX5_readRule_97 ⟨(Nat.le_of_ble_eq_true rfl), (Nat.le_of_ble_eq_true rfl)⟩) hS (fun _ _ h => h.elim) (fun _ h => h.elim) (fun r93 u t H1 locs ht hvm hw hB hz1 hk1 hS => ?_)
                  have hP := hz_keep hP hk1
                  clear hk1 hB hz1
                  generalize H1 = H at hP hS ⊢
                  rcases hw with ⟨rfl, h94⟩ | ⟨rfl, h95⟩
                  · refine lv_if_eq (tgt := 118) hx hb dX5_readRule_100 (by decide) (fun _ => ?_) (fun z => absurd (by decide) z)
                    refine lv_aload_n hx hb dX5_readRule_118 rfl (lv_at hl 2 rfl) ?_
                    refine W.widen (k := 7) (n := 454) (Nat.le_of_ble_eq_true rfl) (Nat.le_of_ble_eq_true rfl) ?_
                    exact W.aret (v := .ref k35_A0) hx hb hr (Or.inl ⟨_, rfl⟩) (Or.inr ⟨_, rfl⟩) (fun t ht hW => ⟨⟨(), k35_A0, rfl, trivial, Or.inl ⟨o19.1 1, o19.1 2, (o19.2 0), o57.1 1, o57.1 0, k35_A0, o19.1 4, k35_A1, (o19.2 2), k35_A2, (o19.2 4), k35_A3, (o19.2 3), k35_A4, (o19.2 1), k35_A5, k35_C_k35_A5, rfl, h22, (iv_w h62 (by decide) (by decide)), h94, (iv_w h24 (by decide) (by decide)), h27, h26, h25, z35_4, by rw [ht]; exact hP.sub [1, 8, 9, 5, 2, 3, 4, 6, 7, 0] rfl, hD.sub [1, 8, 9, 5, 2, 3, 4, 6, 7, 0] (by decide) rfl⟩⟩, hS.F ht⟩) hS.2.2 dX5_readRule_119
                  · exact (iv_no h95 h60 (by decide)).elim
              · refine lv_if_eq (tgt := 85) hx hb dX5_readRule_78 (by decide) (fun z => absurd z (by decide)) (fun _ => ?_)
                refine lv_iconst (v := 1) hx hb dX5_readRule_81 (by decide) ?_
                refine lv_goto (tgt := 86) hx hb dX5_readRule_82 (by decide) ?_
                refine lv_istore_n (lv' := [(3, .int 1), (4, .int k35_L_4), (2, .ref k35_A0), (0, .ref a), (1, .ref b0)]) hx hb dX5_readRule_86 rfl hl (by decide) rfl (fun ls hl => ?_)
                obtain ⟨v96, ev96⟩ : ∃ z : Int32, z = k35_L_4 + 1 := ⟨_, rfl⟩
                have hv96 : IV 1 13 v96 := iv_add ev96 h11 (iv_c (a := 1) (b := 1) (by decide)) (by decide) (by decide)
                have dv96 : v96.toInt = k35_L_4.toInt + 1 := iv_addE ev96 h11 (iv_c (a := 1) (b := 1) (by decide)) (by decide) (by decide) (by decide)
                refine lv_iinc (v := v96) (lv' := [(4, .int v96), (3, .int 1), (2, .ref k35_A0), (0, .ref a), (1, .ref b0)]) hx hb dX5_readRule_87 hl (k := 1) rfl (by rw [ev96]; rfl) (by decide) rfl (fun ls hl => ?_)
                refine lv_goto (tgt := 35) hx hb dX5_readRule_90 (by decide) ?_
                exact ih35 k35_A0 k35_A1 k35_A2 k35_A3 k35_A4 k35_A5 v96 (o19.1 1) (o19.1 2) (o19.2 0) (o19.1 4) (o19.2 2) (o19.2 4) (o19.2 3) (o19.2 1) k35_C_k35_A5 (o57.1 1) (o57.1 0) (by have h9 := h11; unfold IV at h9; have := dv96; omega) h22 h65 h63 (iv_w h24 (by decide) (by decide)) (iv_w hv96 (by decide) (by decide)) h27 h26 h25 z35_4 H locs (hP.sub (ws' := [(a, .inr (5, [.ref b0, .ref a_code, .int (o19.1 1), .int (o19.1 2)])), (b0_bytes, .inl (cs 0, 400, .inl b0_bytes_c)), (a_code, .inl (cs 0, 400, .inl (o19.2 0))), (k35_A0, .inr (4, [.int (o19.1 4), .ref k35_A1, .ref k35_A2, .ref k35_A3, .ref k35_A4, .ref k35_A5])), (k35_A1, .inl (cs 0, 12, .inl (o19.2 2))), (k35_A2, .inl (cs 0, 12, .inl (o19.2 4))), (k35_A3, .inl (cs 0, 12, .inl (o19.2 3))), (k35_A4, .inl (cs 0, 12, .inl (o19.2 1))), (k35_A5, .inl (cs 0, 0, .inl k35_C_k35_A5)), (b0, .inr (7, [.ref b0_bytes, .int b0__length, .int (o57.1 1), .int (o57.1 0)]))]) [1, 9, 5, 2, 3, 4, 6, 7, 0, 8] rfl) (hD.sub (ws' := [(a, .inr (5, [.ref b0, .ref a_code, .int (o19.1 1), .int (o19.1 2)])), (b0_bytes, .inl (cs 0, 400, .inl b0_bytes_c)), (a_code, .inl (cs 0, 400, .inl (o19.2 0))), (k35_A0, .inr (4, [.int (o19.1 4), .ref k35_A1, .ref k35_A2, .ref k35_A3, .ref k35_A4, .ref k35_A5])), (k35_A1, .inl (cs 0, 12, .inl (o19.2 2))), (k35_A2, .inl (cs 0, 12, .inl (o19.2 4))), (k35_A3, .inl (cs 0, 12, .inl (o19.2 3))), (k35_A4, .inl (cs 0, 12, .inl (o19.2 1))), (k35_A5, .inl (cs 0, 0, .inl k35_C_k35_A5)), (b0, .inr (7, [.ref b0_bytes, .int b0__length, .int (o57.1 1), .int (o57.1 0)]))]) [1, 9, 5, 2, 3, 4, 6, 7, 0, 8] (by decide) rfl) hS ls (lv_sub hl [0, 1, 2, 3, 4] rfl)
          · refine lv_aload_n hx hb dX5_readRule_61 rfl (lv_at hl 3 rfl) ?_
            refine va_get (D := D) (ci := 5) (v := .ref b0) (C := RX5) (T := TX5) (N := 4) hx hb hT i_X5 hown hK hP 1 rfl rfl 0 (by decide) (hT _ q_104) (fun _ h9 => h9) rfl dX5_readRule_62 ?_
            refine va_calli (va_runV (As := []) (rest := []) ⟨hx, hb, hml, hown, hT⟩ (c_X7_isSound l D cs kK kV b0 b0_bytes b0__length (o19.1 3) (o19.1 0) ((iv_w h28 (by decide) (by decide)))) (cwV 0 hT (hz_gV q_553 q_421 q_422 q_221 q_423) rfl rfl rfl (by decide +kernel) ⟨(Nat.le_of_ble_eq_true rfl), (Nat.le_of_ble_eq_true rfl)⟩) ⟨hz_P.blind, va_recv hK hP (ci := 7) (q0 := 2) rfl rfl, hz_P.mk (hP.sub (ws' := [(b0, .inr (7, [.ref b0_bytes, .int b0__length, .int (o19.1 3), .int (o19.1 0)]))]) [2] rfl) hE hS⟩ rfl rfl hl.1 rfl (lv_room (Nat.le_of_ble_eq_true rfl)) dX5_readRule_65 ⟨(Nat.le_of_ble_eq_true rfl), (Nat.le_of_ble_eq_true rfl)⟩) hS (fun _ _ h => h.elim) (fun _ h => h.elim) (fun r97 u t H1 locs ht hvm hw hB hz1 hk1 hS => ?_)
            have hP := hz_keep hP hk1
            clear hk1 hB hz1
            generalize H1 = H at hP hS ⊢
            rcases hw with ⟨rfl, h98⟩ | ⟨rfl, h99⟩
            · refine lv_if_eq (tgt := 85) hx hb dX5_readRule_68 (by decide) (fun _ => ?_) (fun z => absurd (by decide) z)
              refine lv_iconst (v := 0) hx hb dX5_readRule_85 (by decide) ?_
              refine lv_istore_n (lv' := [(3, .int 0), (4, .int k35_L_4), (2, .ref k35_A0), (0, .ref a), (1, .ref b0)]) hx hb dX5_readRule_86 rfl hl (by decide) rfl (fun ls hl => ?_)
              obtain ⟨v100, ev100⟩ : ∃ z : Int32, z = k35_L_4 + 1 := ⟨_, rfl⟩
              have hv100 : IV 1 13 v100 := iv_add ev100 h11 (iv_c (a := 1) (b := 1) (by decide)) (by decide) (by decide)
              have dv100 : v100.toInt = k35_L_4.toInt + 1 := iv_addE ev100 h11 (iv_c (a := 1) (b := 1) (by decide)) (by decide) (by decide) (by decide)
              refine lv_iinc (v := v100) (lv' := [(4, .int v100), (3, .int 0), (2, .ref k35_A0), (0, .ref a), (1, .ref b0)]) hx hb dX5_readRule_87 hl (k := 1) rfl (by rw [ev100]; rfl) (by decide) rfl (fun ls hl => ?_)
              refine lv_goto (tgt := 35) hx hb dX5_readRule_90 (by decide) ?_
              refine lv_iload hx hb dX5_readRule_35 (lv_at hl 0 rfl) ?_
              refine lv_bipush (v := 12) hx hb dX5_readRule_37 (by decide) ?_
              refine lv_icmp_gt (tgt := 93) hx hb dX5_readRule_39 (by decide) (fun c101 => ?_) (fun c101 => ?_)
              · have h102 : IV 13 13 v100 := iv_lt2 c101 (iv_c (a := 12) (b := 12) (by decide)) hv100 (by decide)
                refine lv_aload_n hx hb dX5_readRule_93 rfl (lv_at hl 3 rfl) ?_
                refine va_get (D := D) (ci := 5) (v := .ref b0) (C := RX5) (T := TX5) (N := 4) hx hb hT i_X5 hown hK hP 1 rfl rfl 0 (by decide) (hT _ q_104) (fun _ h9 => h9) rfl dX5_readRule_94 ?_
                refine va_calli (va_runV (As := []) (rest := []) ⟨hx, hb, hml, hown, hT⟩ (c_X7_isSound l D cs kK kV b0 b0_bytes b0__length (o19.1 3) (o19.1 0) ((iv_w h98 (by decide) (by decide)))) (cwV 0 hT (hz_gV q_553 q_421 q_422 q_221 q_423) rfl rfl rfl (by decide +kernel) ⟨(Nat.le_of_ble_eq_true rfl), (Nat.le_of_ble_eq_true rfl)⟩) ⟨hz_P.blind, va_recv hK hP (ci := 7) (q0 := 2) rfl rfl, hz_P.mk (hP.sub (ws' := [(b0, .inr (7, [.ref b0_bytes, .int b0__length, .int (o19.1 3), .int (o19.1 0)]))]) [2] rfl) hE hS⟩ rfl rfl hl.1 rfl (lv_room (Nat.le_of_ble_eq_true rfl)) dX5_readRule_97 ⟨(Nat.le_of_ble_eq_true rfl), (Nat.le_of_ble_eq_true rfl)⟩) hS (fun _ _ h => h.elim) (fun _ h => h.elim) (fun r103 u t H1 locs ht hvm hw hB hz1 hk1 hS => ?_)
                have hP := hz_keep hP hk1
                clear hk1 hB hz1
                generalize H1 = H at hP hS ⊢
                rcases hw with ⟨rfl, h104⟩ | ⟨rfl, h105⟩
                · refine lv_if_eq (tgt := 118) hx hb dX5_readRule_100 (by decide) (fun _ => ?_) (fun z => absurd (by decide) z)
                  refine lv_aload_n hx hb dX5_readRule_118 rfl (lv_at hl 2 rfl) ?_
                  refine W.widen (k := 7) (n := 454) (Nat.le_of_ble_eq_true rfl) (Nat.le_of_ble_eq_true rfl) ?_
                  exact W.aret (v := .ref k35_A0) hx hb hr (Or.inl ⟨_, rfl⟩) (Or.inr ⟨_, rfl⟩) (fun t ht hW => ⟨⟨(), k35_A0, rfl, trivial, Or.inl ⟨o19.1 1, o19.1 2, (o19.2 0), o19.1 3, o19.1 0, k35_A0, o19.1 4, k35_A1, (o19.2 2), k35_A2, (o19.2 4), k35_A3, (o19.2 3), k35_A4, (o19.2 1), k35_A5, k35_C_k35_A5, rfl, h29, h30, h104, h31, h34, h33, h32, z35_4, by rw [ht]; exact hP.sub [1, 2, 3, 7, 4, 5, 6, 8, 9, 0] rfl, hD.sub [1, 2, 3, 7, 4, 5, 6, 8, 9, 0] (by decide) rfl⟩⟩, hS.F ht⟩) hS.2.2 dX5_readRule_119
                · exact (iv_no h105 h98 (by decide)).elim
              · have h106 : IV 1 12 v100 := iv_le1 (Int32.not_lt.mp c101) hv100 (iv_c (a := 12) (b := 12) (by decide)) (by decide)
                refine lv_iload_n hx hb dX5_readRule_42 rfl (lv_at hl 1 rfl) ?_
                refine lv_if_eq (tgt := 93) hx hb dX5_readRule_43 (by decide) (fun _ => ?_) (fun z => absurd (by decide) z)
                refine lv_aload_n hx hb dX5_readRule_93 rfl (lv_at hl 3 rfl) ?_
                refine va_get (D := D) (ci := 5) (v := .ref b0) (C := RX5) (T := TX5) (N := 4) hx hb hT i_X5 hown hK hP 1 rfl rfl 0 (by decide) (hT _ q_104) (fun _ h9 => h9) rfl dX5_readRule_94 ?_
                refine va_calli (va_runV (As := []) (rest := []) ⟨hx, hb, hml, hown, hT⟩ (c_X7_isSound l D cs kK kV b0 b0_bytes b0__length (o19.1 3) (o19.1 0) ((iv_w h98 (by decide) (by decide)))) (cwV 0 hT (hz_gV q_553 q_421 q_422 q_221 q_423) rfl rfl rfl (by decide +kernel) ⟨(Nat.le_of_ble_eq_true rfl), (Nat.le_of_ble_eq_true rfl)⟩) ⟨hz_P.blind, va_recv hK hP (ci := 7) (q0 := 2) rfl rfl, hz_P.mk (hP.sub (ws' := [(b0, .inr (7, [.ref b0_bytes, .int b0__length, .int (o19.1 3), .int (o19.1 0)]))]) [2] rfl) hE hS⟩ rfl rfl hl.1 rfl (lv_room (Nat.le_of_ble_eq_true rfl)) dX5_readRule_97 ⟨(Nat.le_of_ble_eq_true rfl), (Nat.le_of_ble_eq_true rfl)⟩) hS (fun _ _ h => h.elim) (fun _ h => h.elim) (fun r107 u t H1 locs ht hvm hw hB hz1 hk1 hS => ?_)
                have hP := hz_keep hP hk1
                clear hk1 hB hz1
                generalize H1 = H at hP hS ⊢
                rcases hw with ⟨rfl, h108⟩ | ⟨rfl, h109⟩
                · refine lv_if_eq (tgt := 118) hx hb dX5_readRule_100 (by decide) (fun _ => ?_) (fun z => absurd (by decide) z)
                  refine lv_aload_n hx hb dX5_readRule_118 rfl (lv_at hl 2 rfl) ?_
                  refine W.widen (k := 7) (n := 454) (Nat.le_of_ble_eq_true rfl) (Nat.le_of_ble_eq_true rfl) ?_
                  exact W.aret (v := .ref k35_A0) hx hb hr (Or.inl ⟨_, rfl⟩) (Or.inr ⟨_, rfl⟩) (fun t ht hW => ⟨⟨(), k35_A0, rfl, trivial, Or.inl ⟨o19.1 1, o19.1 2, (o19.2 0), o19.1 3, o19.1 0, k35_A0, o19.1 4, k35_A1, (o19.2 2), k35_A2, (o19.2 4), k35_A3, (o19.2 3), k35_A4, (o19.2 1), k35_A5, k35_C_k35_A5, rfl, h29, h30, h108, h31, h34, h33, h32, z35_4, by rw [ht]; exact hP.sub [1, 2, 3, 7, 4, 5, 6, 8, 9, 0] rfl, hD.sub [1, 2, 3, 7, 4, 5, 6, 8, 9, 0] (by decide) rfl⟩⟩, hS.F ht⟩) hS.2.2 dX5_readRule_119
                · exact (iv_no h109 h98 (by decide)).elim
            · exact (iv_no h99 h28 (by decide)).elim
          · refine lv_aload_n hx hb dX5_readRule_61 rfl (lv_at hl 3 rfl) ?_
            refine va_get (D := D) (ci := 5) (v := .ref b0) (C := RX5) (T := TX5) (N := 4) hx hb hT i_X5 hown hK hP 1 rfl rfl 0 (by decide) (hT _ q_104) (fun _ h9 => h9) rfl dX5_readRule_62 ?_
            refine va_calli (va_runV (As := []) (rest := []) ⟨hx, hb, hml, hown, hT⟩ (c_X7_isSound l D cs kK kV b0 b0_bytes b0__length (o19.1 3) (o19.1 0) ((iv_w h35 (by decide) (by decide)))) (cwV 0 hT (hz_gV q_553 q_421 q_422 q_221 q_423) rfl rfl rfl (by decide +kernel) ⟨(Nat.le_of_ble_eq_true rfl), (Nat.le_of_ble_eq_true rfl)⟩) ⟨hz_P.blind, va_recv hK hP (ci := 7) (q0 := 2) rfl rfl, hz_P.mk (hP.sub (ws' := [(b0, .inr (7, [.ref b0_bytes, .int b0__length, .int (o19.1 3), .int (o19.1 0)]))]) [2] rfl) hE hS⟩ rfl rfl hl.1 rfl (lv_room (Nat.le_of_ble_eq_true rfl)) dX5_readRule_65 ⟨(Nat.le_of_ble_eq_true rfl), (Nat.le_of_ble_eq_true rfl)⟩) hS (fun _ _ h => h.elim) (fun _ h => h.elim) (fun r110 u t H1 locs ht hvm hw hB hz1 hk1 hS => ?_)
            have hP := hz_keep hP hk1
            clear hk1 hB hz1
            generalize H1 = H at hP hS ⊢
            rcases hw with ⟨rfl, h111⟩ | ⟨rfl, h112⟩
            · exact (iv_no h111 h35 (by decide)).elim
            · refine lv_if_eq (tgt := 85) hx hb dX5_readRule_68 (by decide) (fun z => absurd z (by decide)) (fun _ => ?_)
              refine lv_aload_n hx hb dX5_readRule_71 rfl (lv_at hl 3 rfl) ?_
              refine va_get (D := D) (ci := 5) (v := .ref b0) (C := RX5) (T := TX5) (N := 4) hx hb hT i_X5 hown hK hP 1 rfl rfl 0 (by decide) (hT _ q_104) (fun _ h9 => h9) rfl dX5_readRule_72 ?_
              have hFc := va_free (wc := [(b0, .inr (7, [.ref b0_bytes, .int b0__length, .int (o19.1 3), .int (o19.1 0)])), (b0_bytes, .inl (cs 0, 400, .inl b0_bytes_c))]) hD hS hA [2,3] rfl
              refine va_calli (va_runV (As := []) (rest := []) ⟨hx, hb, hml, hown, hT⟩ (c_X7_takeNextClause l D cs kK kV b0 b0_bytes b0__length (o19.1 3) (o19.1 0) b0_bytes_c h_b0__length h38 ((iv_w h112 (by decide) (by decide))) h_b0_bytes_c H.size) (cwV 0 hT (hz_gV q_558 q_429 q_430 q_221 q_431) rfl rfl rfl (by decide +kernel) ⟨(Nat.le_of_ble_eq_true rfl), (Nat.le_of_ble_eq_true rfl)⟩) ⟨hz_C.blind, va_recv hK hP (ci := 7) (q0 := 2) rfl rfl, hz_C.mk (hP.sub (ws' := [(b0, .inr (7, [.ref b0_bytes, .int b0__length, .int (o19.1 3), .int (o19.1 0)])), (b0_bytes, .inl (cs 0, 400, .inl b0_bytes_c))]) [2,3] rfl) (hD.sub (ws' := [(b0, .inr (7, [.ref b0_bytes, .int b0__length, .int (o19.1 3), .int (o19.1 0)])), (b0_bytes, .inl (cs 0, 400, .inl b0_bytes_c))]) [2,3] (by decide) rfl) hE hS hFc⟩ rfl rfl hl.1 rfl (lv_room (Nat.le_of_ble_eq_true rfl)) dX5_readRule_75 ⟨(Nat.le_of_ble_eq_true rfl), (Nat.le_of_ble_eq_true rfl)⟩) hS (fun q _ h => hFc q h) hFc (fun r113 o114 t H1 locs ht hvm hw hB hz1 hk1 hS => ?_)
              obtain ⟨hP1, hD1⟩ := hB
              rw [ht] at hP1
              obtain ⟨hP, hD⟩ := va_join (wr := [(k35_A5, .inl (cs 0, 0, .inl k35_C_k35_A5)), (a, .inr (5, [.ref b0, .ref a_code, .int (o19.1 1), .int (o19.1 2)])), (k35_A0, .inr (4, [.int (o19.1 4), .ref k35_A1, .ref k35_A2, .ref k35_A3, .ref k35_A4, .ref k35_A5])), (k35_A1, .inl (cs 0, 12, .inl (o19.2 2))), (k35_A2, .inl (cs 0, 12, .inl (o19.2 4))), (a_code, .inl (cs 0, 400, .inl (o19.2 0))), (k35_A3, .inl (cs 0, 12, .inl (o19.2 3))), (k35_A4, .inl (cs 0, 12, .inl (o19.2 1)))]) (w1 := [(b0, .inr (7, [.ref b0_bytes, .int b0__length, .int (o114.1 1), .int (o114.1 0)])), (b0_bytes, .inl (cs 0, 400, .inl b0_bytes_c))]) hP hD [2, 3] [0, 1, 4, 5, 6, 7, 8, 9] rfl rfl (by decide) (by decide) hk1 hFc hP1 hD1
              generalize H1 = H at hP hS ⊢
              have hP : va_P D classes [(k35_A5, .inl (cs 0, 0, .inl k35_C_k35_A5)), (a, .inr (5, [.ref b0, .ref a_code, .int (o19.1 1), .int (o19.1 2)])), (k35_A0, .inr (4, [.int (o19.1 4), .ref k35_A1, .ref k35_A2, .ref k35_A3, .ref k35_A4, .ref k35_A5])), (k35_A1, .inl (cs 0, 12, .inl (o19.2 2))), (k35_A2, .inl (cs 0, 12, .inl (o19.2 4))), (a_code, .inl (cs 0, 400, .inl (o19.2 0))), (k35_A3, .inl (cs 0, 12, .inl (o19.2 3))), (k35_A4, .inl (cs 0, 12, .inl (o19.2 1))), (b0, .inr (7, [.ref b0_bytes, .int b0__length, .int (o114.1 1), .int (o114.1 0)])), (b0_bytes, .inl (cs 0, 400, .inl b0_bytes_c))] H := hP
              have hD : va_D A [(k35_A5, .inl (cs 0, 0, .inl k35_C_k35_A5)), (a, .inr (5, [.ref b0, .ref a_code, .int (o19.1 1), .int (o19.1 2)])), (k35_A0, .inr (4, [.int (o19.1 4), .ref k35_A1, .ref k35_A2, .ref k35_A3, .ref k35_A4, .ref k35_A5])), (k35_A1, .inl (cs 0, 12, .inl (o19.2 2))), (k35_A2, .inl (cs 0, 12, .inl (o19.2 4))), (a_code, .inl (cs 0, 400, .inl (o19.2 0))), (k35_A3, .inl (cs 0, 12, .inl (o19.2 3))), (k35_A4, .inl (cs 0, 12, .inl (o19.2 1))), (b0, .inr (7, [.ref b0_bytes, .int b0__length, .int (o114.1 1), .int (o114.1 0)])), (b0_bytes, .inl (cs 0, 400, .inl b0_bytes_c))] := hD
              clear hk1 hFc hP1 hD1 hz1
              rcases hw with ⟨rfl, h115, h116⟩ | ⟨rfl, h117, h118, h119⟩ | ⟨rfl, h120, h121, h122⟩
              · refine lv_if_eq (tgt := 85) hx hb dX5_readRule_78 (by decide) (fun _ => ?_) (fun z => absurd (by decide) z)
                refine lv_iconst (v := 0) hx hb dX5_readRule_85 (by decide) ?_
                refine lv_istore_n (lv' := [(3, .int 0), (4, .int k35_L_4), (2, .ref k35_A0), (0, .ref a), (1, .ref b0)]) hx hb dX5_readRule_86 rfl hl (by decide) rfl (fun ls hl => ?_)
                obtain ⟨v123, ev123⟩ : ∃ z : Int32, z = k35_L_4 + 1 := ⟨_, rfl⟩
                have hv123 : IV 1 13 v123 := iv_add ev123 h11 (iv_c (a := 1) (b := 1) (by decide)) (by decide) (by decide)
                have dv123 : v123.toInt = k35_L_4.toInt + 1 := iv_addE ev123 h11 (iv_c (a := 1) (b := 1) (by decide)) (by decide) (by decide) (by decide)
                refine lv_iinc (v := v123) (lv' := [(4, .int v123), (3, .int 0), (2, .ref k35_A0), (0, .ref a), (1, .ref b0)]) hx hb dX5_readRule_87 hl (k := 1) rfl (by rw [ev123]; rfl) (by decide) rfl (fun ls hl => ?_)
                refine lv_goto (tgt := 35) hx hb dX5_readRule_90 (by decide) ?_
                refine lv_iload hx hb dX5_readRule_35 (lv_at hl 0 rfl) ?_
                refine lv_bipush (v := 12) hx hb dX5_readRule_37 (by decide) ?_
                refine lv_icmp_gt (tgt := 93) hx hb dX5_readRule_39 (by decide) (fun c124 => ?_) (fun c124 => ?_)
                · have h125 : IV 13 13 v123 := iv_lt2 c124 (iv_c (a := 12) (b := 12) (by decide)) hv123 (by decide)
                  refine lv_aload_n hx hb dX5_readRule_93 rfl (lv_at hl 3 rfl) ?_
                  refine va_get (D := D) (ci := 5) (v := .ref b0) (C := RX5) (T := TX5) (N := 4) hx hb hT i_X5 hown hK hP 1 rfl rfl 0 (by decide) (hT _ q_104) (fun _ h9 => h9) rfl dX5_readRule_94 ?_
                  refine va_calli (va_runV (As := []) (rest := []) ⟨hx, hb, hml, hown, hT⟩ (c_X7_isSound l D cs kK kV b0 b0_bytes b0__length (o114.1 1) (o114.1 0) h115) (cwV 0 hT (hz_gV q_553 q_421 q_422 q_221 q_423) rfl rfl rfl (by decide +kernel) ⟨(Nat.le_of_ble_eq_true rfl), (Nat.le_of_ble_eq_true rfl)⟩) ⟨hz_P.blind, va_recv hK hP (ci := 7) (q0 := 8) rfl rfl, hz_P.mk (hP.sub (ws' := [(b0, .inr (7, [.ref b0_bytes, .int b0__length, .int (o114.1 1), .int (o114.1 0)]))]) [8] rfl) hE hS⟩ rfl rfl hl.1 rfl (lv_room (Nat.le_of_ble_eq_true rfl)) dX5_readRule_97 ⟨(Nat.le_of_ble_eq_true rfl), (Nat.le_of_ble_eq_true rfl)⟩) hS (fun _ _ h => h.elim) (fun _ h => h.elim) (fun r126 u t H1 locs ht hvm hw hB hz1 hk1 hS => ?_)
                  have hP := hz_keep hP hk1
                  clear hk1 hB hz1
                  generalize H1 = H at hP hS ⊢
                  rcases hw with ⟨rfl, h127⟩ | ⟨rfl, h128⟩
                  · refine lv_if_eq (tgt := 118) hx hb dX5_readRule_100 (by decide) (fun _ => ?_) (fun z => absurd (by decide) z)
                    refine lv_aload_n hx hb dX5_readRule_118 rfl (lv_at hl 2 rfl) ?_
                    refine W.widen (k := 7) (n := 454) (Nat.le_of_ble_eq_true rfl) (Nat.le_of_ble_eq_true rfl) ?_
                    exact W.aret (v := .ref k35_A0) hx hb hr (Or.inl ⟨_, rfl⟩) (Or.inr ⟨_, rfl⟩) (fun t ht hW => ⟨⟨(), k35_A0, rfl, trivial, Or.inl ⟨o19.1 1, o19.1 2, (o19.2 0), o114.1 1, o114.1 0, k35_A0, o19.1 4, k35_A1, (o19.2 2), k35_A2, (o19.2 4), k35_A3, (o19.2 3), k35_A4, (o19.2 1), k35_A5, k35_C_k35_A5, rfl, h37, h116, h127, (iv_w h39 (by decide) (by decide)), h42, h41, h40, z35_4, by rw [ht]; exact hP.sub [1, 8, 9, 5, 2, 3, 4, 6, 7, 0] rfl, hD.sub [1, 8, 9, 5, 2, 3, 4, 6, 7, 0] (by decide) rfl⟩⟩, hS.F ht⟩) hS.2.2 dX5_readRule_119
                  · refine lv_if_eq (tgt := 118) hx hb dX5_readRule_100 (by decide) (fun z => absurd z (by decide)) (fun _ => ?_)
                    refine lv_aload_n hx hb dX5_readRule_103 rfl (lv_at hl 2 rfl) ?_
                    refine lv_aload_n hx hb dX5_readRule_104 rfl (lv_at hl 3 rfl) ?_
                    refine va_get (D := D) (ci := 5) (v := .ref a_code) (C := RX5) (T := TX5) (N := 4) hx hb hT i_X5 hown hK hP 1 rfl rfl 1 (by decide) (hT _ q_103) (fun _ h9 => h9) rfl dX5_readRule_105 ?_
                    refine lv_aload_n hx hb dX5_readRule_108 rfl (lv_at hl 3 rfl) ?_
                    refine va_get (D := D) (ci := 5) (v := .int (o19.1 1)) (C := RX5) (T := TX5) (N := 4) hx hb hT i_X5 hown hK hP 1 rfl rfl 2 (by decide) (hT _ q_105) (fun _ h9 => h9) rfl dX5_readRule_109 ?_
                    have hFc := va_free (wc := [(a_code, .inl (cs 0, 400, .inl (o19.2 0)))]) hD hS hA [5] rfl
                    refine va_callr (va_runS (As := [.ref a_code, .int (o19.1 1)]) (rest := [.ref k35_A0]) ⟨hx, hb, hml, hown, hT⟩ (c_J7_copyOf_59c91_109 l D cs kK kV a_code (o19.1 1) (o19.2 0) h37 H.size) (va_cwS 2 hT (hz_gS q_559 q_560 q_533 q_561) rfl rfl rfl (by decide +kernel) ⟨(Nat.le_of_ble_eq_true rfl), (Nat.le_of_ble_eq_true rfl)⟩) ⟨hz_C.blind, hz_C.mk (hP.sub (ws' := [(a_code, .inl (cs 0, 400, .inl (o19.2 0)))]) [5] rfl) (hD.sub (ws' := [(a_code, .inl (cs 0, 400, .inl (o19.2 0)))]) [5] (by decide) rfl) hE hS hFc⟩ rfl rfl hl.1 rfl (lv_room (Nat.le_of_ble_eq_true rfl)) dX5_readRule_112 ⟨(Nat.le_of_ble_eq_true rfl), (Nat.le_of_ble_eq_true rfl)⟩) hS (fun q _ h => hFc q h) hFc (fun u r129 t H1 locs ht hvm hw hB hz1 hk1 hS => ?_)
                    obtain ⟨o130, o131, o132, rfl, h133, hP1, hD1⟩ := hB
                    rw [ht] at hP1
                    obtain ⟨hP, hD⟩ := va_join (wr := [(k35_A5, .inl (cs 0, 0, .inl k35_C_k35_A5)), (a, .inr (5, [.ref b0, .ref a_code, .int (o19.1 1), .int (o19.1 2)])), (k35_A0, .inr (4, [.int (o19.1 4), .ref k35_A1, .ref k35_A2, .ref k35_A3, .ref k35_A4, .ref k35_A5])), (k35_A1, .inl (cs 0, 12, .inl (o19.2 2))), (k35_A2, .inl (cs 0, 12, .inl (o19.2 4))), (k35_A3, .inl (cs 0, 12, .inl (o19.2 3))), (k35_A4, .inl (cs 0, 12, .inl (o19.2 1))), (b0, .inr (7, [.ref b0_bytes, .int b0__length, .int (o114.1 1), .int (o114.1 0)])), (b0_bytes, .inl (cs 0, 400, .inl b0_bytes_c))]) (w1 := [(a_code, .inl (cs 0, 400, .inl (o19.2 0))), (r129, .inl (cs 0, o132, .inl o131))]) hP hD [5] [0, 1, 2, 3, 4, 6, 7, 8, 9] rfl rfl (by decide) (by decide) hk1 hFc hP1 hD1
                    generalize H1 = H at hP hS ⊢
                    have hP : va_P D classes [(k35_A5, .inl (cs 0, 0, .inl k35_C_k35_A5)), (a, .inr (5, [.ref b0, .ref a_code, .int (o19.1 1), .int (o19.1 2)])), (k35_A0, .inr (4, [.int (o19.1 4), .ref k35_A1, .ref k35_A2, .ref k35_A3, .ref k35_A4, .ref k35_A5])), (k35_A1, .inl (cs 0, 12, .inl (o19.2 2))), (k35_A2, .inl (cs 0, 12, .inl (o19.2 4))), (k35_A3, .inl (cs 0, 12, .inl (o19.2 3))), (k35_A4, .inl (cs 0, 12, .inl (o19.2 1))), (b0, .inr (7, [.ref b0_bytes, .int b0__length, .int (o114.1 1), .int (o114.1 0)])), (b0_bytes, .inl (cs 0, 400, .inl b0_bytes_c)), (a_code, .inl (cs 0, 400, .inl (o19.2 0))), (r129, .inl (cs 0, o132, .inl o131))] H := hP
                    have hD : va_D A [(k35_A5, .inl (cs 0, 0, .inl k35_C_k35_A5)), (a, .inr (5, [.ref b0, .ref a_code, .int (o19.1 1), .int (o19.1 2)])), (k35_A0, .inr (4, [.int (o19.1 4), .ref k35_A1, .ref k35_A2, .ref k35_A3, .ref k35_A4, .ref k35_A5])), (k35_A1, .inl (cs 0, 12, .inl (o19.2 2))), (k35_A2, .inl (cs 0, 12, .inl (o19.2 4))), (k35_A3, .inl (cs 0, 12, .inl (o19.2 3))), (k35_A4, .inl (cs 0, 12, .inl (o19.2 1))), (b0, .inr (7, [.ref b0_bytes, .int b0__length, .int (o114.1 1), .int (o114.1 0)])), (b0_bytes, .inl (cs 0, 400, .inl b0_bytes_c)), (a_code, .inl (cs 0, 400, .inl (o19.2 0))), (r129, .inl (cs 0, o132, .inl o131))] := hD
                    clear hk1 hFc hP1 hD1 hz1
                    refine W.widen (k := 7) (n := 454) (Nat.le_of_ble_eq_true rfl) (Nat.le_of_ble_eq_true rfl) ?_
                    refine va_put (D := D) (ci := 4) (v := .ref r129) (ty := .array .int) (C := RX4) (T := TX4) (N := 6) hx hb hT i_X4 tyX4 tyX4_ok nmX4 hown hK hP hD hS 2 rfl rfl 5 (by decide) (hT _ q_107) (fun _ h9 => h9) rfl (by decide +kernel) rfl rfl (Nat.le_of_ble_eq_true rfl) dX5_readRule_115 (fun H locs hP hD hS => ?_)
                    have hP : va_P D classes [(k35_A5, .inl (cs 0, 0, .inl k35_C_k35_A5)), (a, .inr (5, [.ref b0, .ref a_code, .int (o19.1 1), .int (o19.1 2)])), (k35_A0, .inr (4, [.int (o19.1 4), .ref k35_A1, .ref k35_A2, .ref k35_A3, .ref k35_A4, .ref r129])), (k35_A1, .inl (cs 0, 12, .inl (o19.2 2))), (k35_A2, .inl (cs 0, 12, .inl (o19.2 4))), (k35_A3, .inl (cs 0, 12, .inl (o19.2 3))), (k35_A4, .inl (cs 0, 12, .inl (o19.2 1))), (b0, .inr (7, [.ref b0_bytes, .int b0__length, .int (o114.1 1), .int (o114.1 0)])), (b0_bytes, .inl (cs 0, 400, .inl b0_bytes_c)), (a_code, .inl (cs 0, 400, .inl (o19.2 0))), (r129, .inl (cs 0, o132, .inl o131))] H := hP
                    have hD : va_D A [(k35_A5, .inl (cs 0, 0, .inl k35_C_k35_A5)), (a, .inr (5, [.ref b0, .ref a_code, .int (o19.1 1), .int (o19.1 2)])), (k35_A0, .inr (4, [.int (o19.1 4), .ref k35_A1, .ref k35_A2, .ref k35_A3, .ref k35_A4, .ref r129])), (k35_A1, .inl (cs 0, 12, .inl (o19.2 2))), (k35_A2, .inl (cs 0, 12, .inl (o19.2 4))), (k35_A3, .inl (cs 0, 12, .inl (o19.2 3))), (k35_A4, .inl (cs 0, 12, .inl (o19.2 1))), (b0, .inr (7, [.ref b0_bytes, .int b0__length, .int (o114.1 1), .int (o114.1 0)])), (b0_bytes, .inl (cs 0, 400, .inl b0_bytes_c)), (a_code, .inl (cs 0, 400, .inl (o19.2 0))), (r129, .inl (cs 0, o132, .inl o131))] := hD
                    refine lv_aload_n hx hb dX5_readRule_118 rfl (lv_at hl 2 rfl) ?_
                    refine W.widen (k := 7) (n := 454) (Nat.le_of_ble_eq_true rfl) (Nat.le_of_ble_eq_true rfl) ?_
                    exact W.aret (v := .ref k35_A0) hx hb hr (Or.inl ⟨_, rfl⟩) (Or.inr ⟨_, rfl⟩) (fun t ht hW => ⟨⟨(), k35_A0, rfl, trivial, Or.inr ⟨o19.1 1, o19.1 2, (o19.2 0), o114.1 1, o114.1 0, k35_A0, o19.1 4, k35_A1, (o19.2 2), k35_A2, (o19.2 4), k35_A3, (o19.2 3), k35_A4, (o19.2 1), k35_A5, k35_C_k35_A5, r129, o131, o132, rfl, h37, h116, h128, (iv_w h39 (by decide) (by decide)), h42, h41, h40, z35_4, h133, by rw [ht]; exact hP.sub [1, 7, 8, 9, 2, 3, 4, 5, 6, 0, 10] rfl, hD.sub [1, 7, 8, 9, 2, 3, 4, 5, 6, 0, 10] (by decide) rfl⟩⟩, hS.F ht⟩) hS.2.2 dX5_readRule_119
                · have h134 : IV 1 12 v123 := iv_le1 (Int32.not_lt.mp c124) hv123 (iv_c (a := 12) (b := 12) (by decide)) (by decide)
                  refine lv_iload_n hx hb dX5_readRule_42 rfl (lv_at hl 1 rfl) ?_
                  refine lv_if_eq (tgt := 93) hx hb dX5_readRule_43 (by decide) (fun _ => ?_) (fun z => absurd (by decide) z)
                  refine lv_aload_n hx hb dX5_readRule_93 rfl (lv_at hl 3 rfl) ?_
                  refine va_get (D := D) (ci := 5) (v := .ref b0) (C := RX5) (T := TX5) (N := 4) hx hb hT i_X5 hown hK hP 1 rfl rfl 0 (by decide) (hT _ q_104) (fun _ h9 => h9) rfl dX5_readRule_94 ?_
                  refine va_calli (va_runV (As := []) (rest := []) ⟨hx, hb, hml, hown, hT⟩ (c_X7_isSound l D cs kK kV b0 b0_bytes b0__length (o114.1 1) (o114.1 0) h115) (cwV 0 hT (hz_gV q_553 q_421 q_422 q_221 q_423) rfl rfl rfl (by decide +kernel) ⟨(Nat.le_of_ble_eq_true rfl), (Nat.le_of_ble_eq_true rfl)⟩) ⟨hz_P.blind, va_recv hK hP (ci := 7) (q0 := 8) rfl rfl, hz_P.mk (hP.sub (ws' := [(b0, .inr (7, [.ref b0_bytes, .int b0__length, .int (o114.1 1), .int (o114.1 0)]))]) [8] rfl) hE hS⟩ rfl rfl hl.1 rfl (lv_room (Nat.le_of_ble_eq_true rfl)) dX5_readRule_97 ⟨(Nat.le_of_ble_eq_true rfl), (Nat.le_of_ble_eq_true rfl)⟩) hS (fun _ _ h => h.elim) (fun _ h => h.elim) (fun r135 u t H1 locs ht hvm hw hB hz1 hk1 hS => ?_)
                  have hP := hz_keep hP hk1
                  clear hk1 hB hz1
                  generalize H1 = H at hP hS ⊢
                  rcases hw with ⟨rfl, h136⟩ | ⟨rfl, h137⟩
                  · refine lv_if_eq (tgt := 118) hx hb dX5_readRule_100 (by decide) (fun _ => ?_) (fun z => absurd (by decide) z)
                    refine lv_aload_n hx hb dX5_readRule_118 rfl (lv_at hl 2 rfl) ?_
                    refine W.widen (k := 7) (n := 454) (Nat.le_of_ble_eq_true rfl) (Nat.le_of_ble_eq_true rfl) ?_
                    exact W.aret (v := .ref k35_A0) hx hb hr (Or.inl ⟨_, rfl⟩) (Or.inr ⟨_, rfl⟩) (fun t ht hW => ⟨⟨(), k35_A0, rfl, trivial, Or.inl ⟨o19.1 1, o19.1 2, (o19.2 0), o114.1 1, o114.1 0, k35_A0, o19.1 4, k35_A1, (o19.2 2), k35_A2, (o19.2 4), k35_A3, (o19.2 3), k35_A4, (o19.2 1), k35_A5, k35_C_k35_A5, rfl, h37, h116, h136, (iv_w h39 (by decide) (by decide)), h42, h41, h40, z35_4, by rw [ht]; exact hP.sub [1, 8, 9, 5, 2, 3, 4, 6, 7, 0] rfl, hD.sub [1, 8, 9, 5, 2, 3, 4, 6, 7, 0] (by decide) rfl⟩⟩, hS.F ht⟩) hS.2.2 dX5_readRule_119
                  · refine lv_if_eq (tgt := 118) hx hb dX5_readRule_100 (by decide) (fun z => absurd z (by decide)) (fun _ => ?_)
                    refine lv_aload_n hx hb dX5_readRule_103 rfl (lv_at hl 2 rfl) ?_
                    refine lv_aload_n hx hb dX5_readRule_104 rfl (lv_at hl 3 rfl) ?_
                    refine va_get (D := D) (ci := 5) (v := .ref a_code) (C := RX5) (T := TX5) (N := 4) hx hb hT i_X5 hown hK hP 1 rfl rfl 1 (by decide) (hT _ q_103) (fun _ h9 => h9) rfl dX5_readRule_105 ?_
                    refine lv_aload_n hx hb dX5_readRule_108 rfl (lv_at hl 3 rfl) ?_
                    refine va_get (D := D) (ci := 5) (v := .int (o19.1 1)) (C := RX5) (T := TX5) (N := 4) hx hb hT i_X5 hown hK hP 1 rfl rfl 2 (by decide) (hT _ q_105) (fun _ h9 => h9) rfl dX5_readRule_109 ?_
                    have hFc := va_free (wc := [(a_code, .inl (cs 0, 400, .inl (o19.2 0)))]) hD hS hA [5] rfl
                    refine va_callr (va_runS (As := [.ref a_code, .int (o19.1 1)]) (rest := [.ref k35_A0]) ⟨hx, hb, hml, hown, hT⟩ (c_J7_copyOf_59c91_109 l D cs kK kV a_code (o19.1 1) (o19.2 0) h37 H.size) (va_cwS 2 hT (hz_gS q_559 q_560 q_533 q_561) rfl rfl rfl (by decide +kernel) ⟨(Nat.le_of_ble_eq_true rfl), (Nat.le_of_ble_eq_true rfl)⟩) ⟨hz_C.blind, hz_C.mk (hP.sub (ws' := [(a_code, .inl (cs 0, 400, .inl (o19.2 0)))]) [5] rfl) (hD.sub (ws' := [(a_code, .inl (cs 0, 400, .inl (o19.2 0)))]) [5] (by decide) rfl) hE hS hFc⟩ rfl rfl hl.1 rfl (lv_room (Nat.le_of_ble_eq_true rfl)) dX5_readRule_112 ⟨(Nat.le_of_ble_eq_true rfl), (Nat.le_of_ble_eq_true rfl)⟩) hS (fun q _ h => hFc q h) hFc (fun u r138 t H1 locs ht hvm hw hB hz1 hk1 hS => ?_)
                    obtain ⟨o139, o140, o141, rfl, h142, hP1, hD1⟩ := hB
                    rw [ht] at hP1
                    obtain ⟨hP, hD⟩ := va_join (wr := [(k35_A5, .inl (cs 0, 0, .inl k35_C_k35_A5)), (a, .inr (5, [.ref b0, .ref a_code, .int (o19.1 1), .int (o19.1 2)])), (k35_A0, .inr (4, [.int (o19.1 4), .ref k35_A1, .ref k35_A2, .ref k35_A3, .ref k35_A4, .ref k35_A5])), (k35_A1, .inl (cs 0, 12, .inl (o19.2 2))), (k35_A2, .inl (cs 0, 12, .inl (o19.2 4))), (k35_A3, .inl (cs 0, 12, .inl (o19.2 3))), (k35_A4, .inl (cs 0, 12, .inl (o19.2 1))), (b0, .inr (7, [.ref b0_bytes, .int b0__length, .int (o114.1 1), .int (o114.1 0)])), (b0_bytes, .inl (cs 0, 400, .inl b0_bytes_c))]) (w1 := [(a_code, .inl (cs 0, 400, .inl (o19.2 0))), (r138, .inl (cs 0, o141, .inl o140))]) hP hD [5] [0, 1, 2, 3, 4, 6, 7, 8, 9] rfl rfl (by decide) (by decide) hk1 hFc hP1 hD1
                    generalize H1 = H at hP hS ⊢
                    have hP : va_P D classes [(k35_A5, .inl (cs 0, 0, .inl k35_C_k35_A5)), (a, .inr (5, [.ref b0, .ref a_code, .int (o19.1 1), .int (o19.1 2)])), (k35_A0, .inr (4, [.int (o19.1 4), .ref k35_A1, .ref k35_A2, .ref k35_A3, .ref k35_A4, .ref k35_A5])), (k35_A1, .inl (cs 0, 12, .inl (o19.2 2))), (k35_A2, .inl (cs 0, 12, .inl (o19.2 4))), (k35_A3, .inl (cs 0, 12, .inl (o19.2 3))), (k35_A4, .inl (cs 0, 12, .inl (o19.2 1))), (b0, .inr (7, [.ref b0_bytes, .int b0__length, .int (o114.1 1), .int (o114.1 0)])), (b0_bytes, .inl (cs 0, 400, .inl b0_bytes_c)), (a_code, .inl (cs 0, 400, .inl (o19.2 0))), (r138, .inl (cs 0, o141, .inl o140))] H := hP
                    have hD : va_D A [(k35_A5, .inl (cs 0, 0, .inl k35_C_k35_A5)), (a, .inr (5, [.ref b0, .ref a_code, .int (o19.1 1), .int (o19.1 2)])), (k35_A0, .inr (4, [.int (o19.1 4), .ref k35_A1, .ref k35_A2, .ref k35_A3, .ref k35_A4, .ref k35_A5])), (k35_A1, .inl (cs 0, 12, .inl (o19.2 2))), (k35_A2, .inl (cs 0, 12, .inl (o19.2 4))), (k35_A3, .inl (cs 0, 12, .inl (o19.2 3))), (k35_A4, .inl (cs 0, 12, .inl (o19.2 1))), (b0, .inr (7, [.ref b0_bytes, .int b0__length, .int (o114.1 1), .int (o114.1 0)])), (b0_bytes, .inl (cs 0, 400, .inl b0_bytes_c)), (a_code, .inl (cs 0, 400, .inl (o19.2 0))), (r138, .inl (cs 0, o141, .inl o140))] := hD
                    clear hk1 hFc hP1 hD1 hz1
                    refine W.widen (k := 7) (n := 454) (Nat.le_of_ble_eq_true rfl) (Nat.le_of_ble_eq_true rfl) ?_
                    refine va_put (D := D) (ci := 4) (v := .ref r138) (ty := .array .int) (C := RX4) (T := TX4) (N := 6) hx hb hT i_X4 tyX4 tyX4_ok nmX4 hown hK hP hD hS 2 rfl rfl 5 (by decide) (hT _ q_107) (fun _ h9 => h9) rfl (by decide +kernel) rfl rfl (Nat.le_of_ble_eq_true rfl) dX5_readRule_115 (fun H locs hP hD hS => ?_)
                    have hP : va_P D classes [(k35_A5, .inl (cs 0, 0, .inl k35_C_k35_A5)), (a, .inr (5, [.ref b0, .ref a_code, .int (o19.1 1), .int (o19.1 2)])), (k35_A0, .inr (4, [.int (o19.1 4), .ref k35_A1, .ref k35_A2, .ref k35_A3, .ref k35_A4, .ref r138])), (k35_A1, .inl (cs 0, 12, .inl (o19.2 2))), (k35_A2, .inl (cs 0, 12, .inl (o19.2 4))), (k35_A3, .inl (cs 0, 12, .inl (o19.2 3))), (k35_A4, .inl (cs 0, 12, .inl (o19.2 1))), (b0, .inr (7, [.ref b0_bytes, .int b0__length, .int (o114.1 1), .int (o114.1 0)])), (b0_bytes, .inl (cs 0, 400, .inl b0_bytes_c)), (a_code, .inl (cs 0, 400, .inl (o19.2 0))), (r138, .inl (cs 0, o141, .inl o140))] H := hP
                    have hD : va_D A [(k35_A5, .inl (cs 0, 0, .inl k35_C_k35_A5)), (a, .inr (5, [.ref b0, .ref a_code, .int (o19.1 1), .int (o19.1 2)])), (k35_A0, .inr (4, [.int (o19.1 4), .ref k35_A1, .ref k35_A2, .ref k35_A3, .ref k35_A4, .ref r138])), (k35_A1, .inl (cs 0, 12, .inl (o19.2 2))), (k35_A2, .inl (cs 0, 12, .inl (o19.2 4))), (k35_A3, .inl (cs 0, 12, .inl (o19.2 3))), (k35_A4, .inl (cs 0, 12, .inl (o19.2 1))), (b0, .inr (7, [.ref b0_bytes, .int b0__length, .int (o114.1 1), .int (o114.1 0)])), (b0_bytes, .inl (cs 0, 400, .inl b0_bytes_c)), (a_code, .inl (cs 0, 400, .inl (o19.2 0))), (r138, .inl (cs 0, o141, .inl o140))] := hD
                    refine lv_aload_n hx hb dX5_readRule_118 rfl (lv_at hl 2 rfl) ?_
                    refine W.widen (k := 7) (n := 454) (Nat.le_of_ble_eq_true rfl) (Nat.le_of_ble_eq_true rfl) ?_
                    exact W.aret (v := .ref k35_A0) hx hb hr (Or.inl ⟨_, rfl⟩) (Or.inr ⟨_, rfl⟩) (fun t ht hW => ⟨⟨(), k35_A0, rfl, trivial, Or.inr ⟨o19.1 1, o19.1 2, (o19.2 0), o114.1 1, o114.1 0, k35_A0, o19.1 4, k35_A1, (o19.2 2), k35_A2, (o19.2 4), k35_A3, (o19.2 3), k35_A4, (o19.2 1), k35_A5, k35_C_k35_A5, r138, o140, o141, rfl, h37, h116, h137, (iv_w h39 (by decide) (by decide)), h42, h41, h40, z35_4, h142, by rw [ht]; exact hP.sub [1, 7, 8, 9, 2, 3, 4, 5, 6, 0, 10] rfl, hD.sub [1, 7, 8, 9, 2, 3, 4, 5, 6, 0, 10] (by decide) rfl⟩⟩, hS.F ht⟩) hS.2.2 dX5_readRule_119
              · refine lv_if_eq (tgt := 85) hx hb dX5_readRule_78 (by decide) (fun _ => ?_) (fun z => absurd (by decide) z)
                refine lv_iconst (v := 0) hx hb dX5_readRule_85 (by decide) ?_
                refine lv_istore_n (lv' := [(3, .int 0), (4, .int k35_L_4), (2, .ref k35_A0), (0, .ref a), (1, .ref b0)]) hx hb dX5_readRule_86 rfl hl (by decide) rfl (fun ls hl => ?_)
                obtain ⟨v143, ev143⟩ : ∃ z : Int32, z = k35_L_4 + 1 := ⟨_, rfl⟩
                have hv143 : IV 1 13 v143 := iv_add ev143 h11 (iv_c (a := 1) (b := 1) (by decide)) (by decide) (by decide)
                have dv143 : v143.toInt = k35_L_4.toInt + 1 := iv_addE ev143 h11 (iv_c (a := 1) (b := 1) (by decide)) (by decide) (by decide) (by decide)
                refine lv_iinc (v := v143) (lv' := [(4, .int v143), (3, .int 0), (2, .ref k35_A0), (0, .ref a), (1, .ref b0)]) hx hb dX5_readRule_87 hl (k := 1) rfl (by rw [ev143]; rfl) (by decide) rfl (fun ls hl => ?_)
                refine lv_goto (tgt := 35) hx hb dX5_readRule_90 (by decide) ?_
                refine lv_iload hx hb dX5_readRule_35 (lv_at hl 0 rfl) ?_
                refine lv_bipush (v := 12) hx hb dX5_readRule_37 (by decide) ?_
                refine lv_icmp_gt (tgt := 93) hx hb dX5_readRule_39 (by decide) (fun c144 => ?_) (fun c144 => ?_)
                · have h145 : IV 13 13 v143 := iv_lt2 c144 (iv_c (a := 12) (b := 12) (by decide)) hv143 (by decide)
                  refine lv_aload_n hx hb dX5_readRule_93 rfl (lv_at hl 3 rfl) ?_
                  refine va_get (D := D) (ci := 5) (v := .ref b0) (C := RX5) (T := TX5) (N := 4) hx hb hT i_X5 hown hK hP 1 rfl rfl 0 (by decide) (hT _ q_104) (fun _ h9 => h9) rfl dX5_readRule_94 ?_
                  refine va_calli (va_runV (As := []) (rest := []) ⟨hx, hb, hml, hown, hT⟩ (c_X7_isSound l D cs kK kV b0 b0_bytes b0__length (o114.1 1) (o114.1 0) ((iv_w h117 (by decide) (by decide)))) (cwV 0 hT (hz_gV q_553 q_421 q_422 q_221 q_423) rfl rfl rfl (by decide +kernel) ⟨(Nat.le_of_ble_eq_true rfl), (Nat.le_of_ble_eq_true rfl)⟩) ⟨hz_P.blind, va_recv hK hP (ci := 7) (q0 := 8) rfl rfl, hz_P.mk (hP.sub (ws' := [(b0, .inr (7, [.ref b0_bytes, .int b0__length, .int (o114.1 1), .int (o114.1 0)]))]) [8] rfl) hE hS⟩ rfl rfl hl.1 rfl (lv_room (Nat.le_of_ble_eq_true rfl)) dX5_readRule_97 ⟨(Nat.le_of_ble_eq_true rfl), (Nat.le_of_ble_eq_true rfl)⟩) hS (fun _ _ h => h.elim) (fun _ h => h.elim) (fun r146 u t H1 locs ht hvm hw hB hz1 hk1 hS => ?_)
                  have hP := hz_keep hP hk1
                  clear hk1 hB hz1
                  generalize H1 = H at hP hS ⊢
                  rcases hw with ⟨rfl, h147⟩ | ⟨rfl, h148⟩
                  · refine lv_if_eq (tgt := 118) hx hb dX5_readRule_100 (by decide) (fun _ => ?_) (fun z => absurd (by decide) z)
                    refine lv_aload_n hx hb dX5_readRule_118 rfl (lv_at hl 2 rfl) ?_
                    refine W.widen (k := 7) (n := 454) (Nat.le_of_ble_eq_true rfl) (Nat.le_of_ble_eq_true rfl) ?_
                    exact W.aret (v := .ref k35_A0) hx hb hr (Or.inl ⟨_, rfl⟩) (Or.inr ⟨_, rfl⟩) (fun t ht hW => ⟨⟨(), k35_A0, rfl, trivial, Or.inl ⟨o19.1 1, o19.1 2, (o19.2 0), o114.1 1, o114.1 0, k35_A0, o19.1 4, k35_A1, (o19.2 2), k35_A2, (o19.2 4), k35_A3, (o19.2 3), k35_A4, (o19.2 1), k35_A5, k35_C_k35_A5, rfl, h37, (iv_w h119 (by decide) (by decide)), h147, (iv_w h39 (by decide) (by decide)), h42, h41, h40, z35_4, by rw [ht]; exact hP.sub [1, 8, 9, 5, 2, 3, 4, 6, 7, 0] rfl, hD.sub [1, 8, 9, 5, 2, 3, 4, 6, 7, 0] (by decide) rfl⟩⟩, hS.F ht⟩) hS.2.2 dX5_readRule_119
                  · exact (iv_no h148 h117 (by decide)).elim
                · have h149 : IV 1 12 v143 := iv_le1 (Int32.not_lt.mp c144) hv143 (iv_c (a := 12) (b := 12) (by decide)) (by decide)
                  refine lv_iload_n hx hb dX5_readRule_42 rfl (lv_at hl 1 rfl) ?_
                  refine lv_if_eq (tgt := 93) hx hb dX5_readRule_43 (by decide) (fun _ => ?_) (fun z => absurd (by decide) z)
                  refine lv_aload_n hx hb dX5_readRule_93 rfl (lv_at hl 3 rfl) ?_
                  refine va_get (D := D) (ci := 5) (v := .ref b0) (C := RX5) (T := TX5) (N := 4) hx hb hT i_X5 hown hK hP 1 rfl rfl 0 (by decide) (hT _ q_104) (fun _ h9 => h9) rfl dX5_readRule_94 ?_
                  refine va_calli (va_runV (As := []) (rest := []) ⟨hx, hb, hml, hown, hT⟩ (c_X7_isSound l D cs kK kV b0 b0_bytes b0__length (o114.1 1) (o114.1 0) ((iv_w h117 (by decide) (by decide)))) (cwV 0 hT (hz_gV q_553 q_421 q_422 q_221 q_423) rfl rfl rfl (by decide +kernel) ⟨(Nat.le_of_ble_eq_true rfl), (Nat.le_of_ble_eq_true rfl)⟩) ⟨hz_P.blind, va_recv hK hP (ci := 7) (q0 := 8) rfl rfl, hz_P.mk (hP.sub (ws' := [(b0, .inr (7, [.ref b0_bytes, .int b0__length, .int (o114.1 1), .int (o114.1 0)]))]) [8] rfl) hE hS⟩ rfl rfl hl.1 rfl (lv_room (Nat.le_of_ble_eq_true rfl)) dX5_readRule_97 ⟨(Nat.le_of_ble_eq_true rfl), (Nat.le_of_ble_eq_true rfl)⟩) hS (fun _ _ h => h.elim) (fun _ h => h.elim) (fun r150 u t H1 locs ht hvm hw hB hz1 hk1 hS => ?_)
                  have hP := hz_keep hP hk1
                  clear hk1 hB hz1
                  generalize H1 = H at hP hS ⊢
                  rcases hw with ⟨rfl, h151⟩ | ⟨rfl, h152⟩
                  · refine lv_if_eq (tgt := 118) hx hb dX5_readRule_100 (by decide) (fun _ => ?_) (fun z => absurd (by decide) z)
                    refine lv_aload_n hx hb dX5_readRule_118 rfl (lv_at hl 2 rfl) ?_
                    refine W.widen (k := 7) (n := 454) (Nat.le_of_ble_eq_true rfl) (Nat.le_of_ble_eq_true rfl) ?_
                    exact W.aret (v := .ref k35_A0) hx hb hr (Or.inl ⟨_, rfl⟩) (Or.inr ⟨_, rfl⟩) (fun t ht hW => ⟨⟨(), k35_A0, rfl, trivial, Or.inl ⟨o19.1 1, o19.1 2, (o19.2 0), o114.1 1, o114.1 0, k35_A0, o19.1 4, k35_A1, (o19.2 2), k35_A2, (o19.2 4), k35_A3, (o19.2 3), k35_A4, (o19.2 1), k35_A5, k35_C_k35_A5, rfl, h37, (iv_w h119 (by decide) (by decide)), h151, (iv_w h39 (by decide) (by decide)), h42, h41, h40, z35_4, by rw [ht]; exact hP.sub [1, 8, 9, 5, 2, 3, 4, 6, 7, 0] rfl, hD.sub [1, 8, 9, 5, 2, 3, 4, 6, 7, 0] (by decide) rfl⟩⟩, hS.F ht⟩) hS.2.2 dX5_readRule_119
                  · exact (iv_no h152 h117 (by decide)).elim
              · refine lv_if_eq (tgt := 85) hx hb dX5_readRule_78 (by decide) (fun z => absurd z (by decide)) (fun _ => ?_)
                refine lv_iconst (v := 1) hx hb dX5_readRule_81 (by decide) ?_
                refine lv_goto (tgt := 86) hx hb dX5_readRule_82 (by decide) ?_
                refine lv_istore_n (lv' := [(3, .int 1), (4, .int k35_L_4), (2, .ref k35_A0), (0, .ref a), (1, .ref b0)]) hx hb dX5_readRule_86 rfl hl (by decide) rfl (fun ls hl => ?_)
                obtain ⟨v153, ev153⟩ : ∃ z : Int32, z = k35_L_4 + 1 := ⟨_, rfl⟩
                have hv153 : IV 1 13 v153 := iv_add ev153 h11 (iv_c (a := 1) (b := 1) (by decide)) (by decide) (by decide)
                have dv153 : v153.toInt = k35_L_4.toInt + 1 := iv_addE ev153 h11 (iv_c (a := 1) (b := 1) (by decide)) (by decide) (by decide) (by decide)
                refine lv_iinc (v := v153) (lv' := [(4, .int v153), (3, .int 1), (2, .ref k35_A0), (0, .ref a), (1, .ref b0)]) hx hb dX5_readRule_87 hl (k := 1) rfl (by rw [ev153]; rfl) (by decide) rfl (fun ls hl => ?_)
                refine lv_goto (tgt := 35) hx hb dX5_readRule_90 (by decide) ?_
                exact ih35 k35_A0 k35_A1 k35_A2 k35_A3 k35_A4 k35_A5 v153 (o19.1 1) (o19.1 2) (o19.2 0) (o19.1 4) (o19.2 2) (o19.2 4) (o19.2 3) (o19.2 1) k35_C_k35_A5 (o114.1 1) (o114.1 0) (by have h9 := h11; unfold IV at h9; have := dv153; omega) h37 h122 h120 (iv_w h39 (by decide) (by decide)) (iv_w hv153 (by decide) (by decide)) h42 h41 h40 z35_4 H locs (hP.sub (ws' := [(a, .inr (5, [.ref b0, .ref a_code, .int (o19.1 1), .int (o19.1 2)])), (b0_bytes, .inl (cs 0, 400, .inl b0_bytes_c)), (a_code, .inl (cs 0, 400, .inl (o19.2 0))), (k35_A0, .inr (4, [.int (o19.1 4), .ref k35_A1, .ref k35_A2, .ref k35_A3, .ref k35_A4, .ref k35_A5])), (k35_A1, .inl (cs 0, 12, .inl (o19.2 2))), (k35_A2, .inl (cs 0, 12, .inl (o19.2 4))), (k35_A3, .inl (cs 0, 12, .inl (o19.2 3))), (k35_A4, .inl (cs 0, 12, .inl (o19.2 1))), (k35_A5, .inl (cs 0, 0, .inl k35_C_k35_A5)), (b0, .inr (7, [.ref b0_bytes, .int b0__length, .int (o114.1 1), .int (o114.1 0)]))]) [1, 9, 5, 2, 3, 4, 6, 7, 0, 8] rfl) (hD.sub (ws' := [(a, .inr (5, [.ref b0, .ref a_code, .int (o19.1 1), .int (o19.1 2)])), (b0_bytes, .inl (cs 0, 400, .inl b0_bytes_c)), (a_code, .inl (cs 0, 400, .inl (o19.2 0))), (k35_A0, .inr (4, [.int (o19.1 4), .ref k35_A1, .ref k35_A2, .ref k35_A3, .ref k35_A4, .ref k35_A5])), (k35_A1, .inl (cs 0, 12, .inl (o19.2 2))), (k35_A2, .inl (cs 0, 12, .inl (o19.2 4))), (k35_A3, .inl (cs 0, 12, .inl (o19.2 3))), (k35_A4, .inl (cs 0, 12, .inl (o19.2 1))), (k35_A5, .inl (cs 0, 0, .inl k35_C_k35_A5)), (b0, .inr (7, [.ref b0_bytes, .int b0__length, .int (o114.1 1), .int (o114.1 0)]))]) [1, 9, 5, 2, 3, 4, 6, 7, 0, 8] (by decide) rfl) hS ls (lv_sub hl [0, 1, 2, 3, 4] rfl)
  refine lv_aload_n hx hb dX5_readRule_0 rfl (lv_at hl 0 rfl) ?_
  refine lv_aload_n hx hb dX5_readRule_1 rfl (lv_at hl 1 rfl) ?_
  refine va_put (D := D) (ci := 5) (v := .ref b0) (ty := .object "HalfFair$Tape") (C := RX5) (T := TX5) (N := 4) hx hb hT i_X5 tyX5 tyX5_ok nmX5 hown hK hP hD hS 0 rfl rfl 0 (by decide) (hT _ q_104) (fun _ h9 => h9) rfl (by decide +kernel) rfl rfl (Nat.le_of_ble_eq_true rfl) dX5_readRule_2 (fun H locs hP hD hS => ?_)
  have hP : va_P D classes [(a, .inr (5, [.ref b0, .ref a_code, .int a__length, .int a__parts])), (b0, .inr (7, [.ref b0_bytes, .int b0__length, .int b0__place, .int b0__fault])), (b0_bytes, .inl (cs 0, 400, .inl b0_bytes_c)), (a_code, .inl (cs 0, 400, .inl a_code_c))] H := hP
  have hD : va_D A [(a, .inr (5, [.ref b0, .ref a_code, .int a__length, .int a__parts])), (b0, .inr (7, [.ref b0_bytes, .int b0__length, .int b0__place, .int b0__fault])), (b0_bytes, .inl (cs 0, 400, .inl b0_bytes_c)), (a_code, .inl (cs 0, 400, .inl a_code_c))] := hD
  refine va_new (D := D) (ci := 4) (fs := [.int 0, .null, .null, .null, .null, .null]) (C := RX4) (T := TX4) (N := 6) hx hb hT i_X4 tyX4 tyX4_ok hown (hT _ q_1379) (hT _ q_1361) (hT _ q_1351) hK hP hD hS hA rfl df_X4 (Nat.le_of_ble_eq_true rfl) (Nat.le_of_ble_eq_true rfl) dX5_readRule_5 (fun n154 H hP hD hS => ?_)
  have hP : va_P D classes [(a, .inr (5, [.ref b0, .ref a_code, .int a__length, .int a__parts])), (b0, .inr (7, [.ref b0_bytes, .int b0__length, .int b0__place, .int b0__fault])), (b0_bytes, .inl (cs 0, 400, .inl b0_bytes_c)), (a_code, .inl (cs 0, 400, .inl a_code_c)), (n154, .inr (4, [.int 0, .null, .null, .null, .null, .null]))] H := hP
  have hD : va_D A [(a, .inr (5, [.ref b0, .ref a_code, .int a__length, .int a__parts])), (b0, .inr (7, [.ref b0_bytes, .int b0__length, .int b0__place, .int b0__fault])), (b0_bytes, .inl (cs 0, 400, .inl b0_bytes_c)), (a_code, .inl (cs 0, 400, .inl a_code_c)), (n154, .inr (4, [.int 0, .null, .null, .null, .null, .null]))] := hD
  refine W.widen (k := 1) (n := 6) (Nat.le_of_ble_eq_true rfl) (Nat.le_of_ble_eq_true rfl) ?_
  refine lv_dup hx hb dX5_readRule_8 rfl ?_
  have hFc := va_free (wc := [(n154, .inr (4, [.int 0, .null, .null, .null, .null, .null]))]) hD hS hA [4] rfl
  refine va_callv (va_runIN (As := []) (rest := [.ref n154]) ⟨hx, hb, hml, hown, hT⟩ (c_X4_init l D cs kK kV n154 H.size) ⟨va_cnB 0 hT (hz_gw q_1352) rfl rfl rfl (hE.2.1 10 (by decide)) (hT _ q_1351) (by decide +kernel) ⟨(Nat.le_of_ble_eq_true rfl), (Nat.le_of_ble_eq_true rfl)⟩, rfl, hT _ q_1350⟩ ⟨hz_C.blind, hz_C.mk (hP.sub (ws' := [(n154, .inr (4, [.int 0, .null, .null, .null, .null, .null]))]) [4] rfl) (hD.sub (ws' := [(n154, .inr (4, [.int 0, .null, .null, .null, .null, .null]))]) [4] (by decide) rfl) hE hS hFc⟩ rfl rfl hl.1 rfl (lv_room (Nat.le_of_ble_eq_true rfl)) dX5_readRule_9 ⟨(Nat.le_of_ble_eq_true rfl), (Nat.le_of_ble_eq_true rfl)⟩) hS (fun q _ h => hFc q h) hFc (fun u t H1 locs ht hvm hw hB hz1 hk1 hS => ?_)
  obtain ⟨o156, o157, o158, o159, o160, o161, o162, o163, o164, o165, h166, h167, h168, h169, h170, hP1, hD1⟩ := hB
  rw [ht] at hP1
  obtain ⟨hP, hD⟩ := va_join (wr := [(a, .inr (5, [.ref b0, .ref a_code, .int a__length, .int a__parts])), (b0, .inr (7, [.ref b0_bytes, .int b0__length, .int b0__place, .int b0__fault])), (b0_bytes, .inl (cs 0, 400, .inl b0_bytes_c)), (a_code, .inl (cs 0, 400, .inl a_code_c))]) (w1 := [(n154, .inr (4, [.int 0, .ref o156, .ref o158, .ref o160, .ref o162, .ref o164])), (o156, .inl (cs 0, 12, .inl o157)), (o158, .inl (cs 0, 12, .inl o159)), (o160, .inl (cs 0, 12, .inl o161)), (o162, .inl (cs 0, 12, .inl o163)), (o164, .inl (cs 0, 0, .inl o165))]) hP hD [4] [0, 1, 2, 3] rfl rfl (by decide) (by decide) hk1 hFc hP1 hD1
  generalize H1 = H at hP hS ⊢
  have hP : va_P D classes [(a, .inr (5, [.ref b0, .ref a_code, .int a__length, .int a__parts])), (b0, .inr (7, [.ref b0_bytes, .int b0__length, .int b0__place, .int b0__fault])), (b0_bytes, .inl (cs 0, 400, .inl b0_bytes_c)), (a_code, .inl (cs 0, 400, .inl a_code_c)), (n154, .inr (4, [.int 0, .ref o156, .ref o158, .ref o160, .ref o162, .ref o164])), (o156, .inl (cs 0, 12, .inl o157)), (o158, .inl (cs 0, 12, .inl o159)), (o160, .inl (cs 0, 12, .inl o161)), (o162, .inl (cs 0, 12, .inl o163)), (o164, .inl (cs 0, 0, .inl o165))] H := hP
  have hD : va_D A [(a, .inr (5, [.ref b0, .ref a_code, .int a__length, .int a__parts])), (b0, .inr (7, [.ref b0_bytes, .int b0__length, .int b0__place, .int b0__fault])), (b0_bytes, .inl (cs 0, 400, .inl b0_bytes_c)), (a_code, .inl (cs 0, 400, .inl a_code_c)), (n154, .inr (4, [.int 0, .ref o156, .ref o158, .ref o160, .ref o162, .ref o164])), (o156, .inl (cs 0, 12, .inl o157)), (o158, .inl (cs 0, 12, .inl o159)), (o160, .inl (cs 0, 12, .inl o161)), (o162, .inl (cs 0, 12, .inl o163)), (o164, .inl (cs 0, 0, .inl o165))] := hD
  clear hk1 hFc hP1 hD1 hz1
  refine W.widen (k := 6) (n := 54) (Nat.le_of_ble_eq_true rfl) (Nat.le_of_ble_eq_true rfl) ?_
  refine lv_astore_n (lv' := [(2, .ref n154), (0, .ref a), (1, .ref b0)]) hx hb dX5_readRule_12 rfl hl (by decide) rfl (fun ls hl => ?_)
  refine lv_aload_n hx hb dX5_readRule_13 rfl (lv_at hl 1 rfl) ?_
  refine lv_iconst (v := 0) hx hb dX5_readRule_14 (by decide) ?_
  refine va_put (D := D) (ci := 5) (v := .int 0) (ty := .int) (C := RX5) (T := TX5) (N := 4) hx hb hT i_X5 tyX5 tyX5_ok nmX5 hown hK hP hD hS 0 rfl rfl 2 (by decide) (hT _ q_105) (fun _ h9 => h9) rfl (by decide +kernel) rfl rfl (Nat.le_of_ble_eq_true rfl) dX5_readRule_15 (fun H locs hP hD hS => ?_)
  have hP : va_P D classes [(a, .inr (5, [.ref b0, .ref a_code, .int 0, .int a__parts])), (b0, .inr (7, [.ref b0_bytes, .int b0__length, .int b0__place, .int b0__fault])), (b0_bytes, .inl (cs 0, 400, .inl b0_bytes_c)), (a_code, .inl (cs 0, 400, .inl a_code_c)), (n154, .inr (4, [.int 0, .ref o156, .ref o158, .ref o160, .ref o162, .ref o164])), (o156, .inl (cs 0, 12, .inl o157)), (o158, .inl (cs 0, 12, .inl o159)), (o160, .inl (cs 0, 12, .inl o161)), (o162, .inl (cs 0, 12, .inl o163)), (o164, .inl (cs 0, 0, .inl o165))] H := hP
  have hD : va_D A [(a, .inr (5, [.ref b0, .ref a_code, .int 0, .int a__parts])), (b0, .inr (7, [.ref b0_bytes, .int b0__length, .int b0__place, .int b0__fault])), (b0_bytes, .inl (cs 0, 400, .inl b0_bytes_c)), (a_code, .inl (cs 0, 400, .inl a_code_c)), (n154, .inr (4, [.int 0, .ref o156, .ref o158, .ref o160, .ref o162, .ref o164])), (o156, .inl (cs 0, 12, .inl o157)), (o158, .inl (cs 0, 12, .inl o159)), (o160, .inl (cs 0, 12, .inl o161)), (o162, .inl (cs 0, 12, .inl o163)), (o164, .inl (cs 0, 0, .inl o165))] := hD
  refine lv_aload_n hx hb dX5_readRule_18 rfl (lv_at hl 1 rfl) ?_
  refine lv_iconst (v := 0) hx hb dX5_readRule_19 (by decide) ?_
  refine va_put (D := D) (ci := 5) (v := .int 0) (ty := .int) (C := RX5) (T := TX5) (N := 4) hx hb hT i_X5 tyX5 tyX5_ok nmX5 hown hK hP hD hS 0 rfl rfl 3 (by decide) (hT _ q_106) (fun _ h9 => h9) rfl (by decide +kernel) rfl rfl (Nat.le_of_ble_eq_true rfl) dX5_readRule_20 (fun H locs hP hD hS => ?_)
  have hP : va_P D classes [(a, .inr (5, [.ref b0, .ref a_code, .int 0, .int 0])), (b0, .inr (7, [.ref b0_bytes, .int b0__length, .int b0__place, .int b0__fault])), (b0_bytes, .inl (cs 0, 400, .inl b0_bytes_c)), (a_code, .inl (cs 0, 400, .inl a_code_c)), (n154, .inr (4, [.int 0, .ref o156, .ref o158, .ref o160, .ref o162, .ref o164])), (o156, .inl (cs 0, 12, .inl o157)), (o158, .inl (cs 0, 12, .inl o159)), (o160, .inl (cs 0, 12, .inl o161)), (o162, .inl (cs 0, 12, .inl o163)), (o164, .inl (cs 0, 0, .inl o165))] H := hP
  have hD : va_D A [(a, .inr (5, [.ref b0, .ref a_code, .int 0, .int 0])), (b0, .inr (7, [.ref b0_bytes, .int b0__length, .int b0__place, .int b0__fault])), (b0_bytes, .inl (cs 0, 400, .inl b0_bytes_c)), (a_code, .inl (cs 0, 400, .inl a_code_c)), (n154, .inr (4, [.int 0, .ref o156, .ref o158, .ref o160, .ref o162, .ref o164])), (o156, .inl (cs 0, 12, .inl o157)), (o158, .inl (cs 0, 12, .inl o159)), (o160, .inl (cs 0, 12, .inl o161)), (o162, .inl (cs 0, 12, .inl o163)), (o164, .inl (cs 0, 0, .inl o165))] := hD
  refine lv_aload_n hx hb dX5_readRule_23 rfl (lv_at hl 1 rfl) ?_
  refine va_get (D := D) (ci := 5) (v := .ref b0) (C := RX5) (T := TX5) (N := 4) hx hb hT i_X5 hown hK hP 0 rfl rfl 0 (by decide) (hT _ q_104) (fun _ h9 => h9) rfl dX5_readRule_24 ?_
  have hFc := va_free (wc := [(b0, .inr (7, [.ref b0_bytes, .int b0__length, .int b0__place, .int b0__fault]))]) hD hS hA [1] rfl
  refine va_callv (va_runV (As := []) (rest := []) ⟨hx, hb, hml, hown, hT⟩ (c_X7_rewind l D cs kK kV b0 b0_bytes b0__length b0__place b0__fault H.size) (cwV 0 hT (hz_gV q_552 q_417 q_418 q_221 q_419) rfl rfl rfl (by decide +kernel) ⟨(Nat.le_of_ble_eq_true rfl), (Nat.le_of_ble_eq_true rfl)⟩) ⟨hz_C.blind, va_recv hK hP (ci := 7) (q0 := 1) rfl rfl, hz_C.mk (hP.sub (ws' := [(b0, .inr (7, [.ref b0_bytes, .int b0__length, .int b0__place, .int b0__fault]))]) [1] rfl) (hD.sub (ws' := [(b0, .inr (7, [.ref b0_bytes, .int b0__length, .int b0__place, .int b0__fault]))]) [1] (by decide) rfl) hE hS hFc⟩ rfl rfl hl.1 rfl (lv_room (Nat.le_of_ble_eq_true rfl)) dX5_readRule_27 ⟨(Nat.le_of_ble_eq_true rfl), (Nat.le_of_ble_eq_true rfl)⟩) hS (fun q _ h => hFc q h) hFc (fun o172 t H1 locs ht hvm hw hB hz1 hk1 hS => ?_)
  obtain ⟨hP1, hD1⟩ := hB
  rw [ht] at hP1
  obtain ⟨hP, hD⟩ := va_join (wr := [(a, .inr (5, [.ref b0, .ref a_code, .int 0, .int 0])), (b0_bytes, .inl (cs 0, 400, .inl b0_bytes_c)), (a_code, .inl (cs 0, 400, .inl a_code_c)), (n154, .inr (4, [.int 0, .ref o156, .ref o158, .ref o160, .ref o162, .ref o164])), (o156, .inl (cs 0, 12, .inl o157)), (o158, .inl (cs 0, 12, .inl o159)), (o160, .inl (cs 0, 12, .inl o161)), (o162, .inl (cs 0, 12, .inl o163)), (o164, .inl (cs 0, 0, .inl o165))]) (w1 := [(b0, .inr (7, [.ref b0_bytes, .int b0__length, .int 0, .int (o172.1 0)]))]) hP hD [1] [0, 2, 3, 4, 5, 6, 7, 8, 9] rfl rfl (by decide) (by decide) hk1 hFc hP1 hD1
  generalize H1 = H at hP hS ⊢
  have hP : va_P D classes [(a, .inr (5, [.ref b0, .ref a_code, .int 0, .int 0])), (b0_bytes, .inl (cs 0, 400, .inl b0_bytes_c)), (a_code, .inl (cs 0, 400, .inl a_code_c)), (n154, .inr (4, [.int 0, .ref o156, .ref o158, .ref o160, .ref o162, .ref o164])), (o156, .inl (cs 0, 12, .inl o157)), (o158, .inl (cs 0, 12, .inl o159)), (o160, .inl (cs 0, 12, .inl o161)), (o162, .inl (cs 0, 12, .inl o163)), (o164, .inl (cs 0, 0, .inl o165)), (b0, .inr (7, [.ref b0_bytes, .int b0__length, .int 0, .int (o172.1 0)]))] H := hP
  have hD : va_D A [(a, .inr (5, [.ref b0, .ref a_code, .int 0, .int 0])), (b0_bytes, .inl (cs 0, 400, .inl b0_bytes_c)), (a_code, .inl (cs 0, 400, .inl a_code_c)), (n154, .inr (4, [.int 0, .ref o156, .ref o158, .ref o160, .ref o162, .ref o164])), (o156, .inl (cs 0, 12, .inl o157)), (o158, .inl (cs 0, 12, .inl o159)), (o160, .inl (cs 0, 12, .inl o161)), (o162, .inl (cs 0, 12, .inl o163)), (o164, .inl (cs 0, 0, .inl o165)), (b0, .inr (7, [.ref b0_bytes, .int b0__length, .int 0, .int (o172.1 0)]))] := hD
  clear hk1 hFc hP1 hD1 hz1
  have h173 := hw
  refine lv_iconst (v := 1) hx hb dX5_readRule_30 (by decide) ?_
  refine lv_istore_n (lv' := [(3, .int 1), (2, .ref n154), (0, .ref a), (1, .ref b0)]) hx hb dX5_readRule_31 rfl hl (by decide) rfl (fun ls hl => ?_)
  refine lv_iconst (v := 0) hx hb dX5_readRule_32 (by decide) ?_
  refine lv_istore (lv' := [(4, .int 0), (3, .int 1), (2, .ref n154), (0, .ref a), (1, .ref b0)]) hx hb dX5_readRule_33 hl (by decide) rfl (fun ls hl => ?_)
  exact K35 _ n154 o156 o158 o160 o162 o164 0 0 0 a_code_c 0 o157 o159 o161 o163 o165 0 (o172.1 0) (Nat.le_refl _) (iv_c (by decide)) (iv_c (by decide)) (iv_w h173 (by decide) (by decide)) (iv_c (by decide)) (iv_c (by decide)) (ci_w h167 (by decide) (by decide)) (ci_w h168 (by decide) (by decide)) (ci_w h169 (by decide) (by decide)) h170 H locs (hP.sub (ws' := [(a, .inr (5, [.ref b0, .ref a_code, .int 0, .int 0])), (b0_bytes, .inl (cs 0, 400, .inl b0_bytes_c)), (a_code, .inl (cs 0, 400, .inl a_code_c)), (n154, .inr (4, [.int 0, .ref o156, .ref o158, .ref o160, .ref o162, .ref o164])), (o156, .inl (cs 0, 12, .inl o157)), (o158, .inl (cs 0, 12, .inl o159)), (o160, .inl (cs 0, 12, .inl o161)), (o162, .inl (cs 0, 12, .inl o163)), (o164, .inl (cs 0, 0, .inl o165)), (b0, .inr (7, [.ref b0_bytes, .int b0__length, .int 0, .int (o172.1 0)]))]) [0, 1, 2, 3, 4, 5, 6, 7, 8, 9] rfl) (hD.sub (ws' := [(a, .inr (5, [.ref b0, .ref a_code, .int 0, .int 0])), (b0_bytes, .inl (cs 0, 400, .inl b0_bytes_c)), (a_code, .inl (cs 0, 400, .inl a_code_c)), (n154, .inr (4, [.int 0, .ref o156, .ref o158, .ref o160, .ref o162, .ref o164])), (o156, .inl (cs 0, 12, .inl o157)), (o158, .inl (cs 0, 12, .inl o159)), (o160, .inl (cs 0, 12, .inl o161)), (o162, .inl (cs 0, 12, .inl o163)), (o164, .inl (cs 0, 0, .inl o165)), (b0, .inr (7, [.ref b0_bytes, .int b0__length, .int 0, .int (o172.1 0)]))]) [0, 1, 2, 3, 4, 5, 6, 7, 8, 9] (by decide) rfl) hS ls (lv_sub hl [0, 1, 2, 3, 4] rfl)
theorem dX11_isFair_0 : decode cX11_isFair 0 = .ok (.aload_n 0, 1) := by decide +kernel
theorem dX11_isFair_1 : decode cX11_isFair 1 = .ok (.getfield 39, 3) := by decide +kernel
theorem dX11_isFair_4 : decode cX11_isFair 4 = .ok (.getfield 178, 3) := by decide +kernel
theorem dX11_isFair_7 : decode cX11_isFair 7 = .ok (.ifCond .le 7, 3) := by decide +kernel
theorem dX11_isFair_10 : decode cX11_isFair 10 = .ok (.iconst 1, 1) := by decide +kernel
theorem dX11_isFair_11 : decode cX11_isFair 11 = .ok (.goto 4, 3) := by decide +kernel
theorem dX11_isFair_14 : decode cX11_isFair 14 = .ok (.iconst 0, 1) := by decide +kernel
theorem dX11_isFair_15 : decode cX11_isFair 15 = .ok (.ireturn, 1) := by decide +kernel
set_option maxHeartbeats 4000000 in
set_option maxRecDepth 100000 in
theorem c_X11_isFair (l : Launch) (D : va_G) (cs : Nat → ClassId) (kK kV : Nat → Nat) (a : Nat) (a_tape : Nat) (a_fairReader : Nat) (a_ruleReader : Nat) (a_rules : Nat) (a__ruleCount : Int32) (a_told : Nat) (a_scene : Nat) (a_spare : Nat) (a_past : Nat) (a__pastFirst : Int32) (a__pastCount : Int32) (a_trials : Nat) (a_images : Nat) (a_pairs : Nat) (a_walker : Nat) (a_market : Nat) (a__x : Int32) (a_told__stalls : Int32) (a_told__shift : Int32) (a_told__halves : Int32) (a_told__buyers : Int32) (a_told__near : Int32) (a_told__dusk : Int32) (a_told__duskPrice : Int32) (a_told__hear : Int32) (a_told__forged : Int32) (a_told_stall : Nat) (a_told_shape : Nat) (a_told_side : Nat) (a_told_price : Nat) (a_told_purse : Nat) (a_told_spot : Nat) (a_told_club : Nat) (a_told_fitting : Nat) (a_told_nearly : Nat) (h_a_told__stalls : IV 0 8 a_told__stalls) : Met l yX11_isFair (hz_w yX11_isFair cX11_isFair 1 (some .boolean)) ({ frames := 0, cells := 0, slots := 0, locals := 0 }) (va_Pc [.ref a] (hz_P D cs kK kV [(a, .inr (11, [.ref a_tape, .ref a_fairReader, .ref a_ruleReader, .ref a_rules, .int a__ruleCount, .ref a_told, .ref a_scene, .ref a_spare, .ref a_past, .int a__pastFirst, .int a__pastCount, .ref a_trials, .ref a_images, .ref a_pairs, .ref a_walker, .ref a_market, .int a__x])), (a_told, .inr (8, [.int a_told__stalls, .int a_told__shift, .int a_told__halves, .int a_told__buyers, .int a_told__near, .int a_told__dusk, .int a_told__duskPrice, .int a_told__hear, .int a_told__forged, .ref a_told_stall, .ref a_told_shape, .ref a_told_side, .ref a_told_price, .ref a_told_purse, .ref a_told_spot, .ref a_told_club, .ref a_told_fitting, .ref a_told_nearly]))])) (va_Qi (fun (r : Int32) (_ : Unit) => (r = 0 ∧ IV 0 0 a_told__stalls) ∨ (r = 1 ∧ IV 1 8 a_told__stalls)) (fun _ t => True) (fun _ => False)) 0 0 (fun _ => False) := by
  refine Met.ofW (cc := cX11_isFair) (maxL := 1) (ret := (some .boolean)) (by decide) rfl ?_
  intro p e s m args below meth c s₁ B hml hv
  obtain ⟨rfl, hP, hE⟩ := hv
  have hx := B.exec
  have hb := B.bytes
  have hr := B.returns
  have hT : ∀ w ∈ TB, w.before _ s = true := fun w h => atoms_spec (ws := hz_w yX11_isFair cX11_isFair 1 (some .boolean)) B.pre w (List.mem_cons_of_mem _ h)
  have hown : s.vm.findClass RX11 = some m.cls := findClass_of_methodNamed B.named
  have hlocks := B.notSynchronized
  clear B
  have hS : va_S (fun _ => False) s.heap s.heap [] := va_S.rf
  have hK := hE.1
  have hl := lv_entry ([.ref a]) (n := 1) (Nat.le_of_ble_eq_true rfl)
  rw [lg_entry_eq]
  generalize (lg_sl ([.ref a]) ++ List.replicate (1 - (lg_sl ([.ref a])).length) Slot.unset).toArray = ls at hl ⊢
  have hl : lv_has ls 1 [(0, .ref a)] := hl
  obtain ⟨H, eH⟩ : ∃ z, z = s.heap := ⟨_, rfl⟩
  have hP : va_P D classes [(a, .inr (11, [.ref a_tape, .ref a_fairReader, .ref a_ruleReader, .ref a_rules, .int a__ruleCount, .ref a_told, .ref a_scene, .ref a_spare, .ref a_past, .int a__pastFirst, .int a__pastCount, .ref a_trials, .ref a_images, .ref a_pairs, .ref a_walker, .ref a_market, .int a__x])), (a_told, .inr (8, [.int a_told__stalls, .int a_told__shift, .int a_told__halves, .int a_told__buyers, .int a_told__near, .int a_told__dusk, .int a_told__duskPrice, .int a_told__hear, .int a_told__forged, .ref a_told_stall, .ref a_told_shape, .ref a_told_side, .ref a_told_price, .ref a_told_purse, .ref a_told_spot, .ref a_told_club, .ref a_told_fitting, .ref a_told_nearly]))] H := by rw [eH]; exact hP
  have hS : va_S (fun _ => False) s.heap H [] := by rw [eH]; exact hS
  rw [← eH]
  clear eH
  obtain ⟨locs, el⟩ : ∃ z : List Loc, z = [] := ⟨_, rfl⟩
  rw [← el] at hS ⊢
  clear el
  refine lv_aload_n hx hb dX11_isFair_0 rfl (lv_at hl 0 rfl) ?_
  refine va_get (D := D) (ci := 11) (v := .ref a_told) (C := RX11) (T := TX11) (N := 17) hx hb hT i_X11 hown hK hP 0 rfl rfl 5 (by decide) (hT _ q_4) (fun _ h9 => h9) rfl dX11_isFair_1 ?_
  refine va_get (D := D) (ci := 8) (v := .int a_told__stalls) (C := RX8) (T := TX8) (N := 18) hx hb hT i_X8 hown hK hP 1 rfl rfl 0 (by decide) (hT _ q_26) (fun _ h9 => h9) rfl dX11_isFair_4 ?_
  refine lv_if_le (tgt := 14) hx hb dX11_isFair_7 (by decide) (fun c1 => ?_) (fun c1 => ?_)
  · have h2 : IV 0 0 a_told__stalls := iv_le1 c1 h_a_told__stalls (iv_c (a := 0) (b := 0) (by decide)) (by decide)
    refine lv_iconst (v := 0) hx hb dX11_isFair_14 (by decide) ?_
    exact W.zret (v := 0) hx hb hr rfl (fun t ht hW => ⟨⟨0, (), rfl, (Or.inl (⟨rfl, h2⟩)), trivial⟩, hS.F ht⟩) hS.2.2 dX11_isFair_15
  · have h3 : IV 1 8 a_told__stalls := iv_lt2 (Int32.not_le.mp c1) (iv_c (a := 0) (b := 0) (by decide)) h_a_told__stalls (by decide)
    refine lv_iconst (v := 1) hx hb dX11_isFair_10 (by decide) ?_
    refine lv_goto (tgt := 15) hx hb dX11_isFair_11 (by decide) ?_
    exact W.zret (v := 1) hx hb hr rfl (fun t ht hW => ⟨⟨1, (), rfl, (Or.inr ((⟨rfl, h3⟩))), trivial⟩, hS.F ht⟩) hS.2.2 dX11_isFair_15
theorem dX11_isSet_0 : decode cX11_isSet 0 = .ok (.aload_n 0, 1) := by decide +kernel
theorem dX11_isSet_1 : decode cX11_isSet 1 = .ok (.invokevirtual 232, 3) := by decide +kernel
theorem dX11_isSet_4 : decode cX11_isSet 4 = .ok (.ifCond .eq 24, 3) := by decide +kernel
theorem dX11_isSet_7 : decode cX11_isSet 7 = .ok (.iload_n 1, 1) := by decide +kernel
theorem dX11_isSet_8 : decode cX11_isSet 8 = .ok (.ifCond .lt 20, 3) := by decide +kernel
theorem dX11_isSet_11 : decode cX11_isSet 11 = .ok (.iload_n 1, 1) := by decide +kernel
theorem dX11_isSet_12 : decode cX11_isSet 12 = .ok (.iconst 1, 1) := by decide +kernel
theorem dX11_isSet_13 : decode cX11_isSet 13 = .ok (.aload_n 0, 1) := by decide +kernel
theorem dX11_isSet_14 : decode cX11_isSet 14 = .ok (.getfield 39, 3) := by decide +kernel
theorem dX11_isSet_17 : decode cX11_isSet 17 = .ok (.getfield 119, 3) := by decide +kernel
theorem dX11_isSet_20 : decode cX11_isSet 20 = .ok (.ishl, 1) := by decide +kernel
theorem dX11_isSet_21 : decode cX11_isSet 21 = .ok (.if_icmp .ge 7, 3) := by decide +kernel
theorem dX11_isSet_24 : decode cX11_isSet 24 = .ok (.iconst 1, 1) := by decide +kernel
theorem dX11_isSet_25 : decode cX11_isSet 25 = .ok (.goto 4, 3) := by decide +kernel
theorem dX11_isSet_28 : decode cX11_isSet 28 = .ok (.iconst 0, 1) := by decide +kernel
theorem dX11_isSet_29 : decode cX11_isSet 29 = .ok (.ireturn, 1) := by decide +kernel
set_option maxHeartbeats 4000000 in
set_option maxRecDepth 100000 in
theorem c_X11_isSet (l : Launch) (D : va_G) (cs : Nat → ClassId) (kK kV : Nat → Nat) (a : Nat) (p0 : Int32) (a_tape : Nat) (a_fairReader : Nat) (a_ruleReader : Nat) (a_rules : Nat) (a__ruleCount : Int32) (a_told : Nat) (a_scene : Nat) (a_spare : Nat) (a_past : Nat) (a__pastFirst : Int32) (a__pastCount : Int32) (a_trials : Nat) (a_images : Nat) (a_pairs : Nat) (a_walker : Nat) (a_market : Nat) (a__x : Int32) (a_told__stalls : Int32) (a_told__shift : Int32) (a_told__halves : Int32) (a_told__buyers : Int32) (a_told__near : Int32) (a_told__dusk : Int32) (a_told__duskPrice : Int32) (a_told__hear : Int32) (a_told__forged : Int32) (a_told_stall : Nat) (a_told_shape : Nat) (a_told_side : Nat) (a_told_price : Nat) (a_told_purse : Nat) (a_told_spot : Nat) (a_told_club : Nat) (a_told_fitting : Nat) (a_told_nearly : Nat) (h_a_told__stalls : IV 0 8 a_told__stalls) (h_a_told__halves : IV 0 12 a_told__halves) : Met l yX11_isSet (hz_w yX11_isSet cX11_isSet 2 (some .boolean)) ({ frames := 1, cells := 0, slots := 0, locals := 20 }) (va_Pc [.ref a, .int p0] (hz_P D cs kK kV [(a, .inr (11, [.ref a_tape, .ref a_fairReader, .ref a_ruleReader, .ref a_rules, .int a__ruleCount, .ref a_told, .ref a_scene, .ref a_spare, .ref a_past, .int a__pastFirst, .int a__pastCount, .ref a_trials, .ref a_images, .ref a_pairs, .ref a_walker, .ref a_market, .int a__x])), (a_told, .inr (8, [.int a_told__stalls, .int a_told__shift, .int a_told__halves, .int a_told__buyers, .int a_told__near, .int a_told__dusk, .int a_told__duskPrice, .int a_told__hear, .int a_told__forged, .ref a_told_stall, .ref a_told_shape, .ref a_told_side, .ref a_told_price, .ref a_told_purse, .ref a_told_spot, .ref a_told_club, .ref a_told_fitting, .ref a_told_nearly]))])) (va_Qi (fun (r : Int32) (_ : Unit) => (r = 0) ∨ (r = 1 ∧ IV 1 8 a_told__stalls ∧ IV 0 4095 p0)) (fun _ t => True) (fun _ => False)) 0 0 (fun _ => False) := by
  refine Met.ofW (cc := cX11_isSet) (maxL := 2) (ret := (some .boolean)) (by decide) rfl ?_
  intro p e s m args below meth c s₁ B hml hv
  obtain ⟨rfl, hP, hE⟩ := hv
  have hx := B.exec
  have hb := B.bytes
  have hr := B.returns
  have hT : ∀ w ∈ TB, w.before _ s = true := fun w h => atoms_spec (ws := hz_w yX11_isSet cX11_isSet 2 (some .boolean)) B.pre w (List.mem_cons_of_mem _ h)
  have hown : s.vm.findClass RX11 = some m.cls := findClass_of_methodNamed B.named
  have hlocks := B.notSynchronized
  clear B
  have hS : va_S (fun _ => False) s.heap s.heap [] := va_S.rf
  have hK := hE.1
  have hl := lv_entry ([.ref a, .int p0]) (n := 2) (Nat.le_of_ble_eq_true rfl)
  rw [lg_entry_eq]
  generalize (lg_sl ([.ref a, .int p0]) ++ List.replicate (2 - (lg_sl ([.ref a, .int p0])).length) Slot.unset).toArray = ls at hl ⊢
  have hl : lv_has ls 2 [(0, .ref a), (1, .int p0)] := hl
  obtain ⟨H, eH⟩ : ∃ z, z = s.heap := ⟨_, rfl⟩
  have hP : va_P D classes [(a, .inr (11, [.ref a_tape, .ref a_fairReader, .ref a_ruleReader, .ref a_rules, .int a__ruleCount, .ref a_told, .ref a_scene, .ref a_spare, .ref a_past, .int a__pastFirst, .int a__pastCount, .ref a_trials, .ref a_images, .ref a_pairs, .ref a_walker, .ref a_market, .int a__x])), (a_told, .inr (8, [.int a_told__stalls, .int a_told__shift, .int a_told__halves, .int a_told__buyers, .int a_told__near, .int a_told__dusk, .int a_told__duskPrice, .int a_told__hear, .int a_told__forged, .ref a_told_stall, .ref a_told_shape, .ref a_told_side, .ref a_told_price, .ref a_told_purse, .ref a_told_spot, .ref a_told_club, .ref a_told_fitting, .ref a_told_nearly]))] H := by rw [eH]; exact hP
  have hS : va_S (fun _ => False) s.heap H [] := by rw [eH]; exact hS
  rw [← eH]
  clear eH
  obtain ⟨locs, el⟩ : ∃ z : List Loc, z = [] := ⟨_, rfl⟩
  rw [← el] at hS ⊢
  clear el
  refine lv_aload_n hx hb dX11_isSet_0 rfl (lv_at hl 0 rfl) ?_
  refine va_calli (va_runV (As := []) (rest := []) ⟨hx, hb, hml, hown, hT⟩ (c_X11_isFair l D cs kK kV a a_tape a_fairReader a_ruleReader a_rules a__ruleCount a_told a_scene a_spare a_past a__pastFirst a__pastCount a_trials a_images a_pairs a_walker a_market a__x a_told__stalls a_told__shift a_told__halves a_told__buyers a_told__near a_told__dusk a_told__duskPrice a_told__hear a_told__forged a_told_stall a_told_shape a_told_side a_told_price a_told_purse a_told_spot a_told_club a_told_fitting a_told_nearly h_a_told__stalls) (cwV 0 hT (hz_gV q_322 q_323 q_324 q_241 q_325) rfl rfl rfl (by decide +kernel) ⟨(Nat.le_of_ble_eq_true rfl), (Nat.le_of_ble_eq_true rfl)⟩) ⟨hz_P.blind, va_recv hK hP (ci := 11) (q0 := 0) rfl rfl, hz_P.mk (hP.sub (ws' := [(a, .inr (11, [.ref a_tape, .ref a_fairReader, .ref a_ruleReader, .ref a_rules, .int a__ruleCount, .ref a_told, .ref a_scene, .ref a_spare, .ref a_past, .int a__pastFirst, .int a__pastCount, .ref a_trials, .ref a_images, .ref a_pairs, .ref a_walker, .ref a_market, .int a__x])), (a_told, .inr (8, [.int a_told__stalls, .int a_told__shift, .int a_told__halves, .int a_told__buyers, .int a_told__near, .int a_told__dusk, .int a_told__duskPrice, .int a_told__hear, .int a_told__forged, .ref a_told_stall, .ref a_told_shape, .ref a_told_side, .ref a_told_price, .ref a_told_purse, .ref a_told_spot, .ref a_told_club, .ref a_told_fitting, .ref a_told_nearly]))]) [0,1] rfl) hE hS⟩ rfl rfl hl.1 rfl (lv_room (Nat.le_of_ble_eq_true rfl)) dX11_isSet_1 ⟨(Nat.le_of_ble_eq_true rfl), (Nat.le_of_ble_eq_true rfl)⟩) hS (fun _ _ h => h.elim) (fun _ h => h.elim) (fun r1 u t H1 locs ht hvm hw hB hz1 hk1 hS => ?_)
  have hP := hz_keep hP hk1
  clear hk1 hB hz1
  generalize H1 = H at hP hS ⊢
  rcases hw with ⟨rfl, h2⟩ | ⟨rfl, h3⟩
  · refine lv_if_eq (tgt := 28) hx hb dX11_isSet_4 (by decide) (fun _ => ?_) (fun z => absurd (by decide) z)
    refine lv_iconst (v := 0) hx hb dX11_isSet_28 (by decide) ?_
    exact W.zret (v := 0) hx hb hr rfl (fun t ht hW => ⟨⟨0, (), rfl, (Or.inl (rfl)), trivial⟩, hS.F ht⟩) hS.2.2 dX11_isSet_29
  · refine lv_if_eq (tgt := 28) hx hb dX11_isSet_4 (by decide) (fun z => absurd z (by decide)) (fun _ => ?_)
    refine lv_iload_n hx hb dX11_isSet_7 rfl (lv_at hl 1 rfl) ?_
    refine lv_if_lt (tgt := 28) hx hb dX11_isSet_8 (by decide) (fun c4 => ?_) (fun c4 => ?_)
    · have h5 : IV (-2147483648) (-1) p0 := iv_lt1 c4 iv_top (iv_c (a := 0) (b := 0) (by decide)) (by decide)
      refine lv_iconst (v := 0) hx hb dX11_isSet_28 (by decide) ?_
      exact W.zret (v := 0) hx hb hr rfl (fun t ht hW => ⟨⟨0, (), rfl, (Or.inl (rfl)), trivial⟩, hS.F ht⟩) hS.2.2 dX11_isSet_29
    · have h6 : IV 0 2147483647 p0 := iv_le2 (Int32.not_lt.mp c4) (iv_c (a := 0) (b := 0) (by decide)) iv_top (by decide)
      refine lv_iload_n hx hb dX11_isSet_11 rfl (lv_at hl 1 rfl) ?_
      refine lv_iconst (v := 1) hx hb dX11_isSet_12 (by decide) ?_
      refine lv_aload_n hx hb dX11_isSet_13 rfl (lv_at hl 0 rfl) ?_
      refine va_get (D := D) (ci := 11) (v := .ref a_told) (C := RX11) (T := TX11) (N := 17) hx hb hT i_X11 hown hK hP 0 rfl rfl 5 (by decide) (hT _ q_4) (fun _ h9 => h9) rfl dX11_isSet_14 ?_
      refine va_get (D := D) (ci := 8) (v := .int a_told__halves) (C := RX8) (T := TX8) (N := 18) hx hb hT i_X8 hown hK hP 1 rfl rfl 2 (by decide) (hT _ q_16) (fun _ h9 => h9) rfl dX11_isSet_17 ?_
      refine lv_ishl hx hb dX11_isSet_20 ?_
      refine lv_topi (fun v7 ev7 => ?_)
      have hv7 : IV 1 4096 v7 := iv_shl1 ev7 h_a_told__halves (by decide) (by decide) (by decide)
      refine lv_icmp_ge (tgt := 28) hx hb dX11_isSet_21 (by decide) (fun c8 => ?_) (fun c8 => ?_)
      · have h9 : IV 1 2147483647 p0 := iv_le2 c8 hv7 h6 (by decide)
        refine lv_iconst (v := 0) hx hb dX11_isSet_28 (by decide) ?_
        exact W.zret (v := 0) hx hb hr rfl (fun t ht hW => ⟨⟨0, (), rfl, (Or.inl (rfl)), trivial⟩, hS.F ht⟩) hS.2.2 dX11_isSet_29
      · have h10 : IV 0 4095 p0 := iv_lt1 (Int32.not_le.mp c8) h6 hv7 (by decide)
        refine lv_iconst (v := 1) hx hb dX11_isSet_24 (by decide) ?_
        refine lv_goto (tgt := 29) hx hb dX11_isSet_25 (by decide) ?_
        exact W.zret (v := 1) hx hb hr rfl (fun t ht hW => ⟨⟨1, (), rfl, (Or.inr ((⟨rfl, h3, h10⟩))), trivial⟩, hS.F ht⟩) hS.2.2 dX11_isSet_29
theorem dX11_isTheirs_0 : decode cX11_isTheirs 0 = .ok (.aload_n 0, 1) := by decide +kernel
theorem dX11_isTheirs_1 : decode cX11_isTheirs 1 = .ok (.getfield 39, 3) := by decide +kernel
theorem dX11_isTheirs_4 : decode cX11_isTheirs 4 = .ok (.iload_n 1, 1) := by decide +kernel
theorem dX11_isTheirs_5 : decode cX11_isTheirs 5 = .ok (.invokevirtual 157, 3) := by decide +kernel
theorem dX11_isTheirs_8 : decode cX11_isTheirs 8 = .ok (.ifCond .eq 35, 3) := by decide +kernel
theorem dX11_isTheirs_11 : decode cX11_isTheirs 11 = .ok (.aload_n 0, 1) := by decide +kernel
theorem dX11_isTheirs_12 : decode cX11_isTheirs 12 = .ok (.getfield 39, 3) := by decide +kernel
theorem dX11_isTheirs_15 : decode cX11_isTheirs 15 = .ok (.iload_n 2, 1) := by decide +kernel
theorem dX11_isTheirs_16 : decode cX11_isTheirs 16 = .ok (.invokevirtual 129, 3) := by decide +kernel
theorem dX11_isTheirs_19 : decode cX11_isTheirs 19 = .ok (.ifCond .eq 24, 3) := by decide +kernel
theorem dX11_isTheirs_22 : decode cX11_isTheirs 22 = .ok (.aload_n 0, 1) := by decide +kernel
theorem dX11_isTheirs_23 : decode cX11_isTheirs 23 = .ok (.getfield 46, 3) := by decide +kernel
theorem dX11_isTheirs_26 : decode cX11_isTheirs 26 = .ok (.getfield 166, 3) := by decide +kernel
theorem dX11_isTheirs_29 : decode cX11_isTheirs 29 = .ok (.iload_n 1, 1) := by decide +kernel
theorem dX11_isTheirs_30 : decode cX11_isTheirs 30 = .ok (.iaload, 1) := by decide +kernel
theorem dX11_isTheirs_31 : decode cX11_isTheirs 31 = .ok (.iload_n 2, 1) := by decide +kernel
theorem dX11_isTheirs_32 : decode cX11_isTheirs 32 = .ok (.ishr, 1) := by decide +kernel
theorem dX11_isTheirs_33 : decode cX11_isTheirs 33 = .ok (.iconst 1, 1) := by decide +kernel
theorem dX11_isTheirs_34 : decode cX11_isTheirs 34 = .ok (.iand, 1) := by decide +kernel
theorem dX11_isTheirs_35 : decode cX11_isTheirs 35 = .ok (.iconst 1, 1) := by decide +kernel
theorem dX11_isTheirs_36 : decode cX11_isTheirs 36 = .ok (.if_icmp .ne 7, 3) := by decide +kernel
theorem dX11_isTheirs_39 : decode cX11_isTheirs 39 = .ok (.iconst 1, 1) := by decide +kernel
theorem dX11_isTheirs_40 : decode cX11_isTheirs 40 = .ok (.goto 4, 3) := by decide +kernel
theorem dX11_isTheirs_43 : decode cX11_isTheirs 43 = .ok (.iconst 0, 1) := by decide +kernel
theorem dX11_isTheirs_44 : decode cX11_isTheirs 44 = .ok (.ireturn, 1) := by decide +kernel
set_option maxHeartbeats 4000000 in
set_option maxRecDepth 100000 in
theorem c_X11_isTheirs (l : Launch) (D : va_G) (cs : Nat → ClassId) (kK kV : Nat → Nat) (a : Nat) (p0 : Int32) (p1 : Int32) (a_tape : Nat) (a_fairReader : Nat) (a_ruleReader : Nat) (a_rules : Nat) (a__ruleCount : Int32) (a_told : Nat) (a_scene : Nat) (a_spare : Nat) (a_past : Nat) (a__pastFirst : Int32) (a__pastCount : Int32) (a_trials : Nat) (a_images : Nat) (a_pairs : Nat) (a_walker : Nat) (a_market : Nat) (a__x : Int32) (a_told__stalls : Int32) (a_told__shift : Int32) (a_told__halves : Int32) (a_told__buyers : Int32) (a_told__near : Int32) (a_told__dusk : Int32) (a_told__duskPrice : Int32) (a_told__hear : Int32) (a_told__forged : Int32) (a_told_stall : Nat) (a_told_shape : Nat) (a_told_side : Nat) (a_told_price : Nat) (a_told_purse : Nat) (a_told_spot : Nat) (a_told_club : Nat) (a_told_fitting : Nat) (a_told_nearly : Nat) (a_scene__hour : Int32) (a_scene_purse : Nat) (a_scene_spot : Nat) (a_scene_seen : Nat) (a_scene_has : Nat) (a_scene_at : Nat) (a_scene_has_c : Nat → Int32) (h_a_told__halves : IV 0 12 a_told__halves) (h_a_told__buyers : IV 0 4 a_told__buyers) : Met l yX11_isTheirs (hz_w yX11_isTheirs cX11_isTheirs 3 (some .boolean)) ({ frames := 1, cells := 0, slots := 0, locals := 21 }) (va_Pc [.ref a, .int p0, .int p1] (hz_P D cs kK kV [(a, .inr (11, [.ref a_tape, .ref a_fairReader, .ref a_ruleReader, .ref a_rules, .int a__ruleCount, .ref a_told, .ref a_scene, .ref a_spare, .ref a_past, .int a__pastFirst, .int a__pastCount, .ref a_trials, .ref a_images, .ref a_pairs, .ref a_walker, .ref a_market, .int a__x])), (a_told, .inr (8, [.int a_told__stalls, .int a_told__shift, .int a_told__halves, .int a_told__buyers, .int a_told__near, .int a_told__dusk, .int a_told__duskPrice, .int a_told__hear, .int a_told__forged, .ref a_told_stall, .ref a_told_shape, .ref a_told_side, .ref a_told_price, .ref a_told_purse, .ref a_told_spot, .ref a_told_club, .ref a_told_fitting, .ref a_told_nearly])), (a_scene, .inr (6, [.int a_scene__hour, .ref a_scene_purse, .ref a_scene_spot, .ref a_scene_seen, .ref a_scene_has, .ref a_scene_at])), (a_scene_has, .inl (cs 0, 4, .inl a_scene_has_c))])) (va_Qi (fun (r : Int32) (_ : Unit) => (r = 0 ∧ IV (-2147483648) 2147483647 p0) ∨ (r = 1 ∧ IV 1 4 a_told__buyers ∧ IV 1 12 a_told__halves ∧ IV 0 3 p0 ∧ IV 0 11 p1)) (fun _ t => True) (fun _ => False)) 0 0 (fun _ => False) := by
  refine Met.ofW (cc := cX11_isTheirs) (maxL := 3) (ret := (some .boolean)) (by decide) rfl ?_
  intro p e s m args below meth c s₁ B hml hv
  obtain ⟨rfl, hP, hE⟩ := hv
  have hx := B.exec
  have hb := B.bytes
  have hr := B.returns
  have hT : ∀ w ∈ TB, w.before _ s = true := fun w h => atoms_spec (ws := hz_w yX11_isTheirs cX11_isTheirs 3 (some .boolean)) B.pre w (List.mem_cons_of_mem _ h)
  have hown : s.vm.findClass RX11 = some m.cls := findClass_of_methodNamed B.named
  have hlocks := B.notSynchronized
  clear B
  have hS : va_S (fun _ => False) s.heap s.heap [] := va_S.rf
  have hK := hE.1
  have hl := lv_entry ([.ref a, .int p0, .int p1]) (n := 3) (Nat.le_of_ble_eq_true rfl)
  rw [lg_entry_eq]
  generalize (lg_sl ([.ref a, .int p0, .int p1]) ++ List.replicate (3 - (lg_sl ([.ref a, .int p0, .int p1])).length) Slot.unset).toArray = ls at hl ⊢
  have hl : lv_has ls 3 [(0, .ref a), (1, .int p0), (2, .int p1)] := hl
  obtain ⟨H, eH⟩ : ∃ z, z = s.heap := ⟨_, rfl⟩
  have hP : va_P D classes [(a, .inr (11, [.ref a_tape, .ref a_fairReader, .ref a_ruleReader, .ref a_rules, .int a__ruleCount, .ref a_told, .ref a_scene, .ref a_spare, .ref a_past, .int a__pastFirst, .int a__pastCount, .ref a_trials, .ref a_images, .ref a_pairs, .ref a_walker, .ref a_market, .int a__x])), (a_told, .inr (8, [.int a_told__stalls, .int a_told__shift, .int a_told__halves, .int a_told__buyers, .int a_told__near, .int a_told__dusk, .int a_told__duskPrice, .int a_told__hear, .int a_told__forged, .ref a_told_stall, .ref a_told_shape, .ref a_told_side, .ref a_told_price, .ref a_told_purse, .ref a_told_spot, .ref a_told_club, .ref a_told_fitting, .ref a_told_nearly])), (a_scene, .inr (6, [.int a_scene__hour, .ref a_scene_purse, .ref a_scene_spot, .ref a_scene_seen, .ref a_scene_has, .ref a_scene_at])), (a_scene_has, .inl (cs 0, 4, .inl a_scene_has_c))] H := by rw [eH]; exact hP
  have hS : va_S (fun _ => False) s.heap H [] := by rw [eH]; exact hS
  rw [← eH]
  clear eH
  obtain ⟨locs, el⟩ : ∃ z : List Loc, z = [] := ⟨_, rfl⟩
  rw [← el] at hS ⊢
  clear el
  refine lv_aload_n hx hb dX11_isTheirs_0 rfl (lv_at hl 0 rfl) ?_
  refine va_get (D := D) (ci := 11) (v := .ref a_told) (C := RX11) (T := TX11) (N := 17) hx hb hT i_X11 hown hK hP 0 rfl rfl 5 (by decide) (hT _ q_4) (fun _ h9 => h9) rfl dX11_isTheirs_1 ?_
  refine lv_iload_n hx hb dX11_isTheirs_4 rfl (lv_at hl 1 rfl) ?_
  refine va_calli (va_runV (As := [.int p0]) (rest := []) ⟨hx, hb, hml, hown, hT⟩ (c_X8_isBuyer l D cs kK kV a_told p0 a_told__stalls a_told__shift a_told__halves a_told__buyers a_told__near a_told__dusk a_told__duskPrice a_told__hear a_told__forged a_told_stall a_told_shape a_told_side a_told_price a_told_purse a_told_spot a_told_club a_told_fitting a_told_nearly h_a_told__buyers) (cwV 1 hT (hz_gV q_266 q_267 q_268 q_251 q_269) rfl rfl rfl (by decide +kernel) ⟨(Nat.le_of_ble_eq_true rfl), (Nat.le_of_ble_eq_true rfl)⟩) ⟨hz_P.blind, va_recv hK hP (ci := 8) (q0 := 1) rfl rfl, hz_P.mk (hP.sub (ws' := [(a_told, .inr (8, [.int a_told__stalls, .int a_told__shift, .int a_told__halves, .int a_told__buyers, .int a_told__near, .int a_told__dusk, .int a_told__duskPrice, .int a_told__hear, .int a_told__forged, .ref a_told_stall, .ref a_told_shape, .ref a_told_side, .ref a_told_price, .ref a_told_purse, .ref a_told_spot, .ref a_told_club, .ref a_told_fitting, .ref a_told_nearly]))]) [1] rfl) hE hS⟩ rfl rfl hl.1 rfl (lv_room (Nat.le_of_ble_eq_true rfl)) dX11_isTheirs_5 ⟨(Nat.le_of_ble_eq_true rfl), (Nat.le_of_ble_eq_true rfl)⟩) hS (fun _ _ h => h.elim) (fun _ h => h.elim) (fun r1 u t H1 locs ht hvm hw hB hz1 hk1 hS => ?_)
  have hP := hz_keep hP hk1
  clear hk1 hB hz1
  generalize H1 = H at hP hS ⊢
  rcases hw with ⟨rfl, h2⟩ | ⟨rfl, h3, h4⟩
  · refine lv_if_eq (tgt := 43) hx hb dX11_isTheirs_8 (by decide) (fun _ => ?_) (fun z => absurd (by decide) z)
    refine lv_iconst (v := 0) hx hb dX11_isTheirs_43 (by decide) ?_
    exact W.zret (v := 0) hx hb hr rfl (fun t ht hW => ⟨⟨0, (), rfl, (Or.inl (⟨rfl, h2⟩)), trivial⟩, hS.F ht⟩) hS.2.2 dX11_isTheirs_44
  · refine lv_if_eq (tgt := 43) hx hb dX11_isTheirs_8 (by decide) (fun z => absurd z (by decide)) (fun _ => ?_)
    refine lv_aload_n hx hb dX11_isTheirs_11 rfl (lv_at hl 0 rfl) ?_
    refine va_get (D := D) (ci := 11) (v := .ref a_told) (C := RX11) (T := TX11) (N := 17) hx hb hT i_X11 hown hK hP 0 rfl rfl 5 (by decide) (hT _ q_4) (fun _ h9 => h9) rfl dX11_isTheirs_12 ?_
    refine lv_iload_n hx hb dX11_isTheirs_15 rfl (lv_at hl 2 rfl) ?_
    refine va_calli (va_runV (As := [.int p1]) (rest := []) ⟨hx, hb, hml, hown, hT⟩ (c_X8_isHalf l D cs kK kV a_told p1 a_told__stalls a_told__shift a_told__halves a_told__buyers a_told__near a_told__dusk a_told__duskPrice a_told__hear a_told__forged a_told_stall a_told_shape a_told_side a_told_price a_told_purse a_told_spot a_told_club a_told_fitting a_told_nearly h_a_told__halves) (cwV 1 hT (hz_gV q_249 q_250 q_252 q_251 q_253) rfl rfl rfl (by decide +kernel) ⟨(Nat.le_of_ble_eq_true rfl), (Nat.le_of_ble_eq_true rfl)⟩) ⟨hz_P.blind, va_recv hK hP (ci := 8) (q0 := 1) rfl rfl, hz_P.mk (hP.sub (ws' := [(a_told, .inr (8, [.int a_told__stalls, .int a_told__shift, .int a_told__halves, .int a_told__buyers, .int a_told__near, .int a_told__dusk, .int a_told__duskPrice, .int a_told__hear, .int a_told__forged, .ref a_told_stall, .ref a_told_shape, .ref a_told_side, .ref a_told_price, .ref a_told_purse, .ref a_told_spot, .ref a_told_club, .ref a_told_fitting, .ref a_told_nearly]))]) [1] rfl) hE hS⟩ rfl rfl hl.1 rfl (lv_room (Nat.le_of_ble_eq_true rfl)) dX11_isTheirs_16 ⟨(Nat.le_of_ble_eq_true rfl), (Nat.le_of_ble_eq_true rfl)⟩) hS (fun _ _ h => h.elim) (fun _ h => h.elim) (fun r5 u t H1 locs ht hvm hw hB hz1 hk1 hS => ?_)
    have hP := hz_keep hP hk1
    clear hk1 hB hz1
    generalize H1 = H at hP hS ⊢
    rcases hw with ⟨rfl, h6⟩ | ⟨rfl, h7, h8⟩
    · refine lv_if_eq (tgt := 43) hx hb dX11_isTheirs_19 (by decide) (fun _ => ?_) (fun z => absurd (by decide) z)
      refine lv_iconst (v := 0) hx hb dX11_isTheirs_43 (by decide) ?_
      exact W.zret (v := 0) hx hb hr rfl (fun t ht hW => ⟨⟨0, (), rfl, (Or.inl (⟨rfl, (iv_w h4 (by decide) (by decide))⟩)), trivial⟩, hS.F ht⟩) hS.2.2 dX11_isTheirs_44
    · refine lv_if_eq (tgt := 43) hx hb dX11_isTheirs_19 (by decide) (fun z => absurd z (by decide)) (fun _ => ?_)
      refine lv_aload_n hx hb dX11_isTheirs_22 rfl (lv_at hl 0 rfl) ?_
      refine va_get (D := D) (ci := 11) (v := .ref a_scene) (C := RX11) (T := TX11) (N := 17) hx hb hT i_X11 hown hK hP 0 rfl rfl 6 (by decide) (hT _ q_5) (fun _ h9 => h9) rfl dX11_isTheirs_23 ?_
      refine va_get (D := D) (ci := 6) (v := .ref a_scene_has) (C := RX6) (T := TX6) (N := 6) hx hb hT i_X6 hown hK hP 2 rfl rfl 4 (by decide) (hT _ q_24) (fun _ h9 => h9) rfl dX11_isTheirs_26 ?_
      refine lv_iload_n hx hb dX11_isTheirs_29 rfl (lv_at hl 1 rfl) ?_
      refine va_iald hx hb hK hP 3 0 rfl rfl (iv_v h4 (by decide) (by decide)) dX11_isTheirs_30 ?_
      refine lv_topi (fun v9 ev9 => ?_)
      refine lv_iload_n hx hb dX11_isTheirs_31 rfl (lv_at hl 2 rfl) ?_
      refine lv_ishr hx hb dX11_isTheirs_32 ?_
      refine lv_topi (fun v10 ev10 => ?_)
      refine lv_iconst (v := 1) hx hb dX11_isTheirs_33 (by decide) ?_
      refine lv_iand hx hb dX11_isTheirs_34 ?_
      refine lv_topi (fun v11 ev11 => ?_)
      have hv11 : IV 0 1 v11 := iv_and2 ev11 (iv_c (a := 1) (b := 1) (by decide))
      refine lv_iconst (v := 1) hx hb dX11_isTheirs_35 (by decide) ?_
      refine lv_icmp_ne (tgt := 43) hx hb dX11_isTheirs_36 (by decide) (fun c12 => ?_) (fun c12 => ?_)
      · have h13 : IV 0 0 v11 := iv_neR c12 hv11 (by decide)
        refine lv_iconst (v := 0) hx hb dX11_isTheirs_43 (by decide) ?_
        exact W.zret (v := 0) hx hb hr rfl (fun t ht hW => ⟨⟨0, (), rfl, (Or.inl (⟨rfl, (iv_w h4 (by decide) (by decide))⟩)), trivial⟩, hS.F ht⟩) hS.2.2 dX11_isTheirs_44
      · have h14 : IV 1 1 v11 := iv_eq1 c12 hv11 (iv_c (a := 1) (b := 1) (by decide)) (by decide) (by decide)
        refine lv_iconst (v := 1) hx hb dX11_isTheirs_39 (by decide) ?_
        refine lv_goto (tgt := 44) hx hb dX11_isTheirs_40 (by decide) ?_
        exact W.zret (v := 1) hx hb hr rfl (fun t ht hW => ⟨⟨1, (), rfl, (Or.inr ((⟨rfl, h3, h7, h4, h8⟩))), trivial⟩, hS.F ht⟩) hS.2.2 dX11_isTheirs_44
theorem dX11_forgetPast_0 : decode cX11_forgetPast 0 = .ok (.aload_n 0, 1) := by decide +kernel
theorem dX11_forgetPast_1 : decode cX11_forgetPast 1 = .ok (.iconst 0, 1) := by decide +kernel
theorem dX11_forgetPast_2 : decode cX11_forgetPast 2 = .ok (.putfield 225, 3) := by decide +kernel
theorem dX11_forgetPast_5 : decode cX11_forgetPast 5 = .ok (.aload_n 0, 1) := by decide +kernel
theorem dX11_forgetPast_6 : decode cX11_forgetPast 6 = .ok (.iconst 0, 1) := by decide +kernel
theorem dX11_forgetPast_7 : decode cX11_forgetPast 7 = .ok (.putfield 222, 3) := by decide +kernel
theorem dX11_forgetPast_10 : decode cX11_forgetPast 10 = .ok (.return_, 1) := by decide +kernel
set_option maxHeartbeats 4000000 in
set_option maxRecDepth 100000 in
theorem c_X11_forgetPast (l : Launch) (D : va_G) (cs : Nat → ClassId) (kK kV : Nat → Nat) (a : Nat) (a_tape : Nat) (a_fairReader : Nat) (a_ruleReader : Nat) (a_rules : Nat) (a__ruleCount : Int32) (a_told : Nat) (a_scene : Nat) (a_spare : Nat) (a_past : Nat) (a__pastFirst : Int32) (a__pastCount : Int32) (a_trials : Nat) (a_images : Nat) (a_pairs : Nat) (a_walker : Nat) (a_market : Nat) (a__x : Int32)  (sz : Nat) : Met l yX11_forgetPast (hz_w yX11_forgetPast cX11_forgetPast 1 none) ({ frames := 0, cells := 0, slots := 0, locals := 0 }) (va_Pc [.ref a] (hz_C D cs kK kV sz [(a, .inr (11, [.ref a_tape, .ref a_fairReader, .ref a_ruleReader, .ref a_rules, .int a__ruleCount, .ref a_told, .ref a_scene, .ref a_spare, .ref a_past, .int a__pastFirst, .int a__pastCount, .ref a_trials, .ref a_images, .ref a_pairs, .ref a_walker, .ref a_market, .int a__x]))])) (va_Qv (fun (_ : Unit) => True) (fun _ t => va_P D classes [(a, .inr (11, [.ref a_tape, .ref a_fairReader, .ref a_ruleReader, .ref a_rules, .int a__ruleCount, .ref a_told, .ref a_scene, .ref a_spare, .ref a_past, .int 0, .int 0, .ref a_trials, .ref a_images, .ref a_pairs, .ref a_walker, .ref a_market, .int a__x]))] t.heap ∧ va_D (va_A [(a, .inr (11, [.ref a_tape, .ref a_fairReader, .ref a_ruleReader, .ref a_rules, .int a__ruleCount, .ref a_told, .ref a_scene, .ref a_spare, .ref a_past, .int a__pastFirst, .int a__pastCount, .ref a_trials, .ref a_images, .ref a_pairs, .ref a_walker, .ref a_market, .int a__x]))] sz) [(a, .inr (11, [.ref a_tape, .ref a_fairReader, .ref a_ruleReader, .ref a_rules, .int a__ruleCount, .ref a_told, .ref a_scene, .ref a_spare, .ref a_past, .int 0, .int 0, .ref a_trials, .ref a_images, .ref a_pairs, .ref a_walker, .ref a_market, .int a__x]))]) (va_A [(a, .inr (11, [.ref a_tape, .ref a_fairReader, .ref a_ruleReader, .ref a_rules, .int a__ruleCount, .ref a_told, .ref a_scene, .ref a_spare, .ref a_past, .int a__pastFirst, .int a__pastCount, .ref a_trials, .ref a_images, .ref a_pairs, .ref a_walker, .ref a_market, .int a__x]))] sz)) 0 0 (va_A [(a, .inr (11, [.ref a_tape, .ref a_fairReader, .ref a_ruleReader, .ref a_rules, .int a__ruleCount, .ref a_told, .ref a_scene, .ref a_spare, .ref a_past, .int a__pastFirst, .int a__pastCount, .ref a_trials, .ref a_images, .ref a_pairs, .ref a_walker, .ref a_market, .int a__x]))] sz) := by
  refine Met.ofW (cc := cX11_forgetPast) (maxL := 1) (ret := none) (by decide) rfl ?_
  intro p e s m args below meth c s₁ B hml hv
  obtain ⟨rfl, hsz, hP, hD0, hE⟩ := hv
  have hx := B.exec
  have hb := B.bytes
  have hr := B.returns
  have hT : ∀ w ∈ TB, w.before _ s = true := fun w h => atoms_spec (ws := hz_w yX11_forgetPast cX11_forgetPast 1 none) B.pre w (List.mem_cons_of_mem _ h)
  have hown : s.vm.findClass RX11 = some m.cls := findClass_of_methodNamed B.named
  have hlocks := B.notSynchronized
  clear B
  subst hsz
  have hD := hD0.self (sz := s.heap.size)
  generalize hAe : va_A [(a, .inr (11, [.ref a_tape, .ref a_fairReader, .ref a_ruleReader, .ref a_rules, .int a__ruleCount, .ref a_told, .ref a_scene, .ref a_spare, .ref a_past, .int a__pastFirst, .int a__pastCount, .ref a_trials, .ref a_images, .ref a_pairs, .ref a_walker, .ref a_market, .int a__x]))] s.heap.size = A at hD hE ⊢
  have hA : ∀ q : Nat, s.heap.size ≤ q → A q := fun q h => by rw [← hAe]; exact Or.inr h
  clear hAe hD0
  have hS : va_S A s.heap s.heap [] := va_S.rf
  have hK := hE.1
  have hl := lv_entry ([.ref a]) (n := 1) (Nat.le_of_ble_eq_true rfl)
  rw [lg_entry_eq]
  generalize (lg_sl ([.ref a]) ++ List.replicate (1 - (lg_sl ([.ref a])).length) Slot.unset).toArray = ls at hl ⊢
  have hl : lv_has ls 1 [(0, .ref a)] := hl
  obtain ⟨H, eH⟩ : ∃ z, z = s.heap := ⟨_, rfl⟩
  have hP : va_P D classes [(a, .inr (11, [.ref a_tape, .ref a_fairReader, .ref a_ruleReader, .ref a_rules, .int a__ruleCount, .ref a_told, .ref a_scene, .ref a_spare, .ref a_past, .int a__pastFirst, .int a__pastCount, .ref a_trials, .ref a_images, .ref a_pairs, .ref a_walker, .ref a_market, .int a__x]))] H := by rw [eH]; exact hP
  have hS : va_S A s.heap H [] := by rw [eH]; exact hS
  rw [← eH]
  clear eH
  obtain ⟨locs, el⟩ : ∃ z : List Loc, z = [] := ⟨_, rfl⟩
  rw [← el] at hS ⊢
  clear el
  refine lv_aload_n hx hb dX11_forgetPast_0 rfl (lv_at hl 0 rfl) ?_
  refine lv_iconst (v := 0) hx hb dX11_forgetPast_1 (by decide) ?_
  refine va_put (D := D) (ci := 11) (v := .int 0) (ty := .int) (C := RX11) (T := TX11) (N := 17) hx hb hT i_X11 tyX11 tyX11_ok nmX11 hown hK hP hD hS 0 rfl rfl 9 (by decide) (hT _ q_30) (fun _ h9 => h9) rfl (by decide +kernel) rfl rfl (Nat.le_of_ble_eq_true rfl) dX11_forgetPast_2 (fun H locs hP hD hS => ?_)
  have hP : va_P D classes [(a, .inr (11, [.ref a_tape, .ref a_fairReader, .ref a_ruleReader, .ref a_rules, .int a__ruleCount, .ref a_told, .ref a_scene, .ref a_spare, .ref a_past, .int 0, .int a__pastCount, .ref a_trials, .ref a_images, .ref a_pairs, .ref a_walker, .ref a_market, .int a__x]))] H := hP
  have hD : va_D A [(a, .inr (11, [.ref a_tape, .ref a_fairReader, .ref a_ruleReader, .ref a_rules, .int a__ruleCount, .ref a_told, .ref a_scene, .ref a_spare, .ref a_past, .int 0, .int a__pastCount, .ref a_trials, .ref a_images, .ref a_pairs, .ref a_walker, .ref a_market, .int a__x]))] := hD
  refine lv_aload_n hx hb dX11_forgetPast_5 rfl (lv_at hl 0 rfl) ?_
  refine lv_iconst (v := 0) hx hb dX11_forgetPast_6 (by decide) ?_
  refine va_put (D := D) (ci := 11) (v := .int 0) (ty := .int) (C := RX11) (T := TX11) (N := 17) hx hb hT i_X11 tyX11 tyX11_ok nmX11 hown hK hP hD hS 0 rfl rfl 10 (by decide) (hT _ q_29) (fun _ h9 => h9) rfl (by decide +kernel) rfl rfl (Nat.le_of_ble_eq_true rfl) dX11_forgetPast_7 (fun H locs hP hD hS => ?_)
  have hP : va_P D classes [(a, .inr (11, [.ref a_tape, .ref a_fairReader, .ref a_ruleReader, .ref a_rules, .int a__ruleCount, .ref a_told, .ref a_scene, .ref a_spare, .ref a_past, .int 0, .int 0, .ref a_trials, .ref a_images, .ref a_pairs, .ref a_walker, .ref a_market, .int a__x]))] H := hP
  have hD : va_D A [(a, .inr (11, [.ref a_tape, .ref a_fairReader, .ref a_ruleReader, .ref a_rules, .int a__ruleCount, .ref a_told, .ref a_scene, .ref a_spare, .ref a_past, .int 0, .int 0, .ref a_trials, .ref a_images, .ref a_pairs, .ref a_walker, .ref a_market, .int a__x]))] := hD
  refine W.widen (k := 0) (n := 0) (Nat.le_of_ble_eq_true rfl) (Nat.le_of_ble_eq_true rfl) ?_
  exact W.vret hx hb hr (fun t ht hW => ⟨⟨(), rfl, trivial, by rw [ht]; exact hP.sub [0] rfl, hD.sub [0] (by decide) rfl⟩, hS.F ht⟩) hS.2.2 dX11_forgetPast_10
theorem dX11_unseenBy_0 : decode cX11_unseenBy 0 = .ok (.aload_n 0, 1) := by decide +kernel
theorem dX11_unseenBy_1 : decode cX11_unseenBy 1 = .ok (.getfield 46, 3) := by decide +kernel
theorem dX11_unseenBy_4 : decode cX11_unseenBy 4 = .ok (.invokevirtual 323, 3) := by decide +kernel
theorem dX11_unseenBy_7 : decode cX11_unseenBy 7 = .ok (.aload_n 0, 1) := by decide +kernel
theorem dX11_unseenBy_8 : decode cX11_unseenBy 8 = .ok (.getfield 46, 3) := by decide +kernel
theorem dX11_unseenBy_11 : decode cX11_unseenBy 11 = .ok (.aload_n 0, 1) := by decide +kernel
theorem dX11_unseenBy_12 : decode cX11_unseenBy 12 = .ok (.getfield 39, 3) := by decide +kernel
theorem dX11_unseenBy_15 : decode cX11_unseenBy 15 = .ok (.getfield 169, 3) := by decide +kernel
theorem dX11_unseenBy_18 : decode cX11_unseenBy 18 = .ok (.iload_n 1, 1) := by decide +kernel
theorem dX11_unseenBy_19 : decode cX11_unseenBy 19 = .ok (.iaload, 1) := by decide +kernel
theorem dX11_unseenBy_20 : decode cX11_unseenBy 20 = .ok (.invokevirtual 172, 3) := by decide +kernel
theorem dX11_unseenBy_23 : decode cX11_unseenBy 23 = .ok (.iconst (-1), 1) := by decide +kernel
theorem dX11_unseenBy_24 : decode cX11_unseenBy 24 = .ok (.ixor, 1) := by decide +kernel
theorem dX11_unseenBy_25 : decode cX11_unseenBy 25 = .ok (.iand, 1) := by decide +kernel
theorem dX11_unseenBy_26 : decode cX11_unseenBy 26 = .ok (.ireturn, 1) := by decide +kernel
set_option maxHeartbeats 4000000 in
set_option maxRecDepth 100000 in
theorem c_X11_unseenBy (l : Launch) (D : va_G) (cs : Nat → ClassId) (kK kV : Nat → Nat) (a : Nat) (p0 : Int32) (a_tape : Nat) (a_fairReader : Nat) (a_ruleReader : Nat) (a_rules : Nat) (a__ruleCount : Int32) (a_told : Nat) (a_scene : Nat) (a_spare : Nat) (a_past : Nat) (a__pastFirst : Int32) (a__pastCount : Int32) (a_trials : Nat) (a_images : Nat) (a_pairs : Nat) (a_walker : Nat) (a_market : Nat) (a__x : Int32) (a_scene__hour : Int32) (a_scene_purse : Nat) (a_scene_spot : Nat) (a_scene_seen : Nat) (a_scene_has : Nat) (a_scene_at : Nat) (a_scene_at_c : Nat → Int32) (a_told__stalls : Int32) (a_told__shift : Int32) (a_told__halves : Int32) (a_told__buyers : Int32) (a_told__near : Int32) (a_told__dusk : Int32) (a_told__duskPrice : Int32) (a_told__hear : Int32) (a_told__forged : Int32) (a_told_stall : Nat) (a_told_shape : Nat) (a_told_side : Nat) (a_told_price : Nat) (a_told_purse : Nat) (a_told_spot : Nat) (a_told_club : Nat) (a_told_fitting : Nat) (a_told_nearly : Nat) (a_told_club_c : Nat → Int32) (a_scene_seen_c : Nat → Int32) (h_p0 : IV 0 3 p0) : Met l yX11_unseenBy (hz_w yX11_unseenBy cX11_unseenBy 2 (some .int)) ({ frames := 1, cells := 0, slots := 0, locals := 23 }) (va_Pc [.ref a, .int p0] (hz_P D cs kK kV [(a, .inr (11, [.ref a_tape, .ref a_fairReader, .ref a_ruleReader, .ref a_rules, .int a__ruleCount, .ref a_told, .ref a_scene, .ref a_spare, .ref a_past, .int a__pastFirst, .int a__pastCount, .ref a_trials, .ref a_images, .ref a_pairs, .ref a_walker, .ref a_market, .int a__x])), (a_scene, .inr (6, [.int a_scene__hour, .ref a_scene_purse, .ref a_scene_spot, .ref a_scene_seen, .ref a_scene_has, .ref a_scene_at])), (a_scene_at, .inl (cs 0, 8, .inl a_scene_at_c)), (a_told, .inr (8, [.int a_told__stalls, .int a_told__shift, .int a_told__halves, .int a_told__buyers, .int a_told__near, .int a_told__dusk, .int a_told__duskPrice, .int a_told__hear, .int a_told__forged, .ref a_told_stall, .ref a_told_shape, .ref a_told_side, .ref a_told_price, .ref a_told_purse, .ref a_told_spot, .ref a_told_club, .ref a_told_fitting, .ref a_told_nearly])), (a_told_club, .inl (cs 0, 4, .inl a_told_club_c)), (a_scene_seen, .inl (cs 0, 4, .inl a_scene_seen_c))])) (va_Qi (fun (r : Int32) (_ : Unit) => True) (fun _ t => True) (fun _ => False)) 0 0 (fun _ => False) := by
  refine Met.ofW (cc := cX11_unseenBy) (maxL := 2) (ret := (some .int)) (by decide) rfl ?_
  intro p e s m args below meth c s₁ B hml hv
  obtain ⟨rfl, hP, hE⟩ := hv
  have hx := B.exec
  have hb := B.bytes
  have hr := B.returns
  have hT : ∀ w ∈ TB, w.before _ s = true := fun w h => atoms_spec (ws := hz_w yX11_unseenBy cX11_unseenBy 2 (some .int)) B.pre w (List.mem_cons_of_mem _ h)
  have hown : s.vm.findClass RX11 = some m.cls := findClass_of_methodNamed B.named
  have hlocks := B.notSynchronized
  clear B
  have hS : va_S (fun _ => False) s.heap s.heap [] := va_S.rf
  have hK := hE.1
  have hl := lv_entry ([.ref a, .int p0]) (n := 2) (Nat.le_of_ble_eq_true rfl)
  rw [lg_entry_eq]
  generalize (lg_sl ([.ref a, .int p0]) ++ List.replicate (2 - (lg_sl ([.ref a, .int p0])).length) Slot.unset).toArray = ls at hl ⊢
  have hl : lv_has ls 2 [(0, .ref a), (1, .int p0)] := hl
  obtain ⟨H, eH⟩ : ∃ z, z = s.heap := ⟨_, rfl⟩
  have hP : va_P D classes [(a, .inr (11, [.ref a_tape, .ref a_fairReader, .ref a_ruleReader, .ref a_rules, .int a__ruleCount, .ref a_told, .ref a_scene, .ref a_spare, .ref a_past, .int a__pastFirst, .int a__pastCount, .ref a_trials, .ref a_images, .ref a_pairs, .ref a_walker, .ref a_market, .int a__x])), (a_scene, .inr (6, [.int a_scene__hour, .ref a_scene_purse, .ref a_scene_spot, .ref a_scene_seen, .ref a_scene_has, .ref a_scene_at])), (a_scene_at, .inl (cs 0, 8, .inl a_scene_at_c)), (a_told, .inr (8, [.int a_told__stalls, .int a_told__shift, .int a_told__halves, .int a_told__buyers, .int a_told__near, .int a_told__dusk, .int a_told__duskPrice, .int a_told__hear, .int a_told__forged, .ref a_told_stall, .ref a_told_shape, .ref a_told_side, .ref a_told_price, .ref a_told_purse, .ref a_told_spot, .ref a_told_club, .ref a_told_fitting, .ref a_told_nearly])), (a_told_club, .inl (cs 0, 4, .inl a_told_club_c)), (a_scene_seen, .inl (cs 0, 4, .inl a_scene_seen_c))] H := by rw [eH]; exact hP
  have hS : va_S (fun _ => False) s.heap H [] := by rw [eH]; exact hS
  rw [← eH]
  clear eH
  obtain ⟨locs, el⟩ : ∃ z : List Loc, z = [] := ⟨_, rfl⟩
  rw [← el] at hS ⊢
  clear el
  refine lv_aload_n hx hb dX11_unseenBy_0 rfl (lv_at hl 0 rfl) ?_
  refine va_get (D := D) (ci := 11) (v := .ref a_scene) (C := RX11) (T := TX11) (N := 17) hx hb hT i_X11 hown hK hP 0 rfl rfl 6 (by decide) (hT _ q_5) (fun _ h9 => h9) rfl dX11_unseenBy_1 ?_
  refine va_calli (va_runV (As := []) (rest := []) ⟨hx, hb, hml, hown, hT⟩ (c_X6_atStalls l D cs kK kV a_scene a_scene__hour a_scene_purse a_scene_spot a_scene_seen a_scene_has a_scene_at a_scene_at_c) (cwV 0 hT (hz_gV q_403 q_404 q_405 q_231 q_406) rfl rfl rfl (by decide +kernel) ⟨(Nat.le_of_ble_eq_true rfl), (Nat.le_of_ble_eq_true rfl)⟩) ⟨hz_P.blind, va_recv hK hP (ci := 6) (q0 := 1) rfl rfl, hz_P.mk (hP.sub (ws' := [(a_scene, .inr (6, [.int a_scene__hour, .ref a_scene_purse, .ref a_scene_spot, .ref a_scene_seen, .ref a_scene_has, .ref a_scene_at])), (a_scene_at, .inl (cs 0, 8, .inl a_scene_at_c))]) [1,2] rfl) hE hS⟩ rfl rfl hl.1 rfl (lv_room (Nat.le_of_ble_eq_true rfl)) dX11_unseenBy_4 ⟨(Nat.le_of_ble_eq_true rfl), (Nat.le_of_ble_eq_true rfl)⟩) hS (fun _ _ h => h.elim) (fun _ h => h.elim) (fun r1 u t H1 locs ht hvm hw hB hz1 hk1 hS => ?_)
  have hP := hz_keep hP hk1
  clear hk1 hB hz1
  generalize H1 = H at hP hS ⊢
  refine lv_aload_n hx hb dX11_unseenBy_7 rfl (lv_at hl 0 rfl) ?_
  refine va_get (D := D) (ci := 11) (v := .ref a_scene) (C := RX11) (T := TX11) (N := 17) hx hb hT i_X11 hown hK hP 0 rfl rfl 6 (by decide) (hT _ q_5) (fun _ h9 => h9) rfl dX11_unseenBy_8 ?_
  refine lv_aload_n hx hb dX11_unseenBy_11 rfl (lv_at hl 0 rfl) ?_
  refine va_get (D := D) (ci := 11) (v := .ref a_told) (C := RX11) (T := TX11) (N := 17) hx hb hT i_X11 hown hK hP 0 rfl rfl 5 (by decide) (hT _ q_4) (fun _ h9 => h9) rfl dX11_unseenBy_12 ?_
  refine va_get (D := D) (ci := 8) (v := .ref a_told_club) (C := RX8) (T := TX8) (N := 18) hx hb hT i_X8 hown hK hP 3 rfl rfl 15 (by decide) (hT _ q_25) (fun _ h9 => h9) rfl dX11_unseenBy_15 ?_
  refine lv_iload_n hx hb dX11_unseenBy_18 rfl (lv_at hl 1 rfl) ?_
  refine va_iald hx hb hK hP 4 0 rfl rfl (iv_v h_p0 (by decide) (by decide)) dX11_unseenBy_19 ?_
  refine lv_topi (fun v2 ev2 => ?_)
  refine va_calli (va_runV (As := [.int v2]) (rest := [.int r1]) ⟨hx, hb, hml, hown, hT⟩ (c_X6_sawBy l D cs kK kV a_scene v2 a_scene__hour a_scene_purse a_scene_spot a_scene_seen a_scene_has a_scene_at a_scene_seen_c) (cwV 1 hT (hz_gV q_270 q_271 q_272 q_231 q_273) rfl rfl rfl (by decide +kernel) ⟨(Nat.le_of_ble_eq_true rfl), (Nat.le_of_ble_eq_true rfl)⟩) ⟨hz_P.blind, va_recv hK hP (ci := 6) (q0 := 1) rfl rfl, hz_P.mk (hP.sub (ws' := [(a_scene, .inr (6, [.int a_scene__hour, .ref a_scene_purse, .ref a_scene_spot, .ref a_scene_seen, .ref a_scene_has, .ref a_scene_at])), (a_scene_seen, .inl (cs 0, 4, .inl a_scene_seen_c))]) [1,5] rfl) hE hS⟩ rfl rfl hl.1 rfl (lv_room (Nat.le_of_ble_eq_true rfl)) dX11_unseenBy_20 ⟨(Nat.le_of_ble_eq_true rfl), (Nat.le_of_ble_eq_true rfl)⟩) hS (fun _ _ h => h.elim) (fun _ h => h.elim) (fun r3 u t H1 locs ht hvm hw hB hz1 hk1 hS => ?_)
  have hP := hz_keep hP hk1
  clear hk1 hB hz1
  generalize H1 = H at hP hS ⊢
  refine lv_iconst (v := (-1)) hx hb dX11_unseenBy_23 (by decide) ?_
  refine lv_ixor hx hb dX11_unseenBy_24 ?_
  refine lv_topi (fun v4 ev4 => ?_)
  refine lv_iand hx hb dX11_unseenBy_25 ?_
  refine lv_topi (fun v5 ev5 => ?_)
  exact W.iret (v := v5) hx hb hr (fun t ht hW => ⟨⟨v5, (), rfl, trivial, trivial⟩, hS.F ht⟩) hS.2.2 dX11_unseenBy_26
theorem dX11_gainOf_0 : decode cX11_gainOf 0 = .ok (.aload_n 0, 1) := by decide +kernel
theorem dX11_gainOf_1 : decode cX11_gainOf 1 = .ok (.getfield 46, 3) := by decide +kernel
theorem dX11_gainOf_4 : decode cX11_gainOf 4 = .ok (.getfield 166, 3) := by decide +kernel
theorem dX11_gainOf_7 : decode cX11_gainOf 7 = .ok (.iload_n 1, 1) := by decide +kernel
theorem dX11_gainOf_8 : decode cX11_gainOf 8 = .ok (.iaload, 1) := by decide +kernel
theorem dX11_gainOf_9 : decode cX11_gainOf 9 = .ok (.istore_n 3, 1) := by decide +kernel
theorem dX11_gainOf_10 : decode cX11_gainOf 10 = .ok (.aload_n 0, 1) := by decide +kernel
theorem dX11_gainOf_11 : decode cX11_gainOf 11 = .ok (.getfield 73, 3) := by decide +kernel
theorem dX11_gainOf_14 : decode cX11_gainOf 14 = .ok (.iload_n 3, 1) := by decide +kernel
theorem dX11_gainOf_15 : decode cX11_gainOf 15 = .ok (.iconst 1, 1) := by decide +kernel
theorem dX11_gainOf_16 : decode cX11_gainOf 16 = .ok (.iload_n 2, 1) := by decide +kernel
theorem dX11_gainOf_17 : decode cX11_gainOf 17 = .ok (.ishl, 1) := by decide +kernel
theorem dX11_gainOf_18 : decode cX11_gainOf 18 = .ok (.ior, 1) := by decide +kernel
theorem dX11_gainOf_19 : decode cX11_gainOf 19 = .ok (.invokevirtual 175, 3) := by decide +kernel
theorem dX11_gainOf_22 : decode cX11_gainOf 22 = .ok (.aload_n 0, 1) := by decide +kernel
theorem dX11_gainOf_23 : decode cX11_gainOf 23 = .ok (.getfield 73, 3) := by decide +kernel
theorem dX11_gainOf_26 : decode cX11_gainOf 26 = .ok (.iload_n 3, 1) := by decide +kernel
theorem dX11_gainOf_27 : decode cX11_gainOf 27 = .ok (.invokevirtual 175, 3) := by decide +kernel
theorem dX11_gainOf_30 : decode cX11_gainOf 30 = .ok (.isub, 1) := by decide +kernel
theorem dX11_gainOf_31 : decode cX11_gainOf 31 = .ok (.ireturn, 1) := by decide +kernel
set_option maxHeartbeats 4000000 in
set_option maxRecDepth 100000 in
theorem c_X11_gainOf (l : Launch) (D : va_G) (cs : Nat → ClassId) (kK kV : Nat → Nat) (a : Nat) (p0 : Int32) (p1 : Int32) (a_tape : Nat) (a_fairReader : Nat) (a_ruleReader : Nat) (a_rules : Nat) (a__ruleCount : Int32) (a_told : Nat) (a_scene : Nat) (a_spare : Nat) (a_past : Nat) (a__pastFirst : Int32) (a__pastCount : Int32) (a_trials : Nat) (a_images : Nat) (a_pairs : Nat) (a_walker : Nat) (a_market : Nat) (a__x : Int32) (a_scene__hour : Int32) (a_scene_purse : Nat) (a_scene_spot : Nat) (a_scene_seen : Nat) (a_scene_has : Nat) (a_scene_at : Nat) (a_scene_has_c : Nat → Int32) (a_pairs_known : Nat) (a_pairs_known_c : Nat → Int32) (a_told__stalls : Int32) (a_told__shift : Int32) (a_told__halves : Int32) (a_told__buyers : Int32) (a_told__near : Int32) (a_told__dusk : Int32) (a_told__duskPrice : Int32) (a_told__hear : Int32) (a_told__forged : Int32) (a_told_stall : Nat) (a_told_shape : Nat) (a_told_side : Nat) (a_told_price : Nat) (a_told_purse : Nat) (a_told_spot : Nat) (a_told_club : Nat) (a_told_fitting : Nat) (a_told_nearly : Nat) (a_told_fitting_c : Nat → Int32) (a_told_nearly_c : Nat → Int32) (h_p0 : IV 0 3 p0) (h_p1 : IV 0 11 p1) (sz : Nat) : Met l yX11_gainOf (hz_w yX11_gainOf cX11_gainOf 4 (some .int)) ({ frames := 15, cells := 0, slots := 0, locals := 399 }) (va_Pc [.ref a, .int p0, .int p1] (hz_C D cs kK kV sz [(a, .inr (11, [.ref a_tape, .ref a_fairReader, .ref a_ruleReader, .ref a_rules, .int a__ruleCount, .ref a_told, .ref a_scene, .ref a_spare, .ref a_past, .int a__pastFirst, .int a__pastCount, .ref a_trials, .ref a_images, .ref a_pairs, .ref a_walker, .ref a_market, .int a__x])), (a_scene, .inr (6, [.int a_scene__hour, .ref a_scene_purse, .ref a_scene_spot, .ref a_scene_seen, .ref a_scene_has, .ref a_scene_at])), (a_scene_has, .inl (cs 0, 4, .inl a_scene_has_c)), (a_pairs, .inr (3, [.ref a_told, .ref a_pairs_known])), (a_pairs_known, .inl (cs 0, 4096, .inl a_pairs_known_c)), (a_told, .inr (8, [.int a_told__stalls, .int a_told__shift, .int a_told__halves, .int a_told__buyers, .int a_told__near, .int a_told__dusk, .int a_told__duskPrice, .int a_told__hear, .int a_told__forged, .ref a_told_stall, .ref a_told_shape, .ref a_told_side, .ref a_told_price, .ref a_told_purse, .ref a_told_spot, .ref a_told_club, .ref a_told_fitting, .ref a_told_nearly])), (a_told_fitting, .inl (cs 0, 12, .inl a_told_fitting_c)), (a_told_nearly, .inl (cs 0, 12, .inl a_told_nearly_c))])) (va_Qi (fun (r : Int32) (_ : Unit) => True) (fun _ t => ∃ (o_a_pairs_known_c : Nat → Int32), va_P D classes [(a, .inr (11, [.ref a_tape, .ref a_fairReader, .ref a_ruleReader, .ref a_rules, .int a__ruleCount, .ref a_told, .ref a_scene, .ref a_spare, .ref a_past, .int a__pastFirst, .int a__pastCount, .ref a_trials, .ref a_images, .ref a_pairs, .ref a_walker, .ref a_market, .int a__x])), (a_scene, .inr (6, [.int a_scene__hour, .ref a_scene_purse, .ref a_scene_spot, .ref a_scene_seen, .ref a_scene_has, .ref a_scene_at])), (a_scene_has, .inl (cs 0, 4, .inl a_scene_has_c)), (a_pairs, .inr (3, [.ref a_told, .ref a_pairs_known])), (a_pairs_known, .inl (cs 0, 4096, .inl o_a_pairs_known_c)), (a_told, .inr (8, [.int a_told__stalls, .int a_told__shift, .int a_told__halves, .int a_told__buyers, .int a_told__near, .int a_told__dusk, .int a_told__duskPrice, .int a_told__hear, .int a_told__forged, .ref a_told_stall, .ref a_told_shape, .ref a_told_side, .ref a_told_price, .ref a_told_purse, .ref a_told_spot, .ref a_told_club, .ref a_told_fitting, .ref a_told_nearly])), (a_told_fitting, .inl (cs 0, 12, .inl a_told_fitting_c)), (a_told_nearly, .inl (cs 0, 12, .inl a_told_nearly_c))] t.heap ∧ va_D (va_A [(a, .inr (11, [.ref a_tape, .ref a_fairReader, .ref a_ruleReader, .ref a_rules, .int a__ruleCount, .ref a_told, .ref a_scene, .ref a_spare, .ref a_past, .int a__pastFirst, .int a__pastCount, .ref a_trials, .ref a_images, .ref a_pairs, .ref a_walker, .ref a_market, .int a__x])), (a_scene, .inr (6, [.int a_scene__hour, .ref a_scene_purse, .ref a_scene_spot, .ref a_scene_seen, .ref a_scene_has, .ref a_scene_at])), (a_scene_has, .inl (cs 0, 4, .inl a_scene_has_c)), (a_pairs, .inr (3, [.ref a_told, .ref a_pairs_known])), (a_pairs_known, .inl (cs 0, 4096, .inl a_pairs_known_c)), (a_told, .inr (8, [.int a_told__stalls, .int a_told__shift, .int a_told__halves, .int a_told__buyers, .int a_told__near, .int a_told__dusk, .int a_told__duskPrice, .int a_told__hear, .int a_told__forged, .ref a_told_stall, .ref a_told_shape, .ref a_told_side, .ref a_told_price, .ref a_told_purse, .ref a_told_spot, .ref a_told_club, .ref a_told_fitting, .ref a_told_nearly])), (a_told_fitting, .inl (cs 0, 12, .inl a_told_fitting_c)), (a_told_nearly, .inl (cs 0, 12, .inl a_told_nearly_c))] sz) [(a, .inr (11, [.ref a_tape, .ref a_fairReader, .ref a_ruleReader, .ref a_rules, .int a__ruleCount, .ref a_told, .ref a_scene, .ref a_spare, .ref a_past, .int a__pastFirst, .int a__pastCount, .ref a_trials, .ref a_images, .ref a_pairs, .ref a_walker, .ref a_market, .int a__x])), (a_scene, .inr (6, [.int a_scene__hour, .ref a_scene_purse, .ref a_scene_spot, .ref a_scene_seen, .ref a_scene_has, .ref a_scene_at])), (a_scene_has, .inl (cs 0, 4, .inl a_scene_has_c)), (a_pairs, .inr (3, [.ref a_told, .ref a_pairs_known])), (a_pairs_known, .inl (cs 0, 4096, .inl o_a_pairs_known_c)), (a_told, .inr (8, [.int a_told__stalls, .int a_told__shift, .int a_told__halves, .int a_told__buyers, .int a_told__near, .int a_told__dusk, .int a_told__duskPrice, .int a_told__hear, .int a_told__forged, .ref a_told_stall, .ref a_told_shape, .ref a_told_side, .ref a_told_price, .ref a_told_purse, .ref a_told_spot, .ref a_told_club, .ref a_told_fitting, .ref a_told_nearly])), (a_told_fitting, .inl (cs 0, 12, .inl a_told_fitting_c)), (a_told_nearly, .inl (cs 0, 12, .inl a_told_nearly_c))]) (va_A [(a, .inr (11, [.ref a_tape, .ref a_fairReader, .ref a_ruleReader, .ref a_rules, .int a__ruleCount, .ref a_told, .ref a_scene, .ref a_spare, .ref a_past, .int a__pastFirst, .int a__pastCount, .ref a_trials, .ref a_images, .ref a_pairs, .ref a_walker, .ref a_market, .int a__x])), (a_scene, .inr (6, [.int a_scene__hour, .ref a_scene_purse, .ref a_scene_spot, .ref a_scene_seen, .ref a_scene_has, .ref a_scene_at])), (a_scene_has, .inl (cs 0, 4, .inl a_scene_has_c)), (a_pairs, .inr (3, [.ref a_told, .ref a_pairs_known])), (a_pairs_known, .inl (cs 0, 4096, .inl a_pairs_known_c)), (a_told, .inr (8, [.int a_told__stalls, .int a_told__shift, .int a_told__halves, .int a_told__buyers, .int a_told__near, .int a_told__dusk, .int a_told__duskPrice, .int a_told__hear, .int a_told__forged, .ref a_told_stall, .ref a_told_shape, .ref a_told_side, .ref a_told_price, .ref a_told_purse, .ref a_told_spot, .ref a_told_club, .ref a_told_fitting, .ref a_told_nearly])), (a_told_fitting, .inl (cs 0, 12, .inl a_told_fitting_c)), (a_told_nearly, .inl (cs 0, 12, .inl a_told_nearly_c))] sz)) 0 0 (va_A [(a, .inr (11, [.ref a_tape, .ref a_fairReader, .ref a_ruleReader, .ref a_rules, .int a__ruleCount, .ref a_told, .ref a_scene, .ref a_spare, .ref a_past, .int a__pastFirst, .int a__pastCount, .ref a_trials, .ref a_images, .ref a_pairs, .ref a_walker, .ref a_market, .int a__x])), (a_scene, .inr (6, [.int a_scene__hour, .ref a_scene_purse, .ref a_scene_spot, .ref a_scene_seen, .ref a_scene_has, .ref a_scene_at])), (a_scene_has, .inl (cs 0, 4, .inl a_scene_has_c)), (a_pairs, .inr (3, [.ref a_told, .ref a_pairs_known])), (a_pairs_known, .inl (cs 0, 4096, .inl a_pairs_known_c)), (a_told, .inr (8, [.int a_told__stalls, .int a_told__shift, .int a_told__halves, .int a_told__buyers, .int a_told__near, .int a_told__dusk, .int a_told__duskPrice, .int a_told__hear, .int a_told__forged, .ref a_told_stall, .ref a_told_shape, .ref a_told_side, .ref a_told_price, .ref a_told_purse, .ref a_told_spot, .ref a_told_club, .ref a_told_fitting, .ref a_told_nearly])), (a_told_fitting, .inl (cs 0, 12, .inl a_told_fitting_c)), (a_told_nearly, .inl (cs 0, 12, .inl a_told_nearly_c))] sz) := by
  refine Met.ofW (cc := cX11_gainOf) (maxL := 4) (ret := (some .int)) (by decide) rfl ?_
  intro p e s m args below meth c s₁ B hml hv
  obtain ⟨rfl, hsz, hP, hD0, hE⟩ := hv
  have hx := B.exec
  have hb := B.bytes
  have hr := B.returns
  have hT : ∀ w ∈ TB, w.before _ s = true := fun w h => atoms_spec (ws := hz_w yX11_gainOf cX11_gainOf 4 (some .int)) B.pre w (List.mem_cons_of_mem _ h)
  have hown : s.vm.findClass RX11 = some m.cls := findClass_of_methodNamed B.named
  have hlocks := B.notSynchronized
  clear B
  subst hsz
  have hD := hD0.self (sz := s.heap.size)
  generalize hAe : va_A [(a, .inr (11, [.ref a_tape, .ref a_fairReader, .ref a_ruleReader, .ref a_rules, .int a__ruleCount, .ref a_told, .ref a_scene, .ref a_spare, .ref a_past, .int a__pastFirst, .int a__pastCount, .ref a_trials, .ref a_images, .ref a_pairs, .ref a_walker, .ref a_market, .int a__x])), (a_scene, .inr (6, [.int a_scene__hour, .ref a_scene_purse, .ref a_scene_spot, .ref a_scene_seen, .ref a_scene_has, .ref a_scene_at])), (a_scene_has, .inl (cs 0, 4, .inl a_scene_has_c)), (a_pairs, .inr (3, [.ref a_told, .ref a_pairs_known])), (a_pairs_known, .inl (cs 0, 4096, .inl a_pairs_known_c)), (a_told, .inr (8, [.int a_told__stalls, .int a_told__shift, .int a_told__halves, .int a_told__buyers, .int a_told__near, .int a_told__dusk, .int a_told__duskPrice, .int a_told__hear, .int a_told__forged, .ref a_told_stall, .ref a_told_shape, .ref a_told_side, .ref a_told_price, .ref a_told_purse, .ref a_told_spot, .ref a_told_club, .ref a_told_fitting, .ref a_told_nearly])), (a_told_fitting, .inl (cs 0, 12, .inl a_told_fitting_c)), (a_told_nearly, .inl (cs 0, 12, .inl a_told_nearly_c))] s.heap.size = A at hD hE ⊢
  have hA : ∀ q : Nat, s.heap.size ≤ q → A q := fun q h => by rw [← hAe]; exact Or.inr h
  clear hAe hD0
  have hS : va_S A s.heap s.heap [] := va_S.rf
  have hK := hE.1
  have hl := lv_entry ([.ref a, .int p0, .int p1]) (n := 4) (Nat.le_of_ble_eq_true rfl)
  rw [lg_entry_eq]
  generalize (lg_sl ([.ref a, .int p0, .int p1]) ++ List.replicate (4 - (lg_sl ([.ref a, .int p0, .int p1])).length) Slot.unset).toArray = ls at hl ⊢
  have hl : lv_has ls 4 [(0, .ref a), (1, .int p0), (2, .int p1)] := hl
  obtain ⟨H, eH⟩ : ∃ z, z = s.heap := ⟨_, rfl⟩
  have hP : va_P D classes [(a, .inr (11, [.ref a_tape, .ref a_fairReader, .ref a_ruleReader, .ref a_rules, .int a__ruleCount, .ref a_told, .ref a_scene, .ref a_spare, .ref a_past, .int a__pastFirst, .int a__pastCount, .ref a_trials, .ref a_images, .ref a_pairs, .ref a_walker, .ref a_market, .int a__x])), (a_scene, .inr (6, [.int a_scene__hour, .ref a_scene_purse, .ref a_scene_spot, .ref a_scene_seen, .ref a_scene_has, .ref a_scene_at])), (a_scene_has, .inl (cs 0, 4, .inl a_scene_has_c)), (a_pairs, .inr (3, [.ref a_told, .ref a_pairs_known])), (a_pairs_known, .inl (cs 0, 4096, .inl a_pairs_known_c)), (a_told, .inr (8, [.int a_told__stalls, .int a_told__shift, .int a_told__halves, .int a_told__buyers, .int a_told__near, .int a_told__dusk, .int a_told__duskPrice, .int a_told__hear, .int a_told__forged, .ref a_told_stall, .ref a_told_shape, .ref a_told_side, .ref a_told_price, .ref a_told_purse, .ref a_told_spot, .ref a_told_club, .ref a_told_fitting, .ref a_told_nearly])), (a_told_fitting, .inl (cs 0, 12, .inl a_told_fitting_c)), (a_told_nearly, .inl (cs 0, 12, .inl a_told_nearly_c))] H := by rw [eH]; exact hP
  have hS : va_S A s.heap H [] := by rw [eH]; exact hS
  rw [← eH]
  clear eH
  obtain ⟨locs, el⟩ : ∃ z : List Loc, z = [] := ⟨_, rfl⟩
  rw [← el] at hS ⊢
  clear el
  refine lv_aload_n hx hb dX11_gainOf_0 rfl (lv_at hl 0 rfl) ?_
  refine va_get (D := D) (ci := 11) (v := .ref a_scene) (C := RX11) (T := TX11) (N := 17) hx hb hT i_X11 hown hK hP 0 rfl rfl 6 (by decide) (hT _ q_5) (fun _ h9 => h9) rfl dX11_gainOf_1 ?_
  refine va_get (D := D) (ci := 6) (v := .ref a_scene_has) (C := RX6) (T := TX6) (N := 6) hx hb hT i_X6 hown hK hP 1 rfl rfl 4 (by decide) (hT _ q_24) (fun _ h9 => h9) rfl dX11_gainOf_4 ?_
  refine lv_iload_n hx hb dX11_gainOf_7 rfl (lv_at hl 1 rfl) ?_
  refine va_iald hx hb hK hP 2 0 rfl rfl (iv_v h_p0 (by decide) (by decide)) dX11_gainOf_8 ?_
  refine lv_topi (fun v1 ev1 => ?_)
  refine lv_istore_n (lv' := [(3, .int v1), (0, .ref a), (1, .int p0), (2, .int p1)]) hx hb dX11_gainOf_9 rfl hl (by decide) rfl (fun ls hl => ?_)
  refine lv_aload_n hx hb dX11_gainOf_10 rfl (lv_at hl 1 rfl) ?_
  refine va_get (D := D) (ci := 11) (v := .ref a_pairs) (C := RX11) (T := TX11) (N := 17) hx hb hT i_X11 hown hK hP 0 rfl rfl 13 (by decide) (hT _ q_10) (fun _ h9 => h9) rfl dX11_gainOf_11 ?_
  refine lv_iload_n hx hb dX11_gainOf_14 rfl (lv_at hl 0 rfl) ?_
  refine lv_iconst (v := 1) hx hb dX11_gainOf_15 (by decide) ?_
  refine lv_iload_n hx hb dX11_gainOf_16 rfl (lv_at hl 3 rfl) ?_
  refine lv_ishl hx hb dX11_gainOf_17 ?_
  refine lv_topi (fun v2 ev2 => ?_)
  have hv2 : IV 1 2048 v2 := iv_shl1 ev2 h_p1 (by decide) (by decide) (by decide)
  refine lv_ior hx hb dX11_gainOf_18 ?_
  refine lv_topi (fun v3 ev3 => ?_)
  have hFc := va_free (wc := [(a_pairs, .inr (3, [.ref a_told, .ref a_pairs_known])), (a_pairs_known, .inl (cs 0, 4096, .inl a_pairs_known_c)), (a_told, .inr (8, [.int a_told__stalls, .int a_told__shift, .int a_told__halves, .int a_told__buyers, .int a_told__near, .int a_told__dusk, .int a_told__duskPrice, .int a_told__hear, .int a_told__forged, .ref a_told_stall, .ref a_told_shape, .ref a_told_side, .ref a_told_price, .ref a_told_purse, .ref a_told_spot, .ref a_told_club, .ref a_told_fitting, .ref a_told_nearly])), (a_told_fitting, .inl (cs 0, 12, .inl a_told_fitting_c)), (a_told_nearly, .inl (cs 0, 12, .inl a_told_nearly_c))]) hD hS hA [3,4,5,6,7] rfl
  refine va_calli (va_runV (As := [.int v3]) (rest := []) ⟨hx, hb, hml, hown, hT⟩ (c_X3_mostOf l D cs kK kV a_pairs v3 a_told a_pairs_known a_pairs_known_c a_told__stalls a_told__shift a_told__halves a_told__buyers a_told__near a_told__dusk a_told__duskPrice a_told__hear a_told__forged a_told_stall a_told_shape a_told_side a_told_price a_told_purse a_told_spot a_told_club a_told_fitting a_told_nearly a_told_fitting_c a_told_nearly_c H.size) (cwV 1 hT (hz_gV q_274 q_275 q_276 q_236 q_277) rfl rfl rfl (by decide +kernel) ⟨(Nat.le_of_ble_eq_true rfl), (Nat.le_of_ble_eq_true rfl)⟩) ⟨hz_C.blind, va_recv hK hP (ci := 3) (q0 := 3) rfl rfl, hz_C.mk (hP.sub (ws' := [(a_pairs, .inr (3, [.ref a_told, .ref a_pairs_known])), (a_pairs_known, .inl (cs 0, 4096, .inl a_pairs_known_c)), (a_told, .inr (8, [.int a_told__stalls, .int a_told__shift, .int a_told__halves, .int a_told__buyers, .int a_told__near, .int a_told__dusk, .int a_told__duskPrice, .int a_told__hear, .int a_told__forged, .ref a_told_stall, .ref a_told_shape, .ref a_told_side, .ref a_told_price, .ref a_told_purse, .ref a_told_spot, .ref a_told_club, .ref a_told_fitting, .ref a_told_nearly])), (a_told_fitting, .inl (cs 0, 12, .inl a_told_fitting_c)), (a_told_nearly, .inl (cs 0, 12, .inl a_told_nearly_c))]) [3,4,5,6,7] rfl) (hD.sub (ws' := [(a_pairs, .inr (3, [.ref a_told, .ref a_pairs_known])), (a_pairs_known, .inl (cs 0, 4096, .inl a_pairs_known_c)), (a_told, .inr (8, [.int a_told__stalls, .int a_told__shift, .int a_told__halves, .int a_told__buyers, .int a_told__near, .int a_told__dusk, .int a_told__duskPrice, .int a_told__hear, .int a_told__forged, .ref a_told_stall, .ref a_told_shape, .ref a_told_side, .ref a_told_price, .ref a_told_purse, .ref a_told_spot, .ref a_told_club, .ref a_told_fitting, .ref a_told_nearly])), (a_told_fitting, .inl (cs 0, 12, .inl a_told_fitting_c)), (a_told_nearly, .inl (cs 0, 12, .inl a_told_nearly_c))]) [3,4,5,6,7] (by decide) rfl) hE hS hFc⟩ rfl rfl hl.1 rfl (lv_room (Nat.le_of_ble_eq_true rfl)) dX11_gainOf_19 ⟨(Nat.le_of_ble_eq_true rfl), (Nat.le_of_ble_eq_true rfl)⟩) hS (fun q _ h => hFc q h) hFc (fun r4 u t H1 locs ht hvm hw hB hz1 hk1 hS => ?_)
  obtain ⟨o5, hP1, hD1⟩ := hB
  rw [ht] at hP1
  obtain ⟨hP, hD⟩ := va_join (wr := [(a, .inr (11, [.ref a_tape, .ref a_fairReader, .ref a_ruleReader, .ref a_rules, .int a__ruleCount, .ref a_told, .ref a_scene, .ref a_spare, .ref a_past, .int a__pastFirst, .int a__pastCount, .ref a_trials, .ref a_images, .ref a_pairs, .ref a_walker, .ref a_market, .int a__x])), (a_scene, .inr (6, [.int a_scene__hour, .ref a_scene_purse, .ref a_scene_spot, .ref a_scene_seen, .ref a_scene_has, .ref a_scene_at])), (a_scene_has, .inl (cs 0, 4, .inl a_scene_has_c))]) (w1 := [(a_pairs, .inr (3, [.ref a_told, .ref a_pairs_known])), (a_pairs_known, .inl (cs 0, 4096, .inl o5)), (a_told, .inr (8, [.int a_told__stalls, .int a_told__shift, .int a_told__halves, .int a_told__buyers, .int a_told__near, .int a_told__dusk, .int a_told__duskPrice, .int a_told__hear, .int a_told__forged, .ref a_told_stall, .ref a_told_shape, .ref a_told_side, .ref a_told_price, .ref a_told_purse, .ref a_told_spot, .ref a_told_club, .ref a_told_fitting, .ref a_told_nearly])), (a_told_fitting, .inl (cs 0, 12, .inl a_told_fitting_c)), (a_told_nearly, .inl (cs 0, 12, .inl a_told_nearly_c))]) hP hD [3, 4, 5, 6, 7] [0, 1, 2] rfl rfl (by decide) (by decide) hk1 hFc hP1 hD1
  generalize H1 = H at hP hS ⊢
  have hP : va_P D classes [(a, .inr (11, [.ref a_tape, .ref a_fairReader, .ref a_ruleReader, .ref a_rules, .int a__ruleCount, .ref a_told, .ref a_scene, .ref a_spare, .ref a_past, .int a__pastFirst, .int a__pastCount, .ref a_trials, .ref a_images, .ref a_pairs, .ref a_walker, .ref a_market, .int a__x])), (a_scene, .inr (6, [.int a_scene__hour, .ref a_scene_purse, .ref a_scene_spot, .ref a_scene_seen, .ref a_scene_has, .ref a_scene_at])), (a_scene_has, .inl (cs 0, 4, .inl a_scene_has_c)), (a_pairs, .inr (3, [.ref a_told, .ref a_pairs_known])), (a_pairs_known, .inl (cs 0, 4096, .inl o5)), (a_told, .inr (8, [.int a_told__stalls, .int a_told__shift, .int a_told__halves, .int a_told__buyers, .int a_told__near, .int a_told__dusk, .int a_told__duskPrice, .int a_told__hear, .int a_told__forged, .ref a_told_stall, .ref a_told_shape, .ref a_told_side, .ref a_told_price, .ref a_told_purse, .ref a_told_spot, .ref a_told_club, .ref a_told_fitting, .ref a_told_nearly])), (a_told_fitting, .inl (cs 0, 12, .inl a_told_fitting_c)), (a_told_nearly, .inl (cs 0, 12, .inl a_told_nearly_c))] H := hP
  have hD : va_D A [(a, .inr (11, [.ref a_tape, .ref a_fairReader, .ref a_ruleReader, .ref a_rules, .int a__ruleCount, .ref a_told, .ref a_scene, .ref a_spare, .ref a_past, .int a__pastFirst, .int a__pastCount, .ref a_trials, .ref a_images, .ref a_pairs, .ref a_walker, .ref a_market, .int a__x])), (a_scene, .inr (6, [.int a_scene__hour, .ref a_scene_purse, .ref a_scene_spot, .ref a_scene_seen, .ref a_scene_has, .ref a_scene_at])), (a_scene_has, .inl (cs 0, 4, .inl a_scene_has_c)), (a_pairs, .inr (3, [.ref a_told, .ref a_pairs_known])), (a_pairs_known, .inl (cs 0, 4096, .inl o5)), (a_told, .inr (8, [.int a_told__stalls, .int a_told__shift, .int a_told__halves, .int a_told__buyers, .int a_told__near, .int a_told__dusk, .int a_told__duskPrice, .int a_told__hear, .int a_told__forged, .ref a_told_stall, .ref a_told_shape, .ref a_told_side, .ref a_told_price, .ref a_told_purse, .ref a_told_spot, .ref a_told_club, .ref a_told_fitting, .ref a_told_nearly])), (a_told_fitting, .inl (cs 0, 12, .inl a_told_fitting_c)), (a_told_nearly, .inl (cs 0, 12, .inl a_told_nearly_c))] := hD
  clear hk1 hFc hP1 hD1 hz1
  refine lv_aload_n hx hb dX11_gainOf_22 rfl (lv_at hl 1 rfl) ?_
  refine va_get (D := D) (ci := 11) (v := .ref a_pairs) (C := RX11) (T := TX11) (N := 17) hx hb hT i_X11 hown hK hP 0 rfl rfl 13 (by decide) (hT _ q_10) (fun _ h9 => h9) rfl dX11_gainOf_23 ?_
  refine lv_iload_n hx hb dX11_gainOf_26 rfl (lv_at hl 0 rfl) ?_
  have hFc := va_free (wc := [(a_pairs, .inr (3, [.ref a_told, .ref a_pairs_known])), (a_pairs_known, .inl (cs 0, 4096, .inl o5)), (a_told, .inr (8, [.int a_told__stalls, .int a_told__shift, .int a_told__halves, .int a_told__buyers, .int a_told__near, .int a_told__dusk, .int a_told__duskPrice, .int a_told__hear, .int a_told__forged, .ref a_told_stall, .ref a_told_shape, .ref a_told_side, .ref a_told_price, .ref a_told_purse, .ref a_told_spot, .ref a_told_club, .ref a_told_fitting, .ref a_told_nearly])), (a_told_fitting, .inl (cs 0, 12, .inl a_told_fitting_c)), (a_told_nearly, .inl (cs 0, 12, .inl a_told_nearly_c))]) hD hS hA [3,4,5,6,7] rfl
  refine va_calli (va_runV (As := [.int v1]) (rest := [.int r4]) ⟨hx, hb, hml, hown, hT⟩ (c_X3_mostOf l D cs kK kV a_pairs v1 a_told a_pairs_known o5 a_told__stalls a_told__shift a_told__halves a_told__buyers a_told__near a_told__dusk a_told__duskPrice a_told__hear a_told__forged a_told_stall a_told_shape a_told_side a_told_price a_told_purse a_told_spot a_told_club a_told_fitting a_told_nearly a_told_fitting_c a_told_nearly_c H.size) (cwV 1 hT (hz_gV q_274 q_275 q_276 q_236 q_277) rfl rfl rfl (by decide +kernel) ⟨(Nat.le_of_ble_eq_true rfl), (Nat.le_of_ble_eq_true rfl)⟩) ⟨hz_C.blind, va_recv hK hP (ci := 3) (q0 := 3) rfl rfl, hz_C.mk (hP.sub (ws' := [(a_pairs, .inr (3, [.ref a_told, .ref a_pairs_known])), (a_pairs_known, .inl (cs 0, 4096, .inl o5)), (a_told, .inr (8, [.int a_told__stalls, .int a_told__shift, .int a_told__halves, .int a_told__buyers, .int a_told__near, .int a_told__dusk, .int a_told__duskPrice, .int a_told__hear, .int a_told__forged, .ref a_told_stall, .ref a_told_shape, .ref a_told_side, .ref a_told_price, .ref a_told_purse, .ref a_told_spot, .ref a_told_club, .ref a_told_fitting, .ref a_told_nearly])), (a_told_fitting, .inl (cs 0, 12, .inl a_told_fitting_c)), (a_told_nearly, .inl (cs 0, 12, .inl a_told_nearly_c))]) [3,4,5,6,7] rfl) (hD.sub (ws' := [(a_pairs, .inr (3, [.ref a_told, .ref a_pairs_known])), (a_pairs_known, .inl (cs 0, 4096, .inl o5)), (a_told, .inr (8, [.int a_told__stalls, .int a_told__shift, .int a_told__halves, .int a_told__buyers, .int a_told__near, .int a_told__dusk, .int a_told__duskPrice, .int a_told__hear, .int a_told__forged, .ref a_told_stall, .ref a_told_shape, .ref a_told_side, .ref a_told_price, .ref a_told_purse, .ref a_told_spot, .ref a_told_club, .ref a_told_fitting, .ref a_told_nearly])), (a_told_fitting, .inl (cs 0, 12, .inl a_told_fitting_c)), (a_told_nearly, .inl (cs 0, 12, .inl a_told_nearly_c))]) [3,4,5,6,7] (by decide) rfl) hE hS hFc⟩ rfl rfl hl.1 rfl (lv_room (Nat.le_of_ble_eq_true rfl)) dX11_gainOf_27 ⟨(Nat.le_of_ble_eq_true rfl), (Nat.le_of_ble_eq_true rfl)⟩) hS (fun q _ h => hFc q h) hFc (fun r6 u t H1 locs ht hvm hw hB hz1 hk1 hS => ?_)
  obtain ⟨o7, hP1, hD1⟩ := hB
  rw [ht] at hP1
  obtain ⟨hP, hD⟩ := va_join (wr := [(a, .inr (11, [.ref a_tape, .ref a_fairReader, .ref a_ruleReader, .ref a_rules, .int a__ruleCount, .ref a_told, .ref a_scene, .ref a_spare, .ref a_past, .int a__pastFirst, .int a__pastCount, .ref a_trials, .ref a_images, .ref a_pairs, .ref a_walker, .ref a_market, .int a__x])), (a_scene, .inr (6, [.int a_scene__hour, .ref a_scene_purse, .ref a_scene_spot, .ref a_scene_seen, .ref a_scene_has, .ref a_scene_at])), (a_scene_has, .inl (cs 0, 4, .inl a_scene_has_c))]) (w1 := [(a_pairs, .inr (3, [.ref a_told, .ref a_pairs_known])), (a_pairs_known, .inl (cs 0, 4096, .inl o7)), (a_told, .inr (8, [.int a_told__stalls, .int a_told__shift, .int a_told__halves, .int a_told__buyers, .int a_told__near, .int a_told__dusk, .int a_told__duskPrice, .int a_told__hear, .int a_told__forged, .ref a_told_stall, .ref a_told_shape, .ref a_told_side, .ref a_told_price, .ref a_told_purse, .ref a_told_spot, .ref a_told_club, .ref a_told_fitting, .ref a_told_nearly])), (a_told_fitting, .inl (cs 0, 12, .inl a_told_fitting_c)), (a_told_nearly, .inl (cs 0, 12, .inl a_told_nearly_c))]) hP hD [3, 4, 5, 6, 7] [0, 1, 2] rfl rfl (by decide) (by decide) hk1 hFc hP1 hD1
  generalize H1 = H at hP hS ⊢
  have hP : va_P D classes [(a, .inr (11, [.ref a_tape, .ref a_fairReader, .ref a_ruleReader, .ref a_rules, .int a__ruleCount, .ref a_told, .ref a_scene, .ref a_spare, .ref a_past, .int a__pastFirst, .int a__pastCount, .ref a_trials, .ref a_images, .ref a_pairs, .ref a_walker, .ref a_market, .int a__x])), (a_scene, .inr (6, [.int a_scene__hour, .ref a_scene_purse, .ref a_scene_spot, .ref a_scene_seen, .ref a_scene_has, .ref a_scene_at])), (a_scene_has, .inl (cs 0, 4, .inl a_scene_has_c)), (a_pairs, .inr (3, [.ref a_told, .ref a_pairs_known])), (a_pairs_known, .inl (cs 0, 4096, .inl o7)), (a_told, .inr (8, [.int a_told__stalls, .int a_told__shift, .int a_told__halves, .int a_told__buyers, .int a_told__near, .int a_told__dusk, .int a_told__duskPrice, .int a_told__hear, .int a_told__forged, .ref a_told_stall, .ref a_told_shape, .ref a_told_side, .ref a_told_price, .ref a_told_purse, .ref a_told_spot, .ref a_told_club, .ref a_told_fitting, .ref a_told_nearly])), (a_told_fitting, .inl (cs 0, 12, .inl a_told_fitting_c)), (a_told_nearly, .inl (cs 0, 12, .inl a_told_nearly_c))] H := hP
  have hD : va_D A [(a, .inr (11, [.ref a_tape, .ref a_fairReader, .ref a_ruleReader, .ref a_rules, .int a__ruleCount, .ref a_told, .ref a_scene, .ref a_spare, .ref a_past, .int a__pastFirst, .int a__pastCount, .ref a_trials, .ref a_images, .ref a_pairs, .ref a_walker, .ref a_market, .int a__x])), (a_scene, .inr (6, [.int a_scene__hour, .ref a_scene_purse, .ref a_scene_spot, .ref a_scene_seen, .ref a_scene_has, .ref a_scene_at])), (a_scene_has, .inl (cs 0, 4, .inl a_scene_has_c)), (a_pairs, .inr (3, [.ref a_told, .ref a_pairs_known])), (a_pairs_known, .inl (cs 0, 4096, .inl o7)), (a_told, .inr (8, [.int a_told__stalls, .int a_told__shift, .int a_told__halves, .int a_told__buyers, .int a_told__near, .int a_told__dusk, .int a_told__duskPrice, .int a_told__hear, .int a_told__forged, .ref a_told_stall, .ref a_told_shape, .ref a_told_side, .ref a_told_price, .ref a_told_purse, .ref a_told_spot, .ref a_told_club, .ref a_told_fitting, .ref a_told_nearly])), (a_told_fitting, .inl (cs 0, 12, .inl a_told_fitting_c)), (a_told_nearly, .inl (cs 0, 12, .inl a_told_nearly_c))] := hD
  clear hk1 hFc hP1 hD1 hz1
  refine lv_isub hx hb dX11_gainOf_30 ?_
  refine lv_topi (fun v8 ev8 => ?_)
  refine W.widen (k := 0) (n := 0) (Nat.le_of_ble_eq_true rfl) (Nat.le_of_ble_eq_true rfl) ?_
  exact W.iret (v := v8) hx hb hr (fun t ht hW => ⟨⟨v8, (), rfl, trivial, o7, by rw [ht]; exact hP.sub [0, 1, 2, 3, 4, 5, 6, 7] rfl, hD.sub [0, 1, 2, 3, 4, 5, 6, 7] (by decide) rfl⟩, hS.F ht⟩) hS.2.2 dX11_gainOf_31
theorem dX11_fittingShape_0 : decode cX11_fittingShape 0 = .ok (.iconst 0, 1) := by decide +kernel
theorem dX11_fittingShape_1 : decode cX11_fittingShape 1 = .ok (.istore_n 3, 1) := by decide +kernel
theorem dX11_fittingShape_2 : decode cX11_fittingShape 2 = .ok (.iconst 0, 1) := by decide +kernel
theorem dX11_fittingShape_3 : decode cX11_fittingShape 3 = .ok (.istore 4, 2) := by decide +kernel
theorem dX11_fittingShape_5 : decode cX11_fittingShape 5 = .ok (.iload 4, 2) := by decide +kernel
theorem dX11_fittingShape_7 : decode cX11_fittingShape 7 = .ok (.aload_n 0, 1) := by decide +kernel
theorem dX11_fittingShape_8 : decode cX11_fittingShape 8 = .ok (.getfield 39, 3) := by decide +kernel
theorem dX11_fittingShape_11 : decode cX11_fittingShape 11 = .ok (.getfield 119, 3) := by decide +kernel
theorem dX11_fittingShape_14 : decode cX11_fittingShape 14 = .ok (.if_icmp .ge 54, 3) := by decide +kernel
theorem dX11_fittingShape_17 : decode cX11_fittingShape 17 = .ok (.aload_n 0, 1) := by decide +kernel
theorem dX11_fittingShape_18 : decode cX11_fittingShape 18 = .ok (.getfield 46, 3) := by decide +kernel
theorem dX11_fittingShape_21 : decode cX11_fittingShape 21 = .ok (.getfield 166, 3) := by decide +kernel
theorem dX11_fittingShape_24 : decode cX11_fittingShape 24 = .ok (.iload_n 1, 1) := by decide +kernel
theorem dX11_fittingShape_25 : decode cX11_fittingShape 25 = .ok (.iaload, 1) := by decide +kernel
theorem dX11_fittingShape_26 : decode cX11_fittingShape 26 = .ok (.iload 4, 2) := by decide +kernel
theorem dX11_fittingShape_28 : decode cX11_fittingShape 28 = .ok (.ishr, 1) := by decide +kernel
theorem dX11_fittingShape_29 : decode cX11_fittingShape 29 = .ok (.iconst 1, 1) := by decide +kernel
theorem dX11_fittingShape_30 : decode cX11_fittingShape 30 = .ok (.iand, 1) := by decide +kernel
theorem dX11_fittingShape_31 : decode cX11_fittingShape 31 = .ok (.iconst 1, 1) := by decide +kernel
theorem dX11_fittingShape_32 : decode cX11_fittingShape 32 = .ok (.if_icmp .ne 30, 3) := by decide +kernel
theorem dX11_fittingShape_35 : decode cX11_fittingShape 35 = .ok (.aload_n 0, 1) := by decide +kernel
theorem dX11_fittingShape_36 : decode cX11_fittingShape 36 = .ok (.getfield 39, 3) := by decide +kernel
theorem dX11_fittingShape_39 : decode cX11_fittingShape 39 = .ok (.getfield 133, 3) := by decide +kernel
theorem dX11_fittingShape_42 : decode cX11_fittingShape 42 = .ok (.iload 4, 2) := by decide +kernel
theorem dX11_fittingShape_44 : decode cX11_fittingShape 44 = .ok (.iaload, 1) := by decide +kernel
theorem dX11_fittingShape_45 : decode cX11_fittingShape 45 = .ok (.iload_n 2, 1) := by decide +kernel
theorem dX11_fittingShape_46 : decode cX11_fittingShape 46 = .ok (.if_icmp .ne 16, 3) := by decide +kernel
theorem dX11_fittingShape_49 : decode cX11_fittingShape 49 = .ok (.iload_n 3, 1) := by decide +kernel
theorem dX11_fittingShape_50 : decode cX11_fittingShape 50 = .ok (.aload_n 0, 1) := by decide +kernel
theorem dX11_fittingShape_51 : decode cX11_fittingShape 51 = .ok (.getfield 39, 3) := by decide +kernel
theorem dX11_fittingShape_54 : decode cX11_fittingShape 54 = .ok (.getfield 272, 3) := by decide +kernel
theorem dX11_fittingShape_57 : decode cX11_fittingShape 57 = .ok (.iload 4, 2) := by decide +kernel
theorem dX11_fittingShape_59 : decode cX11_fittingShape 59 = .ok (.iaload, 1) := by decide +kernel
theorem dX11_fittingShape_60 : decode cX11_fittingShape 60 = .ok (.ior, 1) := by decide +kernel
theorem dX11_fittingShape_61 : decode cX11_fittingShape 61 = .ok (.istore_n 3, 1) := by decide +kernel
theorem dX11_fittingShape_62 : decode cX11_fittingShape 62 = .ok (.iinc 4 1, 3) := by decide +kernel
theorem dX11_fittingShape_65 : decode cX11_fittingShape 65 = .ok (.goto (-60), 3) := by decide +kernel
theorem dX11_fittingShape_68 : decode cX11_fittingShape 68 = .ok (.iload_n 3, 1) := by decide +kernel
theorem dX11_fittingShape_69 : decode cX11_fittingShape 69 = .ok (.ireturn, 1) := by decide +kernel
set_option maxHeartbeats 4000000 in
set_option maxRecDepth 100000 in
theorem c_X11_fittingShape (l : Launch) (D : va_G) (cs : Nat → ClassId) (kK kV : Nat → Nat) (a : Nat) (p0 : Int32) (p1 : Int32) (a_tape : Nat) (a_fairReader : Nat) (a_ruleReader : Nat) (a_rules : Nat) (a__ruleCount : Int32) (a_told : Nat) (a_scene : Nat) (a_spare : Nat) (a_past : Nat) (a__pastFirst : Int32) (a__pastCount : Int32) (a_trials : Nat) (a_images : Nat) (a_pairs : Nat) (a_walker : Nat) (a_market : Nat) (a__x : Int32) (a_told__stalls : Int32) (a_told__shift : Int32) (a_told__halves : Int32) (a_told__buyers : Int32) (a_told__near : Int32) (a_told__dusk : Int32) (a_told__duskPrice : Int32) (a_told__hear : Int32) (a_told__forged : Int32) (a_told_stall : Nat) (a_told_shape : Nat) (a_told_side : Nat) (a_told_price : Nat) (a_told_purse : Nat) (a_told_spot : Nat) (a_told_club : Nat) (a_told_fitting : Nat) (a_told_nearly : Nat) (a_scene__hour : Int32) (a_scene_purse : Nat) (a_scene_spot : Nat) (a_scene_seen : Nat) (a_scene_has : Nat) (a_scene_at : Nat) (a_scene_has_c : Nat → Int32) (a_told_shape_c : Nat → Int32) (a_told_fitting_c : Nat → Int32) (h_p0 : IV 0 3 p0) (h_a_told__halves : IV 0 12 a_told__halves) : Met l yX11_fittingShape (hz_w yX11_fittingShape cX11_fittingShape 5 (some .int)) ({ frames := 0, cells := 0, slots := 0, locals := 0 }) (va_Pc [.ref a, .int p0, .int p1] (hz_P D cs kK kV [(a, .inr (11, [.ref a_tape, .ref a_fairReader, .ref a_ruleReader, .ref a_rules, .int a__ruleCount, .ref a_told, .ref a_scene, .ref a_spare, .ref a_past, .int a__pastFirst, .int a__pastCount, .ref a_trials, .ref a_images, .ref a_pairs, .ref a_walker, .ref a_market, .int a__x])), (a_told, .inr (8, [.int a_told__stalls, .int a_told__shift, .int a_told__halves, .int a_told__buyers, .int a_told__near, .int a_told__dusk, .int a_told__duskPrice, .int a_told__hear, .int a_told__forged, .ref a_told_stall, .ref a_told_shape, .ref a_told_side, .ref a_told_price, .ref a_told_purse, .ref a_told_spot, .ref a_told_club, .ref a_told_fitting, .ref a_told_nearly])), (a_scene, .inr (6, [.int a_scene__hour, .ref a_scene_purse, .ref a_scene_spot, .ref a_scene_seen, .ref a_scene_has, .ref a_scene_at])), (a_scene_has, .inl (cs 0, 4, .inl a_scene_has_c)), (a_told_shape, .inl (cs 0, 12, .inl a_told_shape_c)), (a_told_fitting, .inl (cs 0, 12, .inl a_told_fitting_c))])) (va_Qi (fun (r : Int32) (_ : Unit) => True) (fun _ t => True) (fun _ => False)) 0 0 (fun _ => False) := by
  refine Met.ofW (cc := cX11_fittingShape) (maxL := 5) (ret := (some .int)) (by decide) rfl ?_
  intro p e s m args below meth c s₁ B hml hv
  obtain ⟨rfl, hP, hE⟩ := hv
  have hx := B.exec
  have hb := B.bytes
  have hr := B.returns
  have hT : ∀ w ∈ TB, w.before _ s = true := fun w h => atoms_spec (ws := hz_w yX11_fittingShape cX11_fittingShape 5 (some .int)) B.pre w (List.mem_cons_of_mem _ h)
  have hown : s.vm.findClass RX11 = some m.cls := findClass_of_methodNamed B.named
  have hlocks := B.notSynchronized
  clear B
  have hS : va_S (fun _ => False) s.heap s.heap [] := va_S.rf
  have hK := hE.1
  have hl := lv_entry ([.ref a, .int p0, .int p1]) (n := 5) (Nat.le_of_ble_eq_true rfl)
  rw [lg_entry_eq]
  generalize (lg_sl ([.ref a, .int p0, .int p1]) ++ List.replicate (5 - (lg_sl ([.ref a, .int p0, .int p1])).length) Slot.unset).toArray = ls at hl ⊢
  have hl : lv_has ls 5 [(0, .ref a), (1, .int p0), (2, .int p1)] := hl
  obtain ⟨H, eH⟩ : ∃ z, z = s.heap := ⟨_, rfl⟩
  have hP : va_P D classes [(a, .inr (11, [.ref a_tape, .ref a_fairReader, .ref a_ruleReader, .ref a_rules, .int a__ruleCount, .ref a_told, .ref a_scene, .ref a_spare, .ref a_past, .int a__pastFirst, .int a__pastCount, .ref a_trials, .ref a_images, .ref a_pairs, .ref a_walker, .ref a_market, .int a__x])), (a_told, .inr (8, [.int a_told__stalls, .int a_told__shift, .int a_told__halves, .int a_told__buyers, .int a_told__near, .int a_told__dusk, .int a_told__duskPrice, .int a_told__hear, .int a_told__forged, .ref a_told_stall, .ref a_told_shape, .ref a_told_side, .ref a_told_price, .ref a_told_purse, .ref a_told_spot, .ref a_told_club, .ref a_told_fitting, .ref a_told_nearly])), (a_scene, .inr (6, [.int a_scene__hour, .ref a_scene_purse, .ref a_scene_spot, .ref a_scene_seen, .ref a_scene_has, .ref a_scene_at])), (a_scene_has, .inl (cs 0, 4, .inl a_scene_has_c)), (a_told_shape, .inl (cs 0, 12, .inl a_told_shape_c)), (a_told_fitting, .inl (cs 0, 12, .inl a_told_fitting_c))] H := by rw [eH]; exact hP
  have hS : va_S (fun _ => False) s.heap H [] := by rw [eH]; exact hS
  rw [← eH]
  clear eH
  obtain ⟨locs, el⟩ : ∃ z : List Loc, z = [] := ⟨_, rfl⟩
  rw [← el] at hS ⊢
  clear el
  have K5 : ∀ (n : Nat) (k5_L_4 : Int32) (k5_L_3 : Int32), (12 - k5_L_4.toInt + 1).toNat ≤ n → IV 0 12 k5_L_4 → ∀ (H : Heap) (locs : List Loc), va_P D classes [(a, .inr (11, [.ref a_tape, .ref a_fairReader, .ref a_ruleReader, .ref a_rules, .int a__ruleCount, .ref a_told, .ref a_scene, .ref a_spare, .ref a_past, .int a__pastFirst, .int a__pastCount, .ref a_trials, .ref a_images, .ref a_pairs, .ref a_walker, .ref a_market, .int a__x])), (a_told, .inr (8, [.int a_told__stalls, .int a_told__shift, .int a_told__halves, .int a_told__buyers, .int a_told__near, .int a_told__dusk, .int a_told__duskPrice, .int a_told__hear, .int a_told__forged, .ref a_told_stall, .ref a_told_shape, .ref a_told_side, .ref a_told_price, .ref a_told_purse, .ref a_told_spot, .ref a_told_club, .ref a_told_fitting, .ref a_told_nearly])), (a_scene, .inr (6, [.int a_scene__hour, .ref a_scene_purse, .ref a_scene_spot, .ref a_scene_seen, .ref a_scene_has, .ref a_scene_at])), (a_scene_has, .inl (cs 0, 4, .inl a_scene_has_c)), (a_told_shape, .inl (cs 0, 12, .inl a_told_shape_c)), (a_told_fitting, .inl (cs 0, 12, .inl a_told_fitting_c))] H → va_S (fun _ => False) s.heap H locs → ∀ ls : Array Slot, lv_has ls 5 [(4, .int k5_L_4), (3, .int k5_L_3), (0, .ref a), (1, .int p0), (2, .int p1)] → W p l e (headSpec (hz_w yX11_fittingShape cX11_fittingShape 5 (some .int)) ({ frames := 0, cells := 0, slots := 0, locals := 0 })).room s m [.ref a, .int p0, .int p1].toArray below meth c H locs 0 0 (MQ below (va_Qi (fun (r : Int32) (_ : Unit) => True) (fun _ t => True) (fun _ => False)) [.ref a, .int p0, .int p1].toArray s 0 0 (fun _ => False)) (F0 m 5 ls []) := by
    intro n
    induction n with
    | zero =>
      intro k5_L_4 k5_L_3 hn q5_6 H locs hP hS ls hl
      exact absurd hn (by unfold IV at q5_6; omega)
    | succ n ih5 =>
      intro k5_L_4 k5_L_3 hn q5_6 H locs hP hS ls hl
      have K62 : ∀ (k62_L_3 : Int32), IV 1 12 a_told__halves → IV 0 11 k5_L_4 → ∀ (H : Heap) (locs : List Loc), va_P D classes [(a, .inr (11, [.ref a_tape, .ref a_fairReader, .ref a_ruleReader, .ref a_rules, .int a__ruleCount, .ref a_told, .ref a_scene, .ref a_spare, .ref a_past, .int a__pastFirst, .int a__pastCount, .ref a_trials, .ref a_images, .ref a_pairs, .ref a_walker, .ref a_market, .int a__x])), (a_told, .inr (8, [.int a_told__stalls, .int a_told__shift, .int a_told__halves, .int a_told__buyers, .int a_told__near, .int a_told__dusk, .int a_told__duskPrice, .int a_told__hear, .int a_told__forged, .ref a_told_stall, .ref a_told_shape, .ref a_told_side, .ref a_told_price, .ref a_told_purse, .ref a_told_spot, .ref a_told_club, .ref a_told_fitting, .ref a_told_nearly])), (a_scene, .inr (6, [.int a_scene__hour, .ref a_scene_purse, .ref a_scene_spot, .ref a_scene_seen, .ref a_scene_has, .ref a_scene_at])), (a_scene_has, .inl (cs 0, 4, .inl a_scene_has_c)), (a_told_shape, .inl (cs 0, 12, .inl a_told_shape_c)), (a_told_fitting, .inl (cs 0, 12, .inl a_told_fitting_c))] H → va_S (fun _ => False) s.heap H locs → ∀ ls : Array Slot, lv_has ls 5 [(4, .int k5_L_4), (3, .int k62_L_3), (0, .ref a), (1, .int p0), (2, .int p1)] → W p l e (headSpec (hz_w yX11_fittingShape cX11_fittingShape 5 (some .int)) ({ frames := 0, cells := 0, slots := 0, locals := 0 })).room s m [.ref a, .int p0, .int p1].toArray below meth c H locs 0 0 (MQ below (va_Qi (fun (r : Int32) (_ : Unit) => True) (fun _ t => True) (fun _ => False)) [.ref a, .int p0, .int p1].toArray s 0 0 (fun _ => False)) (F0 m 62 ls []) := by
        intro k62_L_3 q62_4 q62_6 H locs hP hS ls hl
        obtain ⟨v1, ev1⟩ : ∃ z : Int32, z = k5_L_4 + 1 := ⟨_, rfl⟩
        have hv1 : IV 1 12 v1 := iv_add ev1 q62_6 (iv_c (a := 1) (b := 1) (by decide)) (by decide) (by decide)
        have dv1 : v1.toInt = k5_L_4.toInt + 1 := iv_addE ev1 q62_6 (iv_c (a := 1) (b := 1) (by decide)) (by decide) (by decide) (by decide)
        refine lv_iinc (v := v1) (lv' := [(4, .int v1), (3, .int k62_L_3), (0, .ref a), (1, .int p0), (2, .int p1)]) hx hb dX11_fittingShape_62 hl (k := 0) rfl (by rw [ev1]; rfl) (by decide) rfl (fun ls hl => ?_)
        refine lv_goto (tgt := 5) hx hb dX11_fittingShape_65 (by decide) ?_
        exact ih5 v1 k62_L_3 (by have h9 := q62_6; unfold IV at h9; have := dv1; omega) (iv_w hv1 (by decide) (by decide)) H locs (hP.sub (ws' := [(a, .inr (11, [.ref a_tape, .ref a_fairReader, .ref a_ruleReader, .ref a_rules, .int a__ruleCount, .ref a_told, .ref a_scene, .ref a_spare, .ref a_past, .int a__pastFirst, .int a__pastCount, .ref a_trials, .ref a_images, .ref a_pairs, .ref a_walker, .ref a_market, .int a__x])), (a_told, .inr (8, [.int a_told__stalls, .int a_told__shift, .int a_told__halves, .int a_told__buyers, .int a_told__near, .int a_told__dusk, .int a_told__duskPrice, .int a_told__hear, .int a_told__forged, .ref a_told_stall, .ref a_told_shape, .ref a_told_side, .ref a_told_price, .ref a_told_purse, .ref a_told_spot, .ref a_told_club, .ref a_told_fitting, .ref a_told_nearly])), (a_scene, .inr (6, [.int a_scene__hour, .ref a_scene_purse, .ref a_scene_spot, .ref a_scene_seen, .ref a_scene_has, .ref a_scene_at])), (a_scene_has, .inl (cs 0, 4, .inl a_scene_has_c)), (a_told_shape, .inl (cs 0, 12, .inl a_told_shape_c)), (a_told_fitting, .inl (cs 0, 12, .inl a_told_fitting_c))]) [0, 1, 2, 3, 4, 5] rfl) hS ls (lv_sub hl [0, 1, 2, 3, 4] rfl)
      refine lv_iload hx hb dX11_fittingShape_5 (lv_at hl 0 rfl) ?_
      refine lv_aload_n hx hb dX11_fittingShape_7 rfl (lv_at hl 2 rfl) ?_
      refine va_get (D := D) (ci := 11) (v := .ref a_told) (C := RX11) (T := TX11) (N := 17) hx hb hT i_X11 hown hK hP 0 rfl rfl 5 (by decide) (hT _ q_4) (fun _ h9 => h9) rfl dX11_fittingShape_8 ?_
      refine va_get (D := D) (ci := 8) (v := .int a_told__halves) (C := RX8) (T := TX8) (N := 18) hx hb hT i_X8 hown hK hP 1 rfl rfl 2 (by decide) (hT _ q_16) (fun _ h9 => h9) rfl dX11_fittingShape_11 ?_
      refine lv_icmp_ge (tgt := 68) hx hb dX11_fittingShape_14 (by decide) (fun c2 => ?_) (fun c2 => ?_)
      · refine lv_iload_n hx hb dX11_fittingShape_68 rfl (lv_at hl 1 rfl) ?_
        exact W.iret (v := k5_L_3) hx hb hr (fun t ht hW => ⟨⟨k5_L_3, (), rfl, trivial, trivial⟩, hS.F ht⟩) hS.2.2 dX11_fittingShape_69
      · have h3 : IV 0 11 k5_L_4 := iv_lt1 (Int32.not_le.mp c2) q5_6 h_a_told__halves (by decide)
        have h4 : IV 1 12 a_told__halves := iv_lt2 (Int32.not_le.mp c2) q5_6 h_a_told__halves (by decide)
        refine lv_aload_n hx hb dX11_fittingShape_17 rfl (lv_at hl 2 rfl) ?_
        refine va_get (D := D) (ci := 11) (v := .ref a_scene) (C := RX11) (T := TX11) (N := 17) hx hb hT i_X11 hown hK hP 0 rfl rfl 6 (by decide) (hT _ q_5) (fun _ h9 => h9) rfl dX11_fittingShape_18 ?_
        refine va_get (D := D) (ci := 6) (v := .ref a_scene_has) (C := RX6) (T := TX6) (N := 6) hx hb hT i_X6 hown hK hP 2 rfl rfl 4 (by decide) (hT _ q_24) (fun _ h9 => h9) rfl dX11_fittingShape_21 ?_
        refine lv_iload_n hx hb dX11_fittingShape_24 rfl (lv_at hl 3 rfl) ?_
        refine va_iald hx hb hK hP 3 0 rfl rfl (iv_v h_p0 (by decide) (by decide)) dX11_fittingShape_25 ?_
        refine lv_topi (fun v5 ev5 => ?_)
        refine lv_iload hx hb dX11_fittingShape_26 (lv_at hl 0 rfl) ?_
        refine lv_ishr hx hb dX11_fittingShape_28 ?_
        refine lv_topi (fun v6 ev6 => ?_)
        refine lv_iconst (v := 1) hx hb dX11_fittingShape_29 (by decide) ?_
        refine lv_iand hx hb dX11_fittingShape_30 ?_
        refine lv_topi (fun v7 ev7 => ?_)
        have hv7 : IV 0 1 v7 := iv_and2 ev7 (iv_c (a := 1) (b := 1) (by decide))
        refine lv_iconst (v := 1) hx hb dX11_fittingShape_31 (by decide) ?_
        refine lv_icmp_ne (tgt := 62) hx hb dX11_fittingShape_32 (by decide) (fun c8 => ?_) (fun c8 => ?_)
        · have h9 : IV 0 0 v7 := iv_neR c8 hv7 (by decide)
          exact K62 k5_L_3 h4 h3 H locs (hP.sub (ws' := [(a, .inr (11, [.ref a_tape, .ref a_fairReader, .ref a_ruleReader, .ref a_rules, .int a__ruleCount, .ref a_told, .ref a_scene, .ref a_spare, .ref a_past, .int a__pastFirst, .int a__pastCount, .ref a_trials, .ref a_images, .ref a_pairs, .ref a_walker, .ref a_market, .int a__x])), (a_told, .inr (8, [.int a_told__stalls, .int a_told__shift, .int a_told__halves, .int a_told__buyers, .int a_told__near, .int a_told__dusk, .int a_told__duskPrice, .int a_told__hear, .int a_told__forged, .ref a_told_stall, .ref a_told_shape, .ref a_told_side, .ref a_told_price, .ref a_told_purse, .ref a_told_spot, .ref a_told_club, .ref a_told_fitting, .ref a_told_nearly])), (a_scene, .inr (6, [.int a_scene__hour, .ref a_scene_purse, .ref a_scene_spot, .ref a_scene_seen, .ref a_scene_has, .ref a_scene_at])), (a_scene_has, .inl (cs 0, 4, .inl a_scene_has_c)), (a_told_shape, .inl (cs 0, 12, .inl a_told_shape_c)), (a_told_fitting, .inl (cs 0, 12, .inl a_told_fitting_c))]) [0, 1, 2, 3, 4, 5] rfl) hS ls (lv_sub hl [0, 1, 2, 3, 4] rfl)
        · have h10 : IV 1 1 v7 := iv_eq1 c8 hv7 (iv_c (a := 1) (b := 1) (by decide)) (by decide) (by decide)
          refine lv_aload_n hx hb dX11_fittingShape_35 rfl (lv_at hl 2 rfl) ?_
          refine va_get (D := D) (ci := 11) (v := .ref a_told) (C := RX11) (T := TX11) (N := 17) hx hb hT i_X11 hown hK hP 0 rfl rfl 5 (by decide) (hT _ q_4) (fun _ h9 => h9) rfl dX11_fittingShape_36 ?_
          refine va_get (D := D) (ci := 8) (v := .ref a_told_shape) (C := RX8) (T := TX8) (N := 18) hx hb hT i_X8 hown hK hP 1 rfl rfl 10 (by decide) (hT _ q_18) (fun _ h9 => h9) rfl dX11_fittingShape_39 ?_
          refine lv_iload hx hb dX11_fittingShape_42 (lv_at hl 0 rfl) ?_
          refine va_iald hx hb hK hP 4 0 rfl rfl (iv_v h3 (by decide) (by decide)) dX11_fittingShape_44 ?_
          refine lv_topi (fun v11 ev11 => ?_)
          refine lv_iload_n hx hb dX11_fittingShape_45 rfl (lv_at hl 4 rfl) ?_
          refine lv_icmp_ne (tgt := 62) hx hb dX11_fittingShape_46 (by decide) (fun c12 => ?_) (fun c12 => ?_)
          · exact K62 k5_L_3 h4 h3 H locs (hP.sub (ws' := [(a, .inr (11, [.ref a_tape, .ref a_fairReader, .ref a_ruleReader, .ref a_rules, .int a__ruleCount, .ref a_told, .ref a_scene, .ref a_spare, .ref a_past, .int a__pastFirst, .int a__pastCount, .ref a_trials, .ref a_images, .ref a_pairs, .ref a_walker, .ref a_market, .int a__x])), (a_told, .inr (8, [.int a_told__stalls, .int a_told__shift, .int a_told__halves, .int a_told__buyers, .int a_told__near, .int a_told__dusk, .int a_told__duskPrice, .int a_told__hear, .int a_told__forged, .ref a_told_stall, .ref a_told_shape, .ref a_told_side, .ref a_told_price, .ref a_told_purse, .ref a_told_spot, .ref a_told_club, .ref a_told_fitting, .ref a_told_nearly])), (a_scene, .inr (6, [.int a_scene__hour, .ref a_scene_purse, .ref a_scene_spot, .ref a_scene_seen, .ref a_scene_has, .ref a_scene_at])), (a_scene_has, .inl (cs 0, 4, .inl a_scene_has_c)), (a_told_shape, .inl (cs 0, 12, .inl a_told_shape_c)), (a_told_fitting, .inl (cs 0, 12, .inl a_told_fitting_c))]) [0, 1, 2, 3, 4, 5] rfl) hS ls (lv_sub hl [0, 1, 2, 3, 4] rfl)
          · refine lv_iload_n hx hb dX11_fittingShape_49 rfl (lv_at hl 1 rfl) ?_
            refine lv_aload_n hx hb dX11_fittingShape_50 rfl (lv_at hl 2 rfl) ?_
            refine va_get (D := D) (ci := 11) (v := .ref a_told) (C := RX11) (T := TX11) (N := 17) hx hb hT i_X11 hown hK hP 0 rfl rfl 5 (by decide) (hT _ q_4) (fun _ h9 => h9) rfl dX11_fittingShape_51 ?_
            refine va_get (D := D) (ci := 8) (v := .ref a_told_fitting) (C := RX8) (T := TX8) (N := 18) hx hb hT i_X8 hown hK hP 1 rfl rfl 16 (by decide) (hT _ q_33) (fun _ h9 => h9) rfl dX11_fittingShape_54 ?_
            refine lv_iload hx hb dX11_fittingShape_57 (lv_at hl 0 rfl) ?_
            refine va_iald hx hb hK hP 5 0 rfl rfl (iv_v h3 (by decide) (by decide)) dX11_fittingShape_59 ?_
            refine lv_topi (fun v13 ev13 => ?_)
            refine lv_ior hx hb dX11_fittingShape_60 ?_
            refine lv_topi (fun v14 ev14 => ?_)
            refine lv_istore_n (lv' := [(3, .int v14), (4, .int k5_L_4), (0, .ref a), (1, .int p0), (2, .int p1)]) hx hb dX11_fittingShape_61 rfl hl (by decide) rfl (fun ls hl => ?_)
            exact K62 v14 h4 h3 H locs (hP.sub (ws' := [(a, .inr (11, [.ref a_tape, .ref a_fairReader, .ref a_ruleReader, .ref a_rules, .int a__ruleCount, .ref a_told, .ref a_scene, .ref a_spare, .ref a_past, .int a__pastFirst, .int a__pastCount, .ref a_trials, .ref a_images, .ref a_pairs, .ref a_walker, .ref a_market, .int a__x])), (a_told, .inr (8, [.int a_told__stalls, .int a_told__shift, .int a_told__halves, .int a_told__buyers, .int a_told__near, .int a_told__dusk, .int a_told__duskPrice, .int a_told__hear, .int a_told__forged, .ref a_told_stall, .ref a_told_shape, .ref a_told_side, .ref a_told_price, .ref a_told_purse, .ref a_told_spot, .ref a_told_club, .ref a_told_fitting, .ref a_told_nearly])), (a_scene, .inr (6, [.int a_scene__hour, .ref a_scene_purse, .ref a_scene_spot, .ref a_scene_seen, .ref a_scene_has, .ref a_scene_at])), (a_scene_has, .inl (cs 0, 4, .inl a_scene_has_c)), (a_told_shape, .inl (cs 0, 12, .inl a_told_shape_c)), (a_told_fitting, .inl (cs 0, 12, .inl a_told_fitting_c))]) [0, 1, 2, 3, 4, 5] rfl) hS ls (lv_sub hl [1, 0, 2, 3, 4] rfl)
  refine lv_iconst (v := 0) hx hb dX11_fittingShape_0 (by decide) ?_
  refine lv_istore_n (lv' := [(3, .int 0), (0, .ref a), (1, .int p0), (2, .int p1)]) hx hb dX11_fittingShape_1 rfl hl (by decide) rfl (fun ls hl => ?_)
  refine lv_iconst (v := 0) hx hb dX11_fittingShape_2 (by decide) ?_
  refine lv_istore (lv' := [(4, .int 0), (3, .int 0), (0, .ref a), (1, .int p0), (2, .int p1)]) hx hb dX11_fittingShape_3 hl (by decide) rfl (fun ls hl => ?_)
  exact K5 _ 0 0 (Nat.le_refl _) (iv_c (by decide)) H locs (hP.sub (ws' := [(a, .inr (11, [.ref a_tape, .ref a_fairReader, .ref a_ruleReader, .ref a_rules, .int a__ruleCount, .ref a_told, .ref a_scene, .ref a_spare, .ref a_past, .int a__pastFirst, .int a__pastCount, .ref a_trials, .ref a_images, .ref a_pairs, .ref a_walker, .ref a_market, .int a__x])), (a_told, .inr (8, [.int a_told__stalls, .int a_told__shift, .int a_told__halves, .int a_told__buyers, .int a_told__near, .int a_told__dusk, .int a_told__duskPrice, .int a_told__hear, .int a_told__forged, .ref a_told_stall, .ref a_told_shape, .ref a_told_side, .ref a_told_price, .ref a_told_purse, .ref a_told_spot, .ref a_told_club, .ref a_told_fitting, .ref a_told_nearly])), (a_scene, .inr (6, [.int a_scene__hour, .ref a_scene_purse, .ref a_scene_spot, .ref a_scene_seen, .ref a_scene_has, .ref a_scene_at])), (a_scene_has, .inl (cs 0, 4, .inl a_scene_has_c)), (a_told_shape, .inl (cs 0, 12, .inl a_told_shape_c)), (a_told_fitting, .inl (cs 0, 12, .inl a_told_fitting_c))]) [0, 1, 2, 3, 4, 5] rfl) hS ls (lv_sub hl [0, 1, 2, 3, 4] rfl)
set_option maxHeartbeats 4000000 in
set_option maxRecDepth 100000 in
theorem c_J9_min_7cf53_111 (l : Launch) (D : va_G) (cs : Nat → ClassId) (kK kV : Nat → Nat) (p0 : Int32) (h_p0 : IV 0 2147483647 p0) : Met l yJ9_min_7cf53 (hz_w yJ9_min_7cf53 cJ9_min_7cf53 2 (some .int)) ({ frames := 0, cells := 0, slots := 0, locals := 0 }) (va_Pc [.int p0, .int 24] (hz_P D cs kK kV [])) (va_Qi (fun (r : Int32) (_ : Unit) => (r = 24 ∧ IV 25 2147483647 p0) ∨ (IV 0 24 r ∧ IV 0 24 p0)) (fun _ t => True) (fun _ => False)) 0 0 (fun _ => False) := by
  refine hz_ofW (cc := cJ9_min_7cf53) (maxL := 2) (ret := (some .int)) (by decide +kernel) rfl ?_
  intro p e s m args below meth c s₁ B hml hv
  obtain ⟨rfl, hP, hE⟩ := hv
  have hx := B.exec
  have hb := B.bytes
  have hr := B.returns
  have hT : ∀ w ∈ TB, w.before _ s = true := fun w h => atoms_spec (ws := hz_w yJ9_min_7cf53 cJ9_min_7cf53 2 (some .int)) B.pre w (List.mem_cons_of_mem _ h)
  have hown : s.vm.findClass RJ9 = some m.cls := findClass_of_methodNamed B.named
  have hlocks := B.notSynchronized
  clear B
  have hS : va_S (fun _ => False) s.heap s.heap [] := va_S.rf
  have hK := hE.1
  have hl := lv_entry ([.int p0, .int 24]) (n := 2) (Nat.le_of_ble_eq_true rfl)
  rw [lg_entry_eq]
  generalize (lg_sl ([.int p0, .int 24]) ++ List.replicate (2 - (lg_sl ([.int p0, .int 24])).length) Slot.unset).toArray = ls at hl ⊢
  have hl : lv_has ls 2 [(0, .int p0), (1, .int 24)] := hl
  obtain ⟨H, eH⟩ : ∃ z, z = s.heap := ⟨_, rfl⟩
  have hP : va_P D classes [] H := by rw [eH]; exact hP
  have hS : va_S (fun _ => False) s.heap H [] := by rw [eH]; exact hS
  rw [← eH]
  clear eH
  obtain ⟨locs, el⟩ : ∃ z : List Loc, z = [] := ⟨_, rfl⟩
  rw [← el] at hS ⊢
  clear el
  refine lv_iload_n hx hb dJ9_min_7cf53_0 rfl (lv_at hl 0 rfl) ?_
  refine lv_iload_n hx hb dJ9_min_7cf53_1 rfl (lv_at hl 1 rfl) ?_
  refine lv_icmp_gt (tgt := 9) hx hb dJ9_min_7cf53_2 (by decide) (fun c1 => ?_) (fun c1 => ?_)
  · have h2 : IV 25 2147483647 p0 := iv_lt2 c1 (iv_c (a := 24) (b := 24) (by decide)) h_p0 (by decide)
    refine lv_iload_n hx hb dJ9_min_7cf53_9 rfl (lv_at hl 1 rfl) ?_
    exact W.iret (v := 24) hx hb hr (fun t ht hW => ⟨⟨24, (), rfl, (Or.inl (⟨rfl, h2⟩)), trivial⟩, hS.F ht⟩) hS.2.2 dJ9_min_7cf53_10
  · have h3 : IV 0 24 p0 := iv_le1 (Int32.not_lt.mp c1) h_p0 (iv_c (a := 24) (b := 24) (by decide)) (by decide)
    refine lv_iload_n hx hb dJ9_min_7cf53_5 rfl (lv_at hl 0 rfl) ?_
    refine lv_goto (tgt := 10) hx hb dJ9_min_7cf53_6 (by decide) ?_
    exact W.iret (v := p0) hx hb hr (fun t ht hW => ⟨⟨p0, (), rfl, (Or.inr ((⟨h3, h3⟩))), trivial⟩, hS.F ht⟩) hS.2.2 dJ9_min_7cf53_10
theorem dX11_hoursByRule_0 : decode cX11_hoursByRule 0 = .ok (.aload_n 0, 1) := by decide +kernel
theorem dX11_hoursByRule_1 : decode cX11_hoursByRule 1 = .ok (.getfield 39, 3) := by decide +kernel
theorem dX11_hoursByRule_4 : decode cX11_hoursByRule 4 = .ok (.aload_n 0, 1) := by decide +kernel
theorem dX11_hoursByRule_5 : decode cX11_hoursByRule 5 = .ok (.getfield 46, 3) := by decide +kernel
theorem dX11_hoursByRule_8 : decode cX11_hoursByRule 8 = .ok (.getfield 140, 3) := by decide +kernel
theorem dX11_hoursByRule_11 : decode cX11_hoursByRule 11 = .ok (.invokevirtual 252, 3) := by decide +kernel
theorem dX11_hoursByRule_14 : decode cX11_hoursByRule 14 = .ok (.bipush 24, 2) := by decide +kernel
theorem dX11_hoursByRule_16 : decode cX11_hoursByRule 16 = .ok (.invokestatic 286, 3) := by decide +kernel
theorem dX11_hoursByRule_19 : decode cX11_hoursByRule 19 = .ok (.ireturn, 1) := by decide +kernel
set_option maxHeartbeats 4000000 in
set_option maxRecDepth 100000 in
theorem c_X11_hoursByRule (l : Launch) (D : va_G) (cs : Nat → ClassId) (kK kV : Nat → Nat) (a : Nat) (a_tape : Nat) (a_fairReader : Nat) (a_ruleReader : Nat) (a_rules : Nat) (a__ruleCount : Int32) (a_told : Nat) (a_scene : Nat) (a_spare : Nat) (a_past : Nat) (a__pastFirst : Int32) (a__pastCount : Int32) (a_trials : Nat) (a_images : Nat) (a_pairs : Nat) (a_walker : Nat) (a_market : Nat) (a__x : Int32) (a_scene__hour : Int32) (a_scene_purse : Nat) (a_scene_spot : Nat) (a_scene_seen : Nat) (a_scene_has : Nat) (a_scene_at : Nat) (a_told__stalls : Int32) (a_told__shift : Int32) (a_told__halves : Int32) (a_told__buyers : Int32) (a_told__near : Int32) (a_told__dusk : Int32) (a_told__duskPrice : Int32) (a_told__hear : Int32) (a_told__forged : Int32) (a_told_stall : Nat) (a_told_shape : Nat) (a_told_side : Nat) (a_told_price : Nat) (a_told_purse : Nat) (a_told_spot : Nat) (a_told_club : Nat) (a_told_fitting : Nat) (a_told_nearly : Nat)  : Met l yX11_hoursByRule (hz_w yX11_hoursByRule cX11_hoursByRule 1 (some .int)) ({ frames := 2, cells := 0, slots := 0, locals := 42 }) (va_Pc [.ref a] (hz_P D cs kK kV [(a, .inr (11, [.ref a_tape, .ref a_fairReader, .ref a_ruleReader, .ref a_rules, .int a__ruleCount, .ref a_told, .ref a_scene, .ref a_spare, .ref a_past, .int a__pastFirst, .int a__pastCount, .ref a_trials, .ref a_images, .ref a_pairs, .ref a_walker, .ref a_market, .int a__x])), (a_scene, .inr (6, [.int a_scene__hour, .ref a_scene_purse, .ref a_scene_spot, .ref a_scene_seen, .ref a_scene_has, .ref a_scene_at])), (a_told, .inr (8, [.int a_told__stalls, .int a_told__shift, .int a_told__halves, .int a_told__buyers, .int a_told__near, .int a_told__dusk, .int a_told__duskPrice, .int a_told__hear, .int a_told__forged, .ref a_told_stall, .ref a_told_shape, .ref a_told_side, .ref a_told_price, .ref a_told_purse, .ref a_told_spot, .ref a_told_club, .ref a_told_fitting, .ref a_told_nearly]))])) (va_Qi (fun (r : Int32) (_ : Unit) => IV 0 24 r) (fun _ t => True) (fun _ => False)) 0 0 (fun _ => False) := by
  refine Met.ofW (cc := cX11_hoursByRule) (maxL := 1) (ret := (some .int)) (by decide) rfl ?_
  intro p e s m args below meth c s₁ B hml hv
  obtain ⟨rfl, hP, hE⟩ := hv
  have hx := B.exec
  have hb := B.bytes
  have hr := B.returns
  have hT : ∀ w ∈ TB, w.before _ s = true := fun w h => atoms_spec (ws := hz_w yX11_hoursByRule cX11_hoursByRule 1 (some .int)) B.pre w (List.mem_cons_of_mem _ h)
  have hown : s.vm.findClass RX11 = some m.cls := findClass_of_methodNamed B.named
  have hlocks := B.notSynchronized
  clear B
  have hS : va_S (fun _ => False) s.heap s.heap [] := va_S.rf
  have hK := hE.1
  have hl := lv_entry ([.ref a]) (n := 1) (Nat.le_of_ble_eq_true rfl)
  rw [lg_entry_eq]
  generalize (lg_sl ([.ref a]) ++ List.replicate (1 - (lg_sl ([.ref a])).length) Slot.unset).toArray = ls at hl ⊢
  have hl : lv_has ls 1 [(0, .ref a)] := hl
  obtain ⟨H, eH⟩ : ∃ z, z = s.heap := ⟨_, rfl⟩
  have hP : va_P D classes [(a, .inr (11, [.ref a_tape, .ref a_fairReader, .ref a_ruleReader, .ref a_rules, .int a__ruleCount, .ref a_told, .ref a_scene, .ref a_spare, .ref a_past, .int a__pastFirst, .int a__pastCount, .ref a_trials, .ref a_images, .ref a_pairs, .ref a_walker, .ref a_market, .int a__x])), (a_scene, .inr (6, [.int a_scene__hour, .ref a_scene_purse, .ref a_scene_spot, .ref a_scene_seen, .ref a_scene_has, .ref a_scene_at])), (a_told, .inr (8, [.int a_told__stalls, .int a_told__shift, .int a_told__halves, .int a_told__buyers, .int a_told__near, .int a_told__dusk, .int a_told__duskPrice, .int a_told__hear, .int a_told__forged, .ref a_told_stall, .ref a_told_shape, .ref a_told_side, .ref a_told_price, .ref a_told_purse, .ref a_told_spot, .ref a_told_club, .ref a_told_fitting, .ref a_told_nearly]))] H := by rw [eH]; exact hP
  have hS : va_S (fun _ => False) s.heap H [] := by rw [eH]; exact hS
  rw [← eH]
  clear eH
  obtain ⟨locs, el⟩ : ∃ z : List Loc, z = [] := ⟨_, rfl⟩
  rw [← el] at hS ⊢
  clear el
  refine lv_aload_n hx hb dX11_hoursByRule_0 rfl (lv_at hl 0 rfl) ?_
  refine va_get (D := D) (ci := 11) (v := .ref a_told) (C := RX11) (T := TX11) (N := 17) hx hb hT i_X11 hown hK hP 0 rfl rfl 5 (by decide) (hT _ q_4) (fun _ h9 => h9) rfl dX11_hoursByRule_1 ?_
  refine lv_aload_n hx hb dX11_hoursByRule_4 rfl (lv_at hl 0 rfl) ?_
  refine va_get (D := D) (ci := 11) (v := .ref a_scene) (C := RX11) (T := TX11) (N := 17) hx hb hT i_X11 hown hK hP 0 rfl rfl 6 (by decide) (hT _ q_5) (fun _ h9 => h9) rfl dX11_hoursByRule_5 ?_
  refine va_get (D := D) (ci := 6) (v := .int a_scene__hour) (C := RX6) (T := TX6) (N := 6) hx hb hT i_X6 hown hK hP 1 rfl rfl 0 (by decide) (hT _ q_20) (fun _ h9 => h9) rfl dX11_hoursByRule_8 ?_
  refine va_calli (va_runV (As := [.int a_scene__hour]) (rest := []) ⟨hx, hb, hml, hown, hT⟩ (c_X8_left l D cs kK kV a_told a_scene__hour a_told__stalls a_told__shift a_told__halves a_told__buyers a_told__near a_told__dusk a_told__duskPrice a_told__hear a_told__forged a_told_stall a_told_shape a_told_side a_told_price a_told_purse a_told_spot a_told_club a_told_fitting a_told_nearly) (cwV 1 hT (hz_gV q_347 q_348 q_349 q_251 q_350) rfl rfl rfl (by decide +kernel) ⟨(Nat.le_of_ble_eq_true rfl), (Nat.le_of_ble_eq_true rfl)⟩) ⟨hz_P.blind, va_recv hK hP (ci := 8) (q0 := 2) rfl rfl, hz_P.mk (hP.sub (ws' := [(a_told, .inr (8, [.int a_told__stalls, .int a_told__shift, .int a_told__halves, .int a_told__buyers, .int a_told__near, .int a_told__dusk, .int a_told__duskPrice, .int a_told__hear, .int a_told__forged, .ref a_told_stall, .ref a_told_shape, .ref a_told_side, .ref a_told_price, .ref a_told_purse, .ref a_told_spot, .ref a_told_club, .ref a_told_fitting, .ref a_told_nearly]))]) [2] rfl) hE hS⟩ rfl rfl hl.1 rfl (lv_room (Nat.le_of_ble_eq_true rfl)) dX11_hoursByRule_11 ⟨(Nat.le_of_ble_eq_true rfl), (Nat.le_of_ble_eq_true rfl)⟩) hS (fun _ _ h => h.elim) (fun _ h => h.elim) (fun r1 u t H1 locs ht hvm hw hB hz1 hk1 hS => ?_)
  have hP := hz_keep hP hk1
  clear hk1 hB hz1
  generalize H1 = H at hP hS ⊢
  have hw_r1 := hw
  refine lv_bipush (v := 24) hx hb dX11_hoursByRule_14 (by decide) ?_
  refine va_calli (va_runS (As := [.int r1, .int 24]) (rest := []) ⟨hx, hb, hml, hown, hT⟩ (c_J9_min_7cf53_111 l D cs kK kV r1 hw_r1) (va_cwS 2 hT (hz_gS q_375 q_376 q_369 q_377) rfl rfl rfl (by decide +kernel) ⟨(Nat.le_of_ble_eq_true rfl), (Nat.le_of_ble_eq_true rfl)⟩) ⟨hz_P.blind, hz_P.mk (hP.sub (ws' := []) [] rfl) hE hS⟩ rfl rfl hl.1 rfl (lv_room (Nat.le_of_ble_eq_true rfl)) dX11_hoursByRule_16 ⟨(Nat.le_of_ble_eq_true rfl), (Nat.le_of_ble_eq_true rfl)⟩) hS (fun _ _ h => h.elim) (fun _ h => h.elim) (fun r2 u t H1 locs ht hvm hw hB hz1 hk1 hS => ?_)
  have hP := hz_keep hP hk1
  clear hk1 hB hz1
  generalize H1 = H at hP hS ⊢
  rcases hw with ⟨rfl, h3⟩ | ⟨h4, h5⟩
  · exact W.iret (v := 24) hx hb hr (fun t ht hW => ⟨⟨24, (), rfl, (iv_c (by decide)), trivial⟩, hS.F ht⟩) hS.2.2 dX11_hoursByRule_19
  · exact W.iret (v := r2) hx hb hr (fun t ht hW => ⟨⟨r2, (), rfl, h4, trivial⟩, hS.F ht⟩) hS.2.2 dX11_hoursByRule_19
